theorem dX12_plain_0 : decode cX12_plain 0 = .ok (.iload_n 1, 1) := by decide +kernel
theorem dX12_plain_1 : decode cX12_plain 1 = .ok (.bipush 32, 2) := by decide +kernel
theorem dX12_plain_3 : decode cX12_plain 3 = .ok (.if_icmp .lt 11, 3) := by decide +kernel
theorem dX12_plain_6 : decode cX12_plain 6 = .ok (.aload_n 0, 1) := by decide +kernel
theorem dX12_plain_7 : decode cX12_plain 7 = .ok (.iload_n 1, 1) := by decide +kernel
theorem dX12_plain_8 : decode cX12_plain 8 = .ok (.invokevirtual 298, 3) := by decide +kernel
theorem dX12_plain_11 : decode cX12_plain 11 = .ok (.goto 224, 3) := by decide +kernel
theorem dX12_plain_14 : decode cX12_plain 14 = .ok (.iload_n 1, 1) := by decide +kernel
theorem dX12_plain_15 : decode cX12_plain 15 = .ok (.bipush 8, 2) := by decide +kernel
theorem dX12_plain_17 : decode cX12_plain 17 = .ok (.if_icmp .ne 29, 3) := by decide +kernel
theorem dX12_plain_20 : decode cX12_plain 20 = .ok (.aload_n 0, 1) := by decide +kernel
theorem dX12_plain_21 : decode cX12_plain 21 = .ok (.aload_n 0, 1) := by decide +kernel
theorem dX12_plain_22 : decode cX12_plain 22 = .ok (.getfield 9, 3) := by decide +kernel
theorem dX12_plain_25 : decode cX12_plain 25 = .ok (.sipush 189, 3) := by decide +kernel
theorem dX12_plain_28 : decode cX12_plain 28 = .ok (.iaload, 1) := by decide +kernel
theorem dX12_plain_29 : decode cX12_plain 29 = .ok (.i2l, 1) := by decide +kernel
theorem dX12_plain_30 : decode cX12_plain 30 = .ok (.aload_n 0, 1) := by decide +kernel
theorem dX12_plain_31 : decode cX12_plain 31 = .ok (.getfield 9, 3) := by decide +kernel
theorem dX12_plain_34 : decode cX12_plain 34 = .ok (.sipush 188, 3) := by decide +kernel
theorem dX12_plain_37 : decode cX12_plain 37 = .ok (.iaload, 1) := by decide +kernel
theorem dX12_plain_38 : decode cX12_plain 38 = .ok (.i2l, 1) := by decide +kernel
theorem dX12_plain_39 : decode cX12_plain 39 = .ok (.lsub, 1) := by decide +kernel
theorem dX12_plain_40 : decode cX12_plain 40 = .ok (.invokevirtual 210, 3) := by decide +kernel
theorem dX12_plain_43 : decode cX12_plain 43 = .ok (.goto 192, 3) := by decide +kernel
theorem dX12_plain_46 : decode cX12_plain 46 = .ok (.iload_n 1, 1) := by decide +kernel
theorem dX12_plain_47 : decode cX12_plain 47 = .ok (.bipush 9, 2) := by decide +kernel
theorem dX12_plain_49 : decode cX12_plain 49 = .ok (.if_icmp .ne 10, 3) := by decide +kernel
theorem dX12_plain_52 : decode cX12_plain 52 = .ok (.aload_n 0, 1) := by decide +kernel
theorem dX12_plain_53 : decode cX12_plain 53 = .ok (.invokevirtual 301, 3) := by decide +kernel
theorem dX12_plain_56 : decode cX12_plain 56 = .ok (.goto 179, 3) := by decide +kernel
theorem dX12_plain_59 : decode cX12_plain 59 = .ok (.iload_n 1, 1) := by decide +kernel
theorem dX12_plain_60 : decode cX12_plain 60 = .ok (.bipush 10, 2) := by decide +kernel
theorem dX12_plain_62 : decode cX12_plain 62 = .ok (.if_icmp .ne 39, 3) := by decide +kernel
theorem dX12_plain_65 : decode cX12_plain 65 = .ok (.aload_n 0, 1) := by decide +kernel
theorem dX12_plain_66 : decode cX12_plain 66 = .ok (.aload_n 0, 1) := by decide +kernel
theorem dX12_plain_67 : decode cX12_plain 67 = .ok (.getfield 9, 3) := by decide +kernel
theorem dX12_plain_70 : decode cX12_plain 70 = .ok (.bipush 6, 2) := by decide +kernel
theorem dX12_plain_72 : decode cX12_plain 72 = .ok (.iaload, 1) := by decide +kernel
theorem dX12_plain_73 : decode cX12_plain 73 = .ok (.invokevirtual 304, 3) := by decide +kernel
theorem dX12_plain_76 : decode cX12_plain 76 = .ok (.aload_n 0, 1) := by decide +kernel
theorem dX12_plain_77 : decode cX12_plain 77 = .ok (.getfield 9, 3) := by decide +kernel
theorem dX12_plain_80 : decode cX12_plain 80 = .ok (.bipush 10, 2) := by decide +kernel
theorem dX12_plain_82 : decode cX12_plain 82 = .ok (.iaload, 1) := by decide +kernel
theorem dX12_plain_83 : decode cX12_plain 83 = .ok (.iconst 2, 1) := by decide +kernel
theorem dX12_plain_84 : decode cX12_plain 84 = .ok (.if_icmp .lt 151, 3) := by decide +kernel
theorem dX12_plain_87 : decode cX12_plain 87 = .ok (.aload_n 0, 1) := by decide +kernel
theorem dX12_plain_88 : decode cX12_plain 88 = .ok (.aload_n 0, 1) := by decide +kernel
theorem dX12_plain_89 : decode cX12_plain 89 = .ok (.getfield 9, 3) := by decide +kernel
theorem dX12_plain_92 : decode cX12_plain 92 = .ok (.iconst 2, 1) := by decide +kernel
theorem dX12_plain_93 : decode cX12_plain 93 = .ok (.iaload, 1) := by decide +kernel
theorem dX12_plain_94 : decode cX12_plain 94 = .ok (.i2l, 1) := by decide +kernel
theorem dX12_plain_95 : decode cX12_plain 95 = .ok (.invokevirtual 210, 3) := by decide +kernel
theorem dX12_plain_98 : decode cX12_plain 98 = .ok (.goto 137, 3) := by decide +kernel
theorem dX12_plain_101 : decode cX12_plain 101 = .ok (.iload_n 1, 1) := by decide +kernel
theorem dX12_plain_102 : decode cX12_plain 102 = .ok (.bipush 12, 2) := by decide +kernel
theorem dX12_plain_104 : decode cX12_plain 104 = .ok (.if_icmp .ne 36, 3) := by decide +kernel
theorem dX12_plain_107 : decode cX12_plain 107 = .ok (.aload_n 0, 1) := by decide +kernel
theorem dX12_plain_108 : decode cX12_plain 108 = .ok (.invokevirtual 307, 3) := by decide +kernel
theorem dX12_plain_111 : decode cX12_plain 111 = .ok (.aload_n 0, 1) := by decide +kernel
theorem dX12_plain_112 : decode cX12_plain 112 = .ok (.invokevirtual 213, 3) := by decide +kernel
theorem dX12_plain_115 : decode cX12_plain 115 = .ok (.aload_n 0, 1) := by decide +kernel
theorem dX12_plain_116 : decode cX12_plain 116 = .ok (.getfield 9, 3) := by decide +kernel
theorem dX12_plain_119 : decode cX12_plain 119 = .ok (.bipush 10, 2) := by decide +kernel
theorem dX12_plain_121 : decode cX12_plain 121 = .ok (.iaload, 1) := by decide +kernel
theorem dX12_plain_122 : decode cX12_plain 122 = .ok (.iconst 2, 1) := by decide +kernel
theorem dX12_plain_123 : decode cX12_plain 123 = .ok (.if_icmp .lt 112, 3) := by decide +kernel
theorem dX12_plain_126 : decode cX12_plain 126 = .ok (.aload_n 0, 1) := by decide +kernel
theorem dX12_plain_127 : decode cX12_plain 127 = .ok (.aload_n 0, 1) := by decide +kernel
theorem dX12_plain_128 : decode cX12_plain 128 = .ok (.getfield 9, 3) := by decide +kernel
theorem dX12_plain_131 : decode cX12_plain 131 = .ok (.iconst 2, 1) := by decide +kernel
theorem dX12_plain_132 : decode cX12_plain 132 = .ok (.iaload, 1) := by decide +kernel
theorem dX12_plain_133 : decode cX12_plain 133 = .ok (.i2l, 1) := by decide +kernel
theorem dX12_plain_134 : decode cX12_plain 134 = .ok (.invokevirtual 210, 3) := by decide +kernel
theorem dX12_plain_137 : decode cX12_plain 137 = .ok (.goto 98, 3) := by decide +kernel
theorem dX12_plain_140 : decode cX12_plain 140 = .ok (.iload_n 1, 1) := by decide +kernel
theorem dX12_plain_141 : decode cX12_plain 141 = .ok (.bipush 13, 2) := by decide +kernel
theorem dX12_plain_143 : decode cX12_plain 143 = .ok (.if_icmp .ne 41, 3) := by decide +kernel
theorem dX12_plain_146 : decode cX12_plain 146 = .ok (.aload_n 0, 1) := by decide +kernel
theorem dX12_plain_147 : decode cX12_plain 147 = .ok (.aload_n 0, 1) := by decide +kernel
theorem dX12_plain_148 : decode cX12_plain 148 = .ok (.getfield 9, 3) := by decide +kernel
theorem dX12_plain_151 : decode cX12_plain 151 = .ok (.iconst 2, 1) := by decide +kernel
theorem dX12_plain_152 : decode cX12_plain 152 = .ok (.iaload, 1) := by decide +kernel
theorem dX12_plain_153 : decode cX12_plain 153 = .ok (.i2l, 1) := by decide +kernel
theorem dX12_plain_154 : decode cX12_plain 154 = .ok (.invokevirtual 210, 3) := by decide +kernel
theorem dX12_plain_157 : decode cX12_plain 157 = .ok (.aload_n 0, 1) := by decide +kernel
theorem dX12_plain_158 : decode cX12_plain 158 = .ok (.getfield 9, 3) := by decide +kernel
theorem dX12_plain_161 : decode cX12_plain 161 = .ok (.bipush 10, 2) := by decide +kernel
theorem dX12_plain_163 : decode cX12_plain 163 = .ok (.iaload, 1) := by decide +kernel
theorem dX12_plain_164 : decode cX12_plain 164 = .ok (.iconst 2, 1) := by decide +kernel
theorem dX12_plain_165 : decode cX12_plain 165 = .ok (.irem, 1) := by decide +kernel
theorem dX12_plain_166 : decode cX12_plain 166 = .ok (.iconst 1, 1) := by decide +kernel
theorem dX12_plain_167 : decode cX12_plain 167 = .ok (.if_icmp .ne 68, 3) := by decide +kernel
theorem dX12_plain_170 : decode cX12_plain 170 = .ok (.aload_n 0, 1) := by decide +kernel
theorem dX12_plain_171 : decode cX12_plain 171 = .ok (.aload_n 0, 1) := by decide +kernel
theorem dX12_plain_172 : decode cX12_plain 172 = .ok (.getfield 9, 3) := by decide +kernel
theorem dX12_plain_175 : decode cX12_plain 175 = .ok (.bipush 6, 2) := by decide +kernel
theorem dX12_plain_177 : decode cX12_plain 177 = .ok (.iaload, 1) := by decide +kernel
theorem dX12_plain_178 : decode cX12_plain 178 = .ok (.invokevirtual 304, 3) := by decide +kernel
theorem dX12_plain_181 : decode cX12_plain 181 = .ok (.goto 54, 3) := by decide +kernel
theorem dX12_plain_184 : decode cX12_plain 184 = .ok (.iload_n 1, 1) := by decide +kernel
theorem dX12_plain_185 : decode cX12_plain 185 = .ok (.bipush 14, 2) := by decide +kernel
theorem dX12_plain_187 : decode cX12_plain 187 = .ok (.if_icmp .eq 9, 3) := by decide +kernel
theorem dX12_plain_190 : decode cX12_plain 190 = .ok (.iload_n 1, 1) := by decide +kernel
theorem dX12_plain_191 : decode cX12_plain 191 = .ok (.bipush 15, 2) := by decide +kernel
theorem dX12_plain_193 : decode cX12_plain 193 = .ok (.if_icmp .ne 42, 3) := by decide +kernel
theorem dX12_plain_196 : decode cX12_plain 196 = .ok (.aload_n 0, 1) := by decide +kernel
theorem dX12_plain_197 : decode cX12_plain 197 = .ok (.getfield 9, 3) := by decide +kernel
theorem dX12_plain_200 : decode cX12_plain 200 = .ok (.bipush 28, 2) := by decide +kernel
theorem dX12_plain_202 : decode cX12_plain 202 = .ok (.iload_n 1, 1) := by decide +kernel
theorem dX12_plain_203 : decode cX12_plain 203 = .ok (.bipush 14, 2) := by decide +kernel
theorem dX12_plain_205 : decode cX12_plain 205 = .ok (.if_icmp .ne 7, 3) := by decide +kernel
theorem dX12_plain_208 : decode cX12_plain 208 = .ok (.iconst 1, 1) := by decide +kernel
theorem dX12_plain_209 : decode cX12_plain 209 = .ok (.goto 4, 3) := by decide +kernel
theorem dX12_plain_212 : decode cX12_plain 212 = .ok (.iconst 0, 1) := by decide +kernel
theorem dX12_plain_213 : decode cX12_plain 213 = .ok (.iastore, 1) := by decide +kernel
theorem dX12_plain_214 : decode cX12_plain 214 = .ok (.aload_n 0, 1) := by decide +kernel
theorem dX12_plain_215 : decode cX12_plain 215 = .ok (.getfield 9, 3) := by decide +kernel
theorem dX12_plain_218 : decode cX12_plain 218 = .ok (.bipush 7, 2) := by decide +kernel
theorem dX12_plain_220 : decode cX12_plain 220 = .ok (.aload_n 0, 1) := by decide +kernel
theorem dX12_plain_221 : decode cX12_plain 221 = .ok (.getfield 23, 3) := by decide +kernel
theorem dX12_plain_224 : decode cX12_plain 224 = .ok (.bipush 7, 2) := by decide +kernel
theorem dX12_plain_226 : decode cX12_plain 226 = .ok (.aload_n 0, 1) := by decide +kernel
theorem dX12_plain_227 : decode cX12_plain 227 = .ok (.invokevirtual 310, 3) := by decide +kernel
theorem dX12_plain_230 : decode cX12_plain 230 = .ok (.imul, 1) := by decide +kernel
theorem dX12_plain_231 : decode cX12_plain 231 = .ok (.iconst 1, 1) := by decide +kernel
theorem dX12_plain_232 : decode cX12_plain 232 = .ok (.iadd, 1) := by decide +kernel
theorem dX12_plain_233 : decode cX12_plain 233 = .ok (.iaload, 1) := by decide +kernel
theorem dX12_plain_234 : decode cX12_plain 234 = .ok (.iastore, 1) := by decide +kernel
theorem dX12_plain_235 : decode cX12_plain 235 = .ok (.return_, 1) := by decide +kernel
noncomputable def f_X12_plain_213 (G : Int32 → Mm → Option (Unit × Mm)) (b0 : Int32) (b1 : Int32) (T : Mm) : Option (Unit × Mm) :=
  ix b1 192 fun j1 => lb (uA T 134 j1 (b0)) fun T3 =>
  bd (f_X12_fontInUse T3) fun v4 T5 =>
  ix (((7 : Int32) * v4) + 1) 119 fun j6 =>
  lb (uA T5 134 7 ((gA T5 138 j6))) fun T8 =>
  some ((), T8)
set_option maxRecDepth 100000 in
set_option maxHeartbeats 4000000 in
theorem s_X12_plain_213 {x : JX} {ad : Nat → Nat} {U : Mm} {S0 : Hp} {q : Unit × Mm} {D : Nat} {G : Int32 → Mm → Option (Unit × Mm)}  (hn9 : x_n x = 2) (C : CB x RX12 cX12_plain) (M : CMr x (D + 4) none S0 ad false U eV q) (hD : 40 ≤ D) (hG : ∀ (i : Int32) (T : Mm) (q : Unit × Mm), G i T = some q → Cr D yX12_through cX12_through 8 none [.ref (ad 133), .int i] ad false U T eV q) (b0 : Int32) (b1 : Int32) (T : Mm) (h : f_X12_plain_213 G  b0 b1 T = some q) : Jr x ad false U T [(0, .ref (ad 133))] 213 [.int b0, .int b1, .ref (ad 134)] := by
  unfold f_X12_plain_213 at h
  refine r_iast (n := 192) C dX12_plain_213 kq_134 lq_134 h (fun j1 T3 hj2 h => ?_)
  refine r_aload_n C dX12_plain_214 rfl 0 rfl ?_
  refine r_getp (f := 1200) (j := 134) C flX12_9 dX12_plain_215 kq_133 (by decide) rfl (fun W => pt_1200 kq_133 W) ?_
  refine r_bipush (v := 7) C dX12_plain_218 (by decide) ?_
  refine r_aload_n C dX12_plain_220 rfl 0 rfl ?_
  show Jr _ _ _ _ _ _ 221 _
  refine r_getp (f := 1204) (j := 138) C flX12_23 dX12_plain_221 kq_133 (by decide) rfl (fun W => pt_1204 kq_133 W) ?_
  refine r_bipush (v := 7) C dX12_plain_224 (by decide) ?_
  refine r_aload_n C dX12_plain_226 rfl 0 rfl ?_
  refine r_callVI C M h [] [.int 7, .ref (ad 138), .int 7, .ref (ad 134)] mlX12_310 mcX12_fontInUse (fun q9 e9 => s_X12_fontInUse   e9) kq_133 rfl (by omega) (by decide) rfl rfl (Nat.le_of_ble_eq_true rfl) dX12_plain_227 (fun v4 T5 h => ?_)
  refine r_imul C dX12_plain_230 rfl ?_
  refine r_iconst (v := 1) C dX12_plain_231 (by decide) ?_
  show Jr _ _ _ _ _ _ 232 _
  refine r_iadd C dX12_plain_232 rfl ?_
  refine r_iald (n := 119) C dX12_plain_233 kq_138 lq_138 h (fun j6 hj7 h => ?_)
  refine r_iastc (n := 192) C 7 dX12_plain_234 kq_134 lq_134 (vp_lit (by decide)) (by decide) h (fun T8 h => ?_)
  exact r_vret C M dX12_plain_235 h
noncomputable def f_X12_plain_196 (G : Int32 → Mm → Option (Unit × Mm)) (a1 : Int32) (T : Mm) : Option (Unit × Mm) :=
  if a1 = 14 then (f_X12_plain_213 G 1 28 T)
  else (f_X12_plain_213 G 0 28 T)
set_option maxRecDepth 100000 in
set_option maxHeartbeats 4000000 in
theorem s_X12_plain_196 {x : JX} {ad : Nat → Nat} {U : Mm} {S0 : Hp} {q : Unit × Mm} {D : Nat} {G : Int32 → Mm → Option (Unit × Mm)}  (hn9 : x_n x = 2) (C : CB x RX12 cX12_plain) (M : CMr x (D + 4) none S0 ad false U eV q) (hD : 40 ≤ D) (hG : ∀ (i : Int32) (T : Mm) (q : Unit × Mm), G i T = some q → Cr D yX12_through cX12_through 8 none [.ref (ad 133), .int i] ad false U T eV q) (a1 : Int32) (T : Mm) (h : f_X12_plain_196 G  a1 T = some q) : Jr x ad false U T [(0, .ref (ad 133)), (1, .int a1)] 196 [] := by
  unfold f_X12_plain_196 at h
  refine r_aload_n C dX12_plain_196 rfl 0 rfl ?_
  refine r_getp (f := 1200) (j := 134) C flX12_9 dX12_plain_197 kq_133 (by decide) rfl (fun W => pt_1200 kq_133 W) ?_
  refine r_bipush (v := 28) C dX12_plain_200 (by decide) ?_
  refine r_iload_n C dX12_plain_202 rfl 1 rfl ?_
  refine r_bipush (v := 14) C dX12_plain_203 (by decide) ?_
  show Jr _ _ _ _ _ _ 205 _
  refine r_ic_ne (tgt := 212) C dX12_plain_205 (by decide) h (fun h => ?_) (fun h => ?_)
  · refine r_iconst (v := 0) C dX12_plain_212 (by decide) ?_
    refine Jr.sub [0] (lv' := [(0, .ref (ad 133))]) rfl ?_
    exact s_X12_plain_213 hn9 C M hD hG  0 28 T h
  · refine r_iconst (v := 1) C dX12_plain_208 (by decide) ?_
    refine r_goto (tgt := 213) C dX12_plain_209 (by decide) ?_
    refine Jr.sub [0] (lv' := [(0, .ref (ad 133))]) rfl ?_
    exact s_X12_plain_213 hn9 C M hD hG  1 28 T h
noncomputable def f_X12_plain (G : Int32 → Mm → Option (Unit × Mm)) (p1 : Int32) (T : Mm) : Option (Unit × Mm) :=
  if p1 < 32 then (if p1 = 8 then (bd (f_X12_setX ((((gA T 134 189)).toInt64) - (((gA T 134 188)).toInt64)) T) fun _ T9 =>
  some ((), T9))
  else (if p1 = 9 then (bd (f_X12_tab T) fun _ T8 =>
  some ((), T8))
  else (if p1 = 10 then (bd (f_X12_line G (gA T 134 6) T) fun _ T6 =>
  if (gA T6 134 10) < 2 then (some ((), T6))
  else (bd (f_X12_setX (((gA T6 134 2)).toInt64) T6) fun _ T7 =>
  some ((), T7)))
  else (if p1 = 12 then (bd (f_X12_eject G T) fun _ T3 =>
  bd (f_X12_homeY T3) fun _ T4 =>
  if (gA T4 134 10) < 2 then (some ((), T4))
  else (bd (f_X12_setX (((gA T4 134 2)).toInt64) T4) fun _ T5 =>
  some ((), T5)))
  else (if p1 = 13 then (bd (f_X12_setX (((gA T 134 2)).toInt64) T) fun _ T1 =>
  if ((gA T1 134 10) - (gA T1 134 10) / 2 * 2) = 1 then (bd (f_X12_line G (gA T1 134 6) T1) fun _ T2 =>
  some ((), T2))
  else (some ((), T1)))
  else (if p1 = 14 then (f_X12_plain_196 G p1 T)
  else (if p1 = 15 then (f_X12_plain_196 G p1 T)
  else (some ((), T)))))))))
  else (bd (f_X12_show G p1 T) fun _ T10 =>
  some ((), T10))
set_option maxRecDepth 100000 in
set_option maxHeartbeats 4000000 in
theorem s_X12_plain {ad : Nat → Nat} {U T : Mm} {q : Unit × Mm} {D : Nat} {G : Int32 → Mm → Option (Unit × Mm)}  (hD : 40 ≤ D) (hG : ∀ (i : Int32) (T : Mm) (q : Unit × Mm), G i T = some q → Cr D yX12_through cX12_through 8 none [.ref (ad 133), .int i] ad false U T eV q) (p1 : Int32) (h : f_X12_plain G p1 T = some q) : Cr (D + 4) yX12_plain cX12_plain 2 none [.ref (ad 133), .int p1] ad false U T eV q := by
  refine cr_of (by decide) (Nat.le_of_ble_eq_true rfl) fun x S0 hn9 C M => ?_
  have C : CB x RX12 cX12_plain := C
  refine Jr.eq (lv' := [(0, .ref (ad 133)), (1, .int p1)]) (st' := []) rfl rfl ?_
  unfold f_X12_plain at h
  refine r_iload_n C dX12_plain_0 rfl 1 rfl ?_
  refine r_bipush (v := 32) C dX12_plain_1 (by decide) ?_
  refine r_ic_lt (tgt := 14) C dX12_plain_3 (by decide) h (fun h => ?_) (fun h => ?_)
  · refine r_iload_n C dX12_plain_14 rfl 1 rfl ?_
    refine r_bipush (v := 8) C dX12_plain_15 (by decide) ?_
    refine r_ic_ne (tgt := 46) C dX12_plain_17 (by decide) h (fun h => ?_) (fun h => ?_)
    · refine r_iload_n C dX12_plain_46 rfl 1 rfl ?_
      refine r_bipush (v := 9) C dX12_plain_47 (by decide) ?_
      refine r_ic_ne (tgt := 59) C dX12_plain_49 (by decide) h (fun h => ?_) (fun h => ?_)
      · refine r_iload_n C dX12_plain_59 rfl 1 rfl ?_
        refine r_bipush (v := 10) C dX12_plain_60 (by decide) ?_
        refine r_ic_ne (tgt := 101) C dX12_plain_62 (by decide) h (fun h => ?_) (fun h => ?_)
        · refine r_iload_n C dX12_plain_101 rfl 1 rfl ?_
          refine r_bipush (v := 12) C dX12_plain_102 (by decide) ?_
          refine r_ic_ne (tgt := 140) C dX12_plain_104 (by decide) h (fun h => ?_) (fun h => ?_)
          · refine r_iload_n C dX12_plain_140 rfl 1 rfl ?_
            refine r_bipush (v := 13) C dX12_plain_141 (by decide) ?_
            refine r_ic_ne (tgt := 184) C dX12_plain_143 (by decide) h (fun h => ?_) (fun h => ?_)
            · refine r_iload_n C dX12_plain_184 rfl 1 rfl ?_
              refine r_bipush (v := 14) C dX12_plain_185 (by decide) ?_
              refine r_ic_eq (tgt := 196) C dX12_plain_187 (by decide) h (fun h => ?_) (fun h => ?_)
              · exact s_X12_plain_196 hn9 C M hD hG  p1 T h
              · refine r_iload_n C dX12_plain_190 rfl 1 rfl ?_
                refine r_bipush (v := 15) C dX12_plain_191 (by decide) ?_
                refine r_ic_ne (tgt := 235) C dX12_plain_193 (by decide) h (fun h => ?_) (fun h => ?_)
                · exact r_vret C M dX12_plain_235 h
                · exact s_X12_plain_196 hn9 C M hD hG  p1 T h
            · refine r_aload_n C dX12_plain_146 rfl 0 rfl ?_
              refine r_aload_n C dX12_plain_147 rfl 0 rfl ?_
              refine r_getp (f := 1200) (j := 134) C flX12_9 dX12_plain_148 kq_133 (by decide) rfl (fun W => pt_1200 kq_133 W) ?_
              refine r_iconst (v := 2) C dX12_plain_151 (by decide) ?_
              refine r_ialdc (n := 192) C 2 dX12_plain_152 kq_134 lq_134 (vp_lit (by decide)) (by decide) ?_
              show Jr _ _ _ _ _ _ 153 _
              refine r_i2l C dX12_plain_153 rfl ?_
              refine r_callVN C M h [.long (((gA T 134 2)).toInt64)] [] mlX12_210 mcX12_setX (fun q9 e9 => s_X12_setX (((gA T 134 2)).toInt64)  e9) kq_133 rfl (by omega) (by decide) rfl rfl (Nat.le_of_ble_eq_true rfl) dX12_plain_154 (fun _ T1 h => ?_)
              refine r_aload_n C dX12_plain_157 rfl 0 rfl ?_
              refine r_getp (f := 1200) (j := 134) C flX12_9 dX12_plain_158 kq_133 (by decide) rfl (fun W => pt_1200 kq_133 W) ?_
              refine r_bipush (v := 10) C dX12_plain_161 (by decide) ?_
              refine r_ialdc (n := 192) C 10 dX12_plain_163 kq_134 lq_134 (vp_lit (by decide)) (by decide) ?_
              show Jr _ _ _ _ _ _ 164 _
              refine r_iconst (v := 2) C dX12_plain_164 (by decide) ?_
              refine r_irem C dX12_plain_165 (by decide) rfl ?_
              refine r_iconst (v := 1) C dX12_plain_166 (by decide) ?_
              refine r_ic_ne (tgt := 235) C dX12_plain_167 (by decide) h (fun h => ?_) (fun h => ?_)
              · exact r_vret C M dX12_plain_235 h
              · refine r_aload_n C dX12_plain_170 rfl 0 rfl ?_
                refine r_aload_n C dX12_plain_171 rfl 0 rfl ?_
                refine r_getp (f := 1200) (j := 134) C flX12_9 dX12_plain_172 kq_133 (by decide) rfl (fun W => pt_1200 kq_133 W) ?_
                refine r_bipush (v := 6) C dX12_plain_175 (by decide) ?_
                refine r_ialdc (n := 192) C 6 dX12_plain_177 kq_134 lq_134 (vp_lit (by decide)) (by decide) ?_
                show Jr _ _ _ _ _ _ 178 _
                refine r_callVN C M h [.int (gA T1 134 6)] [] mlX12_304 mcX12_line (fun q9 e9 => s_X12_line hD (fun i9 T9 q9 e9 => hG i9 T9 q9 e9) (gA T1 134 6)  e9) kq_133 rfl (by omega) (by decide) rfl rfl (Nat.le_of_ble_eq_true rfl) dX12_plain_178 (fun _ T2 h => ?_)
                refine r_goto (tgt := 235) C dX12_plain_181 (by decide) ?_
                exact r_vret C M dX12_plain_235 h
          · refine r_aload_n C dX12_plain_107 rfl 0 rfl ?_
            refine r_callVN C M h [] [] mlX12_307 mcX12_eject (fun q9 e9 => s_X12_eject hD (fun i9 T9 q9 e9 => hG i9 T9 q9 e9)   e9) kq_133 rfl (by omega) (by decide) rfl rfl (Nat.le_of_ble_eq_true rfl) dX12_plain_108 (fun _ T3 h => ?_)
            refine r_aload_n C dX12_plain_111 rfl 0 rfl ?_
            refine r_callVN C M h [] [] mlX12_213 mcX12_homeY (fun q9 e9 => s_X12_homeY   e9) kq_133 rfl (by omega) (by decide) rfl rfl (Nat.le_of_ble_eq_true rfl) dX12_plain_112 (fun _ T4 h => ?_)
            refine r_aload_n C dX12_plain_115 rfl 0 rfl ?_
            show Jr _ _ _ _ _ _ 116 _
            refine r_getp (f := 1200) (j := 134) C flX12_9 dX12_plain_116 kq_133 (by decide) rfl (fun W => pt_1200 kq_133 W) ?_
            refine r_bipush (v := 10) C dX12_plain_119 (by decide) ?_
            refine r_ialdc (n := 192) C 10 dX12_plain_121 kq_134 lq_134 (vp_lit (by decide)) (by decide) ?_
            refine r_iconst (v := 2) C dX12_plain_122 (by decide) ?_
            refine r_ic_lt (tgt := 235) C dX12_plain_123 (by decide) h (fun h => ?_) (fun h => ?_)
            · exact r_vret C M dX12_plain_235 h
            · refine r_aload_n C dX12_plain_126 rfl 0 rfl ?_
              refine r_aload_n C dX12_plain_127 rfl 0 rfl ?_
              refine r_getp (f := 1200) (j := 134) C flX12_9 dX12_plain_128 kq_133 (by decide) rfl (fun W => pt_1200 kq_133 W) ?_
              refine r_iconst (v := 2) C dX12_plain_131 (by decide) ?_
              refine r_ialdc (n := 192) C 2 dX12_plain_132 kq_134 lq_134 (vp_lit (by decide)) (by decide) ?_
              show Jr _ _ _ _ _ _ 133 _
              refine r_i2l C dX12_plain_133 rfl ?_
              refine r_callVN C M h [.long (((gA T4 134 2)).toInt64)] [] mlX12_210 mcX12_setX (fun q9 e9 => s_X12_setX (((gA T4 134 2)).toInt64)  e9) kq_133 rfl (by omega) (by decide) rfl rfl (Nat.le_of_ble_eq_true rfl) dX12_plain_134 (fun _ T5 h => ?_)
              refine r_goto (tgt := 235) C dX12_plain_137 (by decide) ?_
              exact r_vret C M dX12_plain_235 h
        · refine r_aload_n C dX12_plain_65 rfl 0 rfl ?_
          refine r_aload_n C dX12_plain_66 rfl 0 rfl ?_
          refine r_getp (f := 1200) (j := 134) C flX12_9 dX12_plain_67 kq_133 (by decide) rfl (fun W => pt_1200 kq_133 W) ?_
          refine r_bipush (v := 6) C dX12_plain_70 (by decide) ?_
          refine r_ialdc (n := 192) C 6 dX12_plain_72 kq_134 lq_134 (vp_lit (by decide)) (by decide) ?_
          show Jr _ _ _ _ _ _ 73 _
          refine r_callVN C M h [.int (gA T 134 6)] [] mlX12_304 mcX12_line (fun q9 e9 => s_X12_line hD (fun i9 T9 q9 e9 => hG i9 T9 q9 e9) (gA T 134 6)  e9) kq_133 rfl (by omega) (by decide) rfl rfl (Nat.le_of_ble_eq_true rfl) dX12_plain_73 (fun _ T6 h => ?_)
          refine r_aload_n C dX12_plain_76 rfl 0 rfl ?_
          refine r_getp (f := 1200) (j := 134) C flX12_9 dX12_plain_77 kq_133 (by decide) rfl (fun W => pt_1200 kq_133 W) ?_
          refine r_bipush (v := 10) C dX12_plain_80 (by decide) ?_
          refine r_ialdc (n := 192) C 10 dX12_plain_82 kq_134 lq_134 (vp_lit (by decide)) (by decide) ?_
          refine r_iconst (v := 2) C dX12_plain_83 (by decide) ?_
          show Jr _ _ _ _ _ _ 84 _
          refine r_ic_lt (tgt := 235) C dX12_plain_84 (by decide) h (fun h => ?_) (fun h => ?_)
          · exact r_vret C M dX12_plain_235 h
          · refine r_aload_n C dX12_plain_87 rfl 0 rfl ?_
            refine r_aload_n C dX12_plain_88 rfl 0 rfl ?_
            refine r_getp (f := 1200) (j := 134) C flX12_9 dX12_plain_89 kq_133 (by decide) rfl (fun W => pt_1200 kq_133 W) ?_
            refine r_iconst (v := 2) C dX12_plain_92 (by decide) ?_
            refine r_ialdc (n := 192) C 2 dX12_plain_93 kq_134 lq_134 (vp_lit (by decide)) (by decide) ?_
            show Jr _ _ _ _ _ _ 94 _
            refine r_i2l C dX12_plain_94 rfl ?_
            refine r_callVN C M h [.long (((gA T6 134 2)).toInt64)] [] mlX12_210 mcX12_setX (fun q9 e9 => s_X12_setX (((gA T6 134 2)).toInt64)  e9) kq_133 rfl (by omega) (by decide) rfl rfl (Nat.le_of_ble_eq_true rfl) dX12_plain_95 (fun _ T7 h => ?_)
            refine r_goto (tgt := 235) C dX12_plain_98 (by decide) ?_
            exact r_vret C M dX12_plain_235 h
      · refine r_aload_n C dX12_plain_52 rfl 0 rfl ?_
        refine r_callVN C M h [] [] mlX12_301 mcX12_tab (fun q9 e9 => s_X12_tab   e9) kq_133 rfl (by omega) (by decide) rfl rfl (Nat.le_of_ble_eq_true rfl) dX12_plain_53 (fun _ T8 h => ?_)
        refine r_goto (tgt := 235) C dX12_plain_56 (by decide) ?_
        exact r_vret C M dX12_plain_235 h
    · refine r_aload_n C dX12_plain_20 rfl 0 rfl ?_
      refine r_aload_n C dX12_plain_21 rfl 0 rfl ?_
      refine r_getp (f := 1200) (j := 134) C flX12_9 dX12_plain_22 kq_133 (by decide) rfl (fun W => pt_1200 kq_133 W) ?_
      refine r_sipush (v := 189) C dX12_plain_25 (by decide) ?_
      refine r_ialdc (n := 192) C 189 dX12_plain_28 kq_134 lq_134 (vp_lit (by decide)) (by decide) ?_
      show Jr _ _ _ _ _ _ 29 _
      refine r_i2l C dX12_plain_29 rfl ?_
      refine r_aload_n C dX12_plain_30 rfl 0 rfl ?_
      refine r_getp (f := 1200) (j := 134) C flX12_9 dX12_plain_31 kq_133 (by decide) rfl (fun W => pt_1200 kq_133 W) ?_
      refine r_sipush (v := 188) C dX12_plain_34 (by decide) ?_
      refine r_ialdc (n := 192) C 188 dX12_plain_37 kq_134 lq_134 (vp_lit (by decide)) (by decide) ?_
      refine r_i2l C dX12_plain_38 rfl ?_
      show Jr _ _ _ _ _ _ 39 _
      refine r_lsub C dX12_plain_39 rfl ?_
      refine r_callVN C M h [.long ((((gA T 134 189)).toInt64) - (((gA T 134 188)).toInt64))] [] mlX12_210 mcX12_setX (fun q9 e9 => s_X12_setX ((((gA T 134 189)).toInt64) - (((gA T 134 188)).toInt64))  e9) kq_133 rfl (by omega) (by decide) rfl rfl (Nat.le_of_ble_eq_true rfl) dX12_plain_40 (fun _ T9 h => ?_)
      refine r_goto (tgt := 235) C dX12_plain_43 (by decide) ?_
      exact r_vret C M dX12_plain_235 h
  · refine r_aload_n C dX12_plain_6 rfl 0 rfl ?_
    refine r_iload_n C dX12_plain_7 rfl 1 rfl ?_
    refine r_callVN C M h [.int p1] [] mlX12_298 mcX12_show (fun q9 e9 => s_X12_show hD (fun i9 T9 q9 e9 => hG i9 T9 q9 e9) p1  e9) kq_133 rfl (by omega) (by decide) rfl rfl (Nat.le_of_ble_eq_true rfl) dX12_plain_8 (fun _ T10 h => ?_)
    refine r_goto (tgt := 235) C dX12_plain_11 (by decide) ?_
    exact r_vret C M dX12_plain_235 h
theorem dX12_run_0 : decode cX12_run 0 = .ok (.aload_n 0, 1) := by decide +kernel
theorem dX12_run_1 : decode cX12_run 1 = .ok (.invokevirtual 285, 3) := by decide +kernel
theorem dX12_run_4 : decode cX12_run 4 = .ok (.ifCond .eq 36, 3) := by decide +kernel
theorem dX12_run_7 : decode cX12_run 7 = .ok (.aload_n 0, 1) := by decide +kernel
theorem dX12_run_8 : decode cX12_run 8 = .ok (.invokevirtual 289, 3) := by decide +kernel
theorem dX12_run_11 : decode cX12_run 11 = .ok (.istore_n 1, 1) := by decide +kernel
theorem dX12_run_12 : decode cX12_run 12 = .ok (.aload_n 0, 1) := by decide +kernel
theorem dX12_run_13 : decode cX12_run 13 = .ok (.getfield 191, 3) := by decide +kernel
theorem dX12_run_16 : decode cX12_run 16 = .ok (.ifCond .ne 21, 3) := by decide +kernel
theorem dX12_run_19 : decode cX12_run 19 = .ok (.iload_n 1, 1) := by decide +kernel
theorem dX12_run_20 : decode cX12_run 20 = .ok (.bipush 27, 2) := by decide +kernel
theorem dX12_run_22 : decode cX12_run 22 = .ok (.if_icmp .ne 10, 3) := by decide +kernel
theorem dX12_run_25 : decode cX12_run 25 = .ok (.aload_n 0, 1) := by decide +kernel
theorem dX12_run_26 : decode cX12_run 26 = .ok (.invokevirtual 292, 3) := by decide +kernel
theorem dX12_run_29 : decode cX12_run 29 = .ok (.goto 8, 3) := by decide +kernel
theorem dX12_run_32 : decode cX12_run 32 = .ok (.aload_n 0, 1) := by decide +kernel
theorem dX12_run_33 : decode cX12_run 33 = .ok (.iload_n 1, 1) := by decide +kernel
theorem dX12_run_34 : decode cX12_run 34 = .ok (.invokevirtual 295, 3) := by decide +kernel
theorem dX12_run_37 : decode cX12_run 37 = .ok (.goto (-37), 3) := by decide +kernel
theorem dX12_run_40 : decode cX12_run 40 = .ok (.return_, 1) := by decide +kernel
noncomputable def f_X12_run_b0 (G : Int32 → Mm → Option (Unit × Mm)) (k0 : Mm → Option (Unit × Mm)) (T : Mm) : Option (Unit × Mm) :=
  bd (f_X12_hasMore T) fun v1 T2 =>
  if v1 = 0 then (some ((), T2))
  else (bd (f_X12_next T2) fun v3 T4 =>
  if (gI T4 1233 133) = 0 then (if v3 = 27 then (bd (f_X12_escape G T4) fun _ T6 =>
  k0 T6)
  else (bd (f_X12_plain G v3 T4) fun _ T5 =>
  k0 T5))
  else (k0 T4))
set_option maxRecDepth 100000 in
set_option maxHeartbeats 4000000 in
theorem s_X12_run_b0 {x : JX} {ad : Nat → Nat} {U : Mm} {S0 : Hp} {q : Unit × Mm} {D : Nat} {G : Int32 → Mm → Option (Unit × Mm)}  {k0 : Mm → Option (Unit × Mm)} (hn9 : x_n x = 2) (C : CB x RX12 cX12_run) (M : CMr x (D + 8) none S0 ad false U eV q) (hD : 40 ≤ D) (hG : ∀ (i : Int32) (T : Mm) (q : Unit × Mm), G i T = some q → Cr D yX12_through cX12_through 8 none [.ref (ad 133), .int i] ad false U T eV q) (hk0 : ∀ (T : Mm), k0  T = some q → Jr x ad false U T [(0, .ref (ad 133))] 0 []) (T : Mm) (h : f_X12_run_b0 G k0  T = some q) : Jr x ad false U T [(0, .ref (ad 133))] 0 [] := by
  unfold f_X12_run_b0 at h
  refine r_aload_n C dX12_run_0 rfl 0 rfl ?_
  refine r_callVI C M h [] [] mlX12_285 mcX12_hasMore (fun q9 e9 => s_X12_hasMore   e9) kq_133 rfl (by omega) (by decide) rfl rfl (Nat.le_of_ble_eq_true rfl) dX12_run_1 (fun v1 T2 h => ?_)
  refine r_if_eq (tgt := 40) C dX12_run_4 (by decide) h (fun h => ?_) (fun h => ?_)
  · exact r_vret C M dX12_run_40 h
  · refine r_aload_n C dX12_run_7 rfl 0 rfl ?_
    refine r_callVI C M h [] [] mlX12_289 mcX12_next (fun q9 e9 => s_X12_next   e9) kq_133 rfl (by omega) (by decide) rfl rfl (Nat.le_of_ble_eq_true rfl) dX12_run_8 (fun v3 T4 h => ?_)
    refine r_istore_n (lv' := [(1, .int v3), (0, .ref (ad 133))]) C dX12_run_11 rfl (by rw [hn9]; decide) rfl ?_
    refine r_aload_n C dX12_run_12 rfl 1 rfl ?_
    refine r_geti (f := 1233) C flX12_191 dX12_run_13 kq_133 (by decide) (by decide) rfl ?_
    show Jr _ _ _ _ _ _ 16 _
    refine r_if_ne (tgt := 37) C dX12_run_16 (by decide) h (fun h => ?_) (fun h => ?_)
    · refine r_goto (tgt := 0) C dX12_run_37 (by decide) ?_
      refine Jr.sub [1] (lv' := [(0, .ref (ad 133))]) rfl ?_
      exact hk0 T4 h
    · refine r_iload_n C dX12_run_19 rfl 0 rfl ?_
      refine r_bipush (v := 27) C dX12_run_20 (by decide) ?_
      refine r_ic_ne (tgt := 32) C dX12_run_22 (by decide) h (fun h => ?_) (fun h => ?_)
      · refine r_aload_n C dX12_run_32 rfl 1 rfl ?_
        refine r_iload_n C dX12_run_33 rfl 0 rfl ?_
        refine r_callVN C M h [.int v3] [] mlX12_295 mcX12_plain (fun q9 e9 => s_X12_plain hD (fun i9 T9 q9 e9 => hG i9 T9 q9 e9) v3  e9) kq_133 rfl (by omega) (by decide) rfl rfl (Nat.le_of_ble_eq_true rfl) dX12_run_34 (fun _ T5 h => ?_)
        refine r_goto (tgt := 0) C dX12_run_37 (by decide) ?_
        refine Jr.sub [1] (lv' := [(0, .ref (ad 133))]) rfl ?_
        exact hk0 T5 h
      · refine r_aload_n C dX12_run_25 rfl 1 rfl ?_
        refine r_callVN C M h [] [] mlX12_292 mcX12_escape (fun q9 e9 => s_X12_escape hD (fun i9 T9 q9 e9 => hG i9 T9 q9 e9)   e9) kq_133 rfl (by omega) (by decide) rfl rfl (Nat.le_of_ble_eq_true rfl) dX12_run_26 (fun _ T6 h => ?_)
        refine r_goto (tgt := 37) C dX12_run_29 (by decide) ?_
        refine r_goto (tgt := 0) C dX12_run_37 (by decide) ?_
        refine Jr.sub [1] (lv' := [(0, .ref (ad 133))]) rfl ?_
        exact hk0 T6 h
noncomputable def f_X12_run_l0 (G : Int32 → Mm → Option (Unit × Mm)) (n : Nat) : Mm → Option (Unit × Mm) := Nat.rec (fun  _ => none) (fun _ ih => f_X12_run_b0 G ih) n
theorem s_X12_run_l0 {x : JX} {ad : Nat → Nat} {U : Mm} {S0 : Hp} {q : Unit × Mm} {D : Nat} {G : Int32 → Mm → Option (Unit × Mm)}  (hn9 : x_n x = 2) (C : CB x RX12 cX12_run) (M : CMr x (D + 8) none S0 ad false U eV q) (hD : 40 ≤ D) (hG : ∀ (i : Int32) (T : Mm) (q : Unit × Mm), G i T = some q → Cr D yX12_through cX12_through 8 none [.ref (ad 133), .int i] ad false U T eV q) : ∀ (n : Nat), ∀ (T : Mm), f_X12_run_l0 G  n  T = some q → Jr x ad false U T [(0, .ref (ad 133))] 0 [] := by
  intro n
  induction n with
  | zero => intro  T  h; exact absurd h (by intro h; cases h)
  | succ n ih => exact fun  T  h => s_X12_run_b0 hn9 C M hD hG (ih)  T  h
noncomputable def f_X12_run (G : Int32 → Mm → Option (Unit × Mm)) (T : Mm) : Option (Unit × Mm) :=
  f_X12_run_l0 G FU T
set_option maxRecDepth 100000 in
set_option maxHeartbeats 4000000 in
theorem s_X12_run {ad : Nat → Nat} {U T : Mm} {q : Unit × Mm} {D : Nat} {G : Int32 → Mm → Option (Unit × Mm)}  (hD : 40 ≤ D) (hG : ∀ (i : Int32) (T : Mm) (q : Unit × Mm), G i T = some q → Cr D yX12_through cX12_through 8 none [.ref (ad 133), .int i] ad false U T eV q) (h : f_X12_run G  T = some q) : Cr (D + 8) yX12_run cX12_run 2 none [.ref (ad 133)] ad false U T eV q := by
  refine cr_of (by decide) (Nat.le_of_ble_eq_true rfl) fun x S0 hn9 C M => ?_
  have C : CB x RX12 cX12_run := C
  refine Jr.eq (lv' := [(0, .ref (ad 133))]) (st' := []) rfl rfl ?_
  unfold f_X12_run at h
  exact s_X12_run_l0 hn9 C M hD hG  FU T h
theorem dX12_through_0 : decode cX12_through 0 = .ok (.aload_n 0, 1) := by decide +kernel
theorem dX12_through_1 : decode cX12_through 1 = .ok (.getfield 272, 3) := by decide +kernel
theorem dX12_through_4 : decode cX12_through 4 = .ok (.astore_n 2, 1) := by decide +kernel
theorem dX12_through_5 : decode cX12_through 5 = .ok (.aload_n 0, 1) := by decide +kernel
theorem dX12_through_6 : decode cX12_through 6 = .ok (.getfield 263, 3) := by decide +kernel
theorem dX12_through_9 : decode cX12_through 9 = .ok (.istore_n 3, 1) := by decide +kernel
theorem dX12_through_10 : decode cX12_through 10 = .ok (.aload_n 0, 1) := by decide +kernel
theorem dX12_through_11 : decode cX12_through 11 = .ok (.getfield 266, 3) := by decide +kernel
theorem dX12_through_14 : decode cX12_through 14 = .ok (.istore 4, 2) := by decide +kernel
theorem dX12_through_16 : decode cX12_through 16 = .ok (.aload_n 0, 1) := by decide +kernel
theorem dX12_through_17 : decode cX12_through 17 = .ok (.getfield 279, 3) := by decide +kernel
theorem dX12_through_20 : decode cX12_through 20 = .ok (.istore 5, 2) := by decide +kernel
theorem dX12_through_22 : decode cX12_through 22 = .ok (.aload_n 0, 1) := by decide +kernel
theorem dX12_through_23 : decode cX12_through 23 = .ok (.getfield 222, 3) := by decide +kernel
theorem dX12_through_26 : decode cX12_through 26 = .ok (.sipush 1500, 3) := by decide +kernel
theorem dX12_through_29 : decode cX12_through 29 = .ok (.imul, 1) := by decide +kernel
theorem dX12_through_30 : decode cX12_through 30 = .ok (.istore 6, 2) := by decide +kernel
theorem dX12_through_32 : decode cX12_through 32 = .ok (.iconst 0, 1) := by decide +kernel
theorem dX12_through_33 : decode cX12_through 33 = .ok (.istore 7, 2) := by decide +kernel
theorem dX12_through_35 : decode cX12_through 35 = .ok (.iload 7, 2) := by decide +kernel
theorem dX12_through_37 : decode cX12_through 37 = .ok (.aload_n 0, 1) := by decide +kernel
theorem dX12_through_38 : decode cX12_through 38 = .ok (.getfield 59, 3) := by decide +kernel
theorem dX12_through_41 : decode cX12_through 41 = .ok (.iload_n 1, 1) := by decide +kernel
theorem dX12_through_42 : decode cX12_through 42 = .ok (.iaload, 1) := by decide +kernel
theorem dX12_through_43 : decode cX12_through 43 = .ok (.if_icmp .ge 32, 3) := by decide +kernel
theorem dX12_through_46 : decode cX12_through 46 = .ok (.aload_n 0, 1) := by decide +kernel
theorem dX12_through_47 : decode cX12_through 47 = .ok (.getfield 78, 3) := by decide +kernel
theorem dX12_through_50 : decode cX12_through 50 = .ok (.iload 6, 2) := by decide +kernel
theorem dX12_through_52 : decode cX12_through 52 = .ok (.iload 7, 2) := by decide +kernel
theorem dX12_through_54 : decode cX12_through 54 = .ok (.iadd, 1) := by decide +kernel
theorem dX12_through_55 : decode cX12_through 55 = .ok (.aload_n 0, 1) := by decide +kernel
theorem dX12_through_56 : decode cX12_through 56 = .ok (.getfield 62, 3) := by decide +kernel
theorem dX12_through_59 : decode cX12_through 59 = .ok (.iload_n 1, 1) := by decide +kernel
theorem dX12_through_60 : decode cX12_through 60 = .ok (.sipush 1500, 3) := by decide +kernel
theorem dX12_through_63 : decode cX12_through 63 = .ok (.imul, 1) := by decide +kernel
theorem dX12_through_64 : decode cX12_through 64 = .ok (.iload 7, 2) := by decide +kernel
theorem dX12_through_66 : decode cX12_through 66 = .ok (.iadd, 1) := by decide +kernel
theorem dX12_through_67 : decode cX12_through 67 = .ok (.baload, 1) := by decide +kernel
theorem dX12_through_68 : decode cX12_through 68 = .ok (.bastore, 1) := by decide +kernel
theorem dX12_through_69 : decode cX12_through 69 = .ok (.iinc 7 1, 3) := by decide +kernel
theorem dX12_through_72 : decode cX12_through 72 = .ok (.goto (-37), 3) := by decide +kernel
theorem dX12_through_75 : decode cX12_through 75 = .ok (.aload_n 0, 1) := by decide +kernel
theorem dX12_through_76 : decode cX12_through 76 = .ok (.dup, 1) := by decide +kernel
theorem dX12_through_77 : decode cX12_through 77 = .ok (.getfield 222, 3) := by decide +kernel
theorem dX12_through_80 : decode cX12_through 80 = .ok (.iconst 1, 1) := by decide +kernel
theorem dX12_through_81 : decode cX12_through 81 = .ok (.iadd, 1) := by decide +kernel
theorem dX12_through_82 : decode cX12_through 82 = .ok (.putfield 222, 3) := by decide +kernel
theorem dX12_through_85 : decode cX12_through 85 = .ok (.aload_n 0, 1) := by decide +kernel
theorem dX12_through_86 : decode cX12_through 86 = .ok (.iconst 1, 1) := by decide +kernel
theorem dX12_through_87 : decode cX12_through 87 = .ok (.putfield 279, 3) := by decide +kernel
theorem dX12_through_90 : decode cX12_through 90 = .ok (.aload_n 0, 1) := by decide +kernel
theorem dX12_through_91 : decode cX12_through 91 = .ok (.aload_n 0, 1) := by decide +kernel
theorem dX12_through_92 : decode cX12_through 92 = .ok (.getfield 78, 3) := by decide +kernel
theorem dX12_through_95 : decode cX12_through 95 = .ok (.putfield 272, 3) := by decide +kernel
theorem dX12_through_98 : decode cX12_through 98 = .ok (.aload_n 0, 1) := by decide +kernel
theorem dX12_through_99 : decode cX12_through 99 = .ok (.iload 6, 2) := by decide +kernel
theorem dX12_through_101 : decode cX12_through 101 = .ok (.putfield 263, 3) := by decide +kernel
theorem dX12_through_104 : decode cX12_through 104 = .ok (.aload_n 0, 1) := by decide +kernel
theorem dX12_through_105 : decode cX12_through 105 = .ok (.iload 6, 2) := by decide +kernel
theorem dX12_through_107 : decode cX12_through 107 = .ok (.aload_n 0, 1) := by decide +kernel
theorem dX12_through_108 : decode cX12_through 108 = .ok (.getfield 59, 3) := by decide +kernel
theorem dX12_through_111 : decode cX12_through 111 = .ok (.iload_n 1, 1) := by decide +kernel
theorem dX12_through_112 : decode cX12_through 112 = .ok (.iaload, 1) := by decide +kernel
theorem dX12_through_113 : decode cX12_through 113 = .ok (.iadd, 1) := by decide +kernel
theorem dX12_through_114 : decode cX12_through 114 = .ok (.putfield 266, 3) := by decide +kernel
theorem dX12_through_117 : decode cX12_through 117 = .ok (.aload_n 0, 1) := by decide +kernel
theorem dX12_through_118 : decode cX12_through 118 = .ok (.invokevirtual 282, 3) := by decide +kernel
theorem dX12_through_121 : decode cX12_through 121 = .ok (.aload_n 0, 1) := by decide +kernel
theorem dX12_through_122 : decode cX12_through 122 = .ok (.aload_n 2, 1) := by decide +kernel
theorem dX12_through_123 : decode cX12_through 123 = .ok (.putfield 272, 3) := by decide +kernel
theorem dX12_through_126 : decode cX12_through 126 = .ok (.aload_n 0, 1) := by decide +kernel
theorem dX12_through_127 : decode cX12_through 127 = .ok (.iload_n 3, 1) := by decide +kernel
theorem dX12_through_128 : decode cX12_through 128 = .ok (.putfield 263, 3) := by decide +kernel
theorem dX12_through_131 : decode cX12_through 131 = .ok (.aload_n 0, 1) := by decide +kernel
theorem dX12_through_132 : decode cX12_through 132 = .ok (.iload 4, 2) := by decide +kernel
theorem dX12_through_134 : decode cX12_through 134 = .ok (.putfield 266, 3) := by decide +kernel
theorem dX12_through_137 : decode cX12_through 137 = .ok (.aload_n 0, 1) := by decide +kernel
theorem dX12_through_138 : decode cX12_through 138 = .ok (.iload 5, 2) := by decide +kernel
theorem dX12_through_140 : decode cX12_through 140 = .ok (.putfield 279, 3) := by decide +kernel
theorem dX12_through_143 : decode cX12_through 143 = .ok (.aload_n 0, 1) := by decide +kernel
theorem dX12_through_144 : decode cX12_through 144 = .ok (.dup, 1) := by decide +kernel
theorem dX12_through_145 : decode cX12_through 145 = .ok (.getfield 222, 3) := by decide +kernel
theorem dX12_through_148 : decode cX12_through 148 = .ok (.iconst 1, 1) := by decide +kernel
theorem dX12_through_149 : decode cX12_through 149 = .ok (.isub, 1) := by decide +kernel
theorem dX12_through_150 : decode cX12_through 150 = .ok (.putfield 222, 3) := by decide +kernel
theorem dX12_through_153 : decode cX12_through 153 = .ok (.return_, 1) := by decide +kernel
noncomputable def f_X12_through_b35 (G : Int32 → Mm → Option (Unit × Mm)) (k35 : Int32 → Nat → Int32 → Int32 → Int32 → Int32 → Int32 → Mm → Option (Unit × Mm)) (a1 : Int32) (a2 : Nat) (a3 : Int32) (a4 : Int32) (a5 : Int32) (a6 : Int32) (a7 : Int32) (T : Mm) : Option (Unit × Mm) :=
  ix a1 16 fun j1 =>
  if (gA T 150 j1) ≤ a7 then (lb (uI T 1229 133 ((gI T 1229 133) + 1)) fun T3 =>
  lb (uI T3 1230 133 1) fun T4 =>
  lb (uR T4 1226 133 (some 156)) fun T5 =>
  lb (uI T5 1227 133 a6) fun T6 =>
  ix a1 16 fun j7 =>
  lb (uI T6 1228 133 (a6 + (gA T6 150 j7))) fun T9 =>
  bd (f_X12_run G T9) fun _ T10 =>
  lb (uR T10 1226 133 (some a2)) fun T11 =>
  lb (uI T11 1227 133 a3) fun T12 =>
  lb (uI T12 1228 133 a4) fun T13 =>
  gd (a5 = 0 ∨ a5 = 1) <|
  lb (uI T13 1230 133 a5) fun T15 =>
  lb (uI T15 1229 133 ((gI T15 1229 133) - 1)) fun T16 =>
  some ((), T16))
  else (ix ((a1 * 1500) + a7) 24000 fun j17 =>
  ix (a6 + a7) 6000 fun j19 => lb (uA T 156 j19 (((gA T 151 j17)).toInt8.toInt32)) fun T21 =>
  k35 a1 a2 a3 a4 a5 a6 (a7 + 1) T21)
set_option maxRecDepth 100000 in
set_option maxHeartbeats 4000000 in
theorem s_X12_through_b35 {x : JX} {ad : Nat → Nat} {U : Mm} {S0 : Hp} {q : Unit × Mm} {D : Nat} {G : Int32 → Mm → Option (Unit × Mm)}  {k35 : Int32 → Nat → Int32 → Int32 → Int32 → Int32 → Int32 → Mm → Option (Unit × Mm)} (hn9 : x_n x = 8) (C : CB x RX12 cX12_through) (M : CMr x (D + 9) none S0 ad false U eV q) (hD : 40 ≤ D) (hG : ∀ (i : Int32) (T : Mm) (q : Unit × Mm), G i T = some q → Cr D yX12_through cX12_through 8 none [.ref (ad 133), .int i] ad false U T eV q) (hk35 : ∀ (a1 : Int32) (a2 : Nat) (a3 : Int32) (a4 : Int32) (a5 : Int32) (a6 : Int32) (a7 : Int32) (T : Mm) (_ : kS false a2 = 13), k35 a1 a2 a3 a4 a5 a6 a7 T = some q → Jr x ad false U T [(0, .ref (ad 133)), (1, .int a1), (2, .ref (ad a2)), (3, .int a3), (4, .int a4), (5, .int a5), (6, .int a6), (7, .int a7)] 35 []) (a1 : Int32) (a2 : Nat) (a3 : Int32) (a4 : Int32) (a5 : Int32) (a6 : Int32) (a7 : Int32) (T : Mm) (ha2 : kS false a2 = 13) (h : f_X12_through_b35 G k35 a1 a2 a3 a4 a5 a6 a7 T = some q) : Jr x ad false U T [(0, .ref (ad 133)), (1, .int a1), (2, .ref (ad a2)), (3, .int a3), (4, .int a4), (5, .int a5), (6, .int a6), (7, .int a7)] 35 [] := by
  unfold f_X12_through_b35 at h
  refine r_iload C dX12_through_35 7 rfl ?_
  refine r_aload_n C dX12_through_37 rfl 0 rfl ?_
  refine r_getp (f := 1217) (j := 150) C flX12_59 dX12_through_38 kq_133 (by decide) rfl (fun W => pt_1217 kq_133 W) ?_
  refine r_iload_n C dX12_through_41 rfl 1 rfl ?_
  refine r_iald (n := 16) C dX12_through_42 kq_150 lq_150 h (fun j1 hj2 h => ?_)
  show Jr _ _ _ _ _ _ 43 _
  refine r_ic_ge (tgt := 75) C dX12_through_43 (by decide) h (fun h => ?_) (fun h => ?_)
  · refine r_aload_n C dX12_through_75 rfl 0 rfl ?_
    refine r_dup C dX12_through_76 rfl ?_
    refine r_geti (f := 1229) C flX12_222 dX12_through_77 kq_133 (by decide) (by decide) rfl ?_
    refine r_iconst (v := 1) C dX12_through_80 (by decide) ?_
    refine r_iadd C dX12_through_81 rfl ?_
    show Jr _ _ _ _ _ _ 82 _
    refine r_puti (f := 1229) C flX12_222 (by decide) rfl rfl dX12_through_82 kq_133 rfl h (fun T3 h => ?_)
    refine r_aload_n C dX12_through_85 rfl 0 rfl ?_
    refine r_iconst (v := 1) C dX12_through_86 (by decide) ?_
    refine r_putz (f := 1230) C flX12_279 (by decide) rfl rfl (by decide) dX12_through_87 kq_133 rfl h (fun T4 h => ?_)
    refine r_aload_n C dX12_through_90 rfl 0 rfl ?_
    refine r_aload_n C dX12_through_91 rfl 0 rfl ?_
    show Jr _ _ _ _ _ _ 92 _
    refine r_getp (f := 1225) (j := 156) C flX12_78 dX12_through_92 kq_133 (by decide) rfl (fun W => pt_1225 kq_133 W) ?_
    refine r_putr (f := 1226) C flX12_272 (by decide) rfl rfl dX12_through_95 kq_133 rfl (by decide) h (fun T5 h => ?_)
    refine r_aload_n C dX12_through_98 rfl 0 rfl ?_
    refine r_iload C dX12_through_99 6 rfl ?_
    refine r_puti (f := 1227) C flX12_263 (by decide) rfl rfl dX12_through_101 kq_133 rfl h (fun T6 h => ?_)
    refine r_aload_n C dX12_through_104 rfl 0 rfl ?_
    show Jr _ _ _ _ _ _ 105 _
    refine r_iload C dX12_through_105 6 rfl ?_
    refine r_aload_n C dX12_through_107 rfl 0 rfl ?_
    refine r_getp (f := 1217) (j := 150) C flX12_59 dX12_through_108 kq_133 (by decide) rfl (fun W => pt_1217 kq_133 W) ?_
    refine r_iload_n C dX12_through_111 rfl 1 rfl ?_
    refine r_iald (n := 16) C dX12_through_112 kq_150 lq_150 h (fun j7 hj8 h => ?_)
    refine r_iadd C dX12_through_113 rfl ?_
    show Jr _ _ _ _ _ _ 114 _
    refine r_puti (f := 1228) C flX12_266 (by decide) rfl rfl dX12_through_114 kq_133 rfl h (fun T9 h => ?_)
    refine r_aload_n C dX12_through_117 rfl 0 rfl ?_
    refine r_callVN C M h [] [] mlX12_282 mcX12_run (fun q9 e9 => s_X12_run hD (fun i9 T9 q9 e9 => hG i9 T9 q9 e9)   e9) kq_133 rfl (by omega) (by decide) rfl rfl (Nat.le_of_ble_eq_true rfl) dX12_through_118 (fun _ T10 h => ?_)
    refine r_aload_n C dX12_through_121 rfl 0 rfl ?_
    refine r_aload_n C dX12_through_122 rfl 2 rfl ?_
    refine r_putr (f := 1226) C flX12_272 (by decide) rfl rfl dX12_through_123 kq_133 rfl (by decide) h (fun T11 h => ?_)
    show Jr _ _ _ _ _ _ 126 _
    refine r_aload_n C dX12_through_126 rfl 0 rfl ?_
    refine r_iload_n C dX12_through_127 rfl 3 rfl ?_
    refine r_puti (f := 1227) C flX12_263 (by decide) rfl rfl dX12_through_128 kq_133 rfl h (fun T12 h => ?_)
    refine r_aload_n C dX12_through_131 rfl 0 rfl ?_
    refine r_iload C dX12_through_132 4 rfl ?_
    refine r_puti (f := 1228) C flX12_266 (by decide) rfl rfl dX12_through_134 kq_133 rfl h (fun T13 h => ?_)
    show Jr _ _ _ _ _ _ 137 _
    refine r_aload_n C dX12_through_137 rfl 0 rfl ?_
    refine r_iload C dX12_through_138 5 rfl ?_
    refine r_gd h (fun hz14 h => ?_)
    refine r_putz (f := 1230) C flX12_279 (by decide) rfl rfl hz14 dX12_through_140 kq_133 rfl h (fun T15 h => ?_)
    refine r_aload_n C dX12_through_143 rfl 0 rfl ?_
    refine r_dup C dX12_through_144 rfl ?_
    refine r_geti (f := 1229) C flX12_222 dX12_through_145 kq_133 (by decide) (by decide) rfl ?_
    show Jr _ _ _ _ _ _ 148 _
    refine r_iconst (v := 1) C dX12_through_148 (by decide) ?_
    refine r_isub C dX12_through_149 rfl ?_
    refine r_puti (f := 1229) C flX12_222 (by decide) rfl rfl dX12_through_150 kq_133 rfl h (fun T16 h => ?_)
    exact r_vret C M dX12_through_153 h
  · refine r_aload_n C dX12_through_46 rfl 0 rfl ?_
    refine r_getp (f := 1225) (j := 156) C flX12_78 dX12_through_47 kq_133 (by decide) rfl (fun W => pt_1225 kq_133 W) ?_
    refine r_iload C dX12_through_50 6 rfl ?_
    refine r_iload C dX12_through_52 7 rfl ?_
    refine r_iadd C dX12_through_54 rfl ?_
    show Jr _ _ _ _ _ _ 55 _
    refine r_aload_n C dX12_through_55 rfl 0 rfl ?_
    refine r_getp (f := 1218) (j := 151) C flX12_62 dX12_through_56 kq_133 (by decide) rfl (fun W => pt_1218 kq_133 W) ?_
    refine r_iload_n C dX12_through_59 rfl 1 rfl ?_
    refine r_sipush (v := 1500) C dX12_through_60 (by decide) ?_
    refine r_imul C dX12_through_63 rfl ?_
    refine r_iload C dX12_through_64 7 rfl ?_
    show Jr _ _ _ _ _ _ 66 _
    refine r_iadd C dX12_through_66 rfl ?_
    refine r_bald (n := 24000) C dX12_through_67 kq_151 lq_151 h (fun j17 hj18 h => ?_)
    refine r_bast (n := 6000) C dX12_through_68 kq_156 lq_156 h (fun j19 T21 hj20 h => ?_)
    refine r_iinc (q := 7) (v := (a7 + 1)) (lv' := [(7, .int (a7 + 1)), (0, .ref (ad 133)), (1, .int a1), (2, .ref (ad a2)), (3, .int a3), (4, .int a4), (5, .int a5), (6, .int a6)]) C dX12_through_69 rfl (by rw [show Int32.ofInt (1) = 1 by decide]) (by rw [hn9]; decide) rfl ?_
    refine r_goto (tgt := 35) C dX12_through_72 (by decide) ?_
    refine Jr.sub [1, 2, 3, 4, 5, 6, 7, 0] (lv' := [(0, .ref (ad 133)), (1, .int a1), (2, .ref (ad a2)), (3, .int a3), (4, .int a4), (5, .int a5), (6, .int a6), (7, .int (a7 + 1))]) rfl ?_
    exact hk35 a1 a2 a3 a4 a5 a6 (a7 + 1) T21 ha2 h
noncomputable def f_X12_through_l35 (G : Int32 → Mm → Option (Unit × Mm)) (n : Nat) : Int32 → Nat → Int32 → Int32 → Int32 → Int32 → Int32 → Mm → Option (Unit × Mm) := Nat.rec (fun _ _ _ _ _ _ _ _ => none) (fun _ ih => f_X12_through_b35 G ih) n
theorem s_X12_through_l35 {x : JX} {ad : Nat → Nat} {U : Mm} {S0 : Hp} {q : Unit × Mm} {D : Nat} {G : Int32 → Mm → Option (Unit × Mm)}  (hn9 : x_n x = 8) (C : CB x RX12 cX12_through) (M : CMr x (D + 9) none S0 ad false U eV q) (hD : 40 ≤ D) (hG : ∀ (i : Int32) (T : Mm) (q : Unit × Mm), G i T = some q → Cr D yX12_through cX12_through 8 none [.ref (ad 133), .int i] ad false U T eV q) : ∀ (n : Nat), ∀ (a1 : Int32) (a2 : Nat) (a3 : Int32) (a4 : Int32) (a5 : Int32) (a6 : Int32) (a7 : Int32) (T : Mm) (_ : kS false a2 = 13), f_X12_through_l35 G  n a1 a2 a3 a4 a5 a6 a7 T = some q → Jr x ad false U T [(0, .ref (ad 133)), (1, .int a1), (2, .ref (ad a2)), (3, .int a3), (4, .int a4), (5, .int a5), (6, .int a6), (7, .int a7)] 35 [] := by
  intro n
  induction n with
  | zero => intro a1 a2 a3 a4 a5 a6 a7 T _ h; exact absurd h (by intro h; cases h)
  | succ n ih => exact fun a1 a2 a3 a4 a5 a6 a7 T ha2 h => s_X12_through_b35 hn9 C M hD hG (ih) a1 a2 a3 a4 a5 a6 a7 T ha2 h
noncomputable def f_X12_through (G : Int32 → Mm → Option (Unit × Mm)) (p1 : Int32) (T : Mm) : Option (Unit × Mm) :=
  rf false (gR T 1226 133) 13 fun j1 =>
  lb ((gI T 1227 133)) fun v3 =>
  lb ((gI T 1228 133)) fun v4 =>
  lb ((gI T 1230 133)) fun v5 =>
  lb (((gI T 1229 133) * 1500)) fun v6 =>
  f_X12_through_l35 G FU p1 j1 v3 v4 v5 v6 0 T
set_option maxRecDepth 100000 in
set_option maxHeartbeats 4000000 in
theorem s_X12_through {ad : Nat → Nat} {U T : Mm} {q : Unit × Mm} {D : Nat} {G : Int32 → Mm → Option (Unit × Mm)}  (hD : 40 ≤ D) (hG : ∀ (i : Int32) (T : Mm) (q : Unit × Mm), G i T = some q → Cr D yX12_through cX12_through 8 none [.ref (ad 133), .int i] ad false U T eV q) (p1 : Int32) (h : f_X12_through G p1 T = some q) : Cr (D + 9) yX12_through cX12_through 8 none [.ref (ad 133), .int p1] ad false U T eV q := by
  refine cr_of (by decide) (Nat.le_of_ble_eq_true rfl) fun x S0 hn9 C M => ?_
  have C : CB x RX12 cX12_through := C
  refine Jr.eq (lv' := [(0, .ref (ad 133)), (1, .int p1)]) (st' := []) rfl rfl ?_
  unfold f_X12_through at h
  refine r_aload_n C dX12_through_0 rfl 0 rfl ?_
  refine r_getr (f := 1226) (c := 13) C flX12_272 dX12_through_1 kq_133 (by decide) rfl h (fun j1 hj2 h => ?_)
  refine r_astore_n (lv' := [(2, .ref (ad j1)), (0, .ref (ad 133)), (1, .int p1)]) C dX12_through_4 rfl (by rw [hn9]; decide) rfl ?_
  refine r_aload_n C dX12_through_5 rfl 1 rfl ?_
  refine r_geti (f := 1227) C flX12_263 dX12_through_6 kq_133 (by decide) (by decide) rfl ?_
  show Jr _ _ _ _ _ _ 9 _
  refine r_lbI h (fun v3 h => ?_)
  refine r_istore_n (lv' := [(3, .int v3), (2, .ref (ad j1)), (0, .ref (ad 133)), (1, .int p1)]) C dX12_through_9 rfl (by rw [hn9]; decide) rfl ?_
  refine r_aload_n C dX12_through_10 rfl 2 rfl ?_
  refine r_geti (f := 1228) C flX12_266 dX12_through_11 kq_133 (by decide) (by decide) rfl ?_
  refine r_lbI h (fun v4 h => ?_)
  refine r_istore (lv' := [(4, .int v4), (3, .int v3), (2, .ref (ad j1)), (0, .ref (ad 133)), (1, .int p1)]) C dX12_through_14 (by rw [hn9]; decide) rfl ?_
  refine r_aload_n C dX12_through_16 rfl 3 rfl ?_
  refine r_geti (f := 1230) C flX12_279 dX12_through_17 kq_133 (by decide) (by decide) rfl ?_
  show Jr _ _ _ _ _ _ 20 _
  refine r_lbI h (fun v5 h => ?_)
  refine r_istore (lv' := [(5, .int v5), (4, .int v4), (3, .int v3), (2, .ref (ad j1)), (0, .ref (ad 133)), (1, .int p1)]) C dX12_through_20 (by rw [hn9]; decide) rfl ?_
  refine r_aload_n C dX12_through_22 rfl 4 rfl ?_
  refine r_geti (f := 1229) C flX12_222 dX12_through_23 kq_133 (by decide) (by decide) rfl ?_
  refine r_sipush (v := 1500) C dX12_through_26 (by decide) ?_
  refine r_imul C dX12_through_29 rfl ?_
  refine r_lbI h (fun v6 h => ?_)
  refine r_istore (lv' := [(6, .int v6), (5, .int v5), (4, .int v4), (3, .int v3), (2, .ref (ad j1)), (0, .ref (ad 133)), (1, .int p1)]) C dX12_through_30 (by rw [hn9]; decide) rfl ?_
  show Jr _ _ _ _ _ _ 32 _
  refine r_iconst (v := 0) C dX12_through_32 (by decide) ?_
  refine r_istore (lv' := [(7, .int 0), (6, .int v6), (5, .int v5), (4, .int v4), (3, .int v3), (2, .ref (ad j1)), (0, .ref (ad 133)), (1, .int p1)]) C dX12_through_33 (by rw [hn9]; decide) rfl ?_
  refine Jr.sub [6, 7, 5, 4, 3, 2, 1, 0] (lv' := [(0, .ref (ad 133)), (1, .int p1), (2, .ref (ad j1)), (3, .int v3), (4, .int v4), (5, .int v5), (6, .int v6), (7, .int 0)]) rfl ?_
  exact s_X12_through_l35 hn9 C M hD hG  FU p1 j1 v3 v4 v5 v6 0 T hj2 h
def gmM_D (n : Nat) : Nat := 40 + 9 * n
noncomputable def gmM (n : Nat) : Int32 → Mm → Option (Unit × Mm) := Nat.rec (fun _ _ => none) (fun _ ih => f_X12_through ih) n
theorem gmM_ok {ad : Nat → Nat} {U : Mm} : ∀ (n : Nat) (i : Int32) (T : Mm) (q : Unit × Mm), gmM n i T = some q → Cr (gmM_D n) yX12_through cX12_through 8 none [.ref (ad 133), .int i] ad false U T eV q := by
  intro n
  induction n with
  | zero => intro i T q h; exact absurd h (by intro h; cases h)
  | succ n ih =>
    intro i T q h
    have := s_X12_through (D := gmM_D n) (by unfold gmM_D; omega) ih i h
    exact this
theorem dX12_stream_0 : decode cX12_stream 0 = .ok (.aload_n 0, 1) := by decide +kernel
theorem dX12_stream_1 : decode cX12_stream 1 = .ok (.iconst 1, 1) := by decide +kernel
theorem dX12_stream_2 : decode cX12_stream 2 = .ok (.iconst 0, 1) := by decide +kernel
theorem dX12_stream_3 : decode cX12_stream 3 = .ok (.invokevirtual 228, 3) := by decide +kernel
theorem dX12_stream_6 : decode cX12_stream 6 = .ok (.aload_n 0, 1) := by decide +kernel
theorem dX12_stream_7 : decode cX12_stream 7 = .ok (.invokevirtual 241, 3) := by decide +kernel
theorem dX12_stream_10 : decode cX12_stream 10 = .ok (.aload_n 0, 1) := by decide +kernel
theorem dX12_stream_11 : decode cX12_stream 11 = .ok (.iconst 0, 1) := by decide +kernel
theorem dX12_stream_12 : decode cX12_stream 12 = .ok (.putfield 661, 3) := by decide +kernel
theorem dX12_stream_15 : decode cX12_stream 15 = .ok (.aload_n 0, 1) := by decide +kernel
theorem dX12_stream_16 : decode cX12_stream 16 = .ok (.aload_n 0, 1) := by decide +kernel
theorem dX12_stream_17 : decode cX12_stream 17 = .ok (.getfield 66, 3) := by decide +kernel
theorem dX12_stream_20 : decode cX12_stream 20 = .ok (.putfield 272, 3) := by decide +kernel
theorem dX12_stream_23 : decode cX12_stream 23 = .ok (.aload_n 0, 1) := by decide +kernel
theorem dX12_stream_24 : decode cX12_stream 24 = .ok (.aload_n 0, 1) := by decide +kernel
theorem dX12_stream_25 : decode cX12_stream 25 = .ok (.getfield 69, 3) := by decide +kernel
theorem dX12_stream_28 : decode cX12_stream 28 = .ok (.iload_n 1, 1) := by decide +kernel
theorem dX12_stream_29 : decode cX12_stream 29 = .ok (.iaload, 1) := by decide +kernel
theorem dX12_stream_30 : decode cX12_stream 30 = .ok (.putfield 263, 3) := by decide +kernel
theorem dX12_stream_33 : decode cX12_stream 33 = .ok (.aload_n 0, 1) := by decide +kernel
theorem dX12_stream_34 : decode cX12_stream 34 = .ok (.aload_n 0, 1) := by decide +kernel
theorem dX12_stream_35 : decode cX12_stream 35 = .ok (.getfield 69, 3) := by decide +kernel
theorem dX12_stream_38 : decode cX12_stream 38 = .ok (.iload_n 1, 1) := by decide +kernel
theorem dX12_stream_39 : decode cX12_stream 39 = .ok (.iconst 1, 1) := by decide +kernel
theorem dX12_stream_40 : decode cX12_stream 40 = .ok (.iadd, 1) := by decide +kernel
theorem dX12_stream_41 : decode cX12_stream 41 = .ok (.iaload, 1) := by decide +kernel
theorem dX12_stream_42 : decode cX12_stream 42 = .ok (.putfield 266, 3) := by decide +kernel
theorem dX12_stream_45 : decode cX12_stream 45 = .ok (.aload_n 0, 1) := by decide +kernel
theorem dX12_stream_46 : decode cX12_stream 46 = .ok (.iconst 0, 1) := by decide +kernel
theorem dX12_stream_47 : decode cX12_stream 47 = .ok (.putfield 222, 3) := by decide +kernel
theorem dX12_stream_50 : decode cX12_stream 50 = .ok (.aload_n 0, 1) := by decide +kernel
theorem dX12_stream_51 : decode cX12_stream 51 = .ok (.iconst 0, 1) := by decide +kernel
theorem dX12_stream_52 : decode cX12_stream 52 = .ok (.putfield 279, 3) := by decide +kernel
theorem dX12_stream_55 : decode cX12_stream 55 = .ok (.aload_n 0, 1) := by decide +kernel
theorem dX12_stream_56 : decode cX12_stream 56 = .ok (.invokevirtual 282, 3) := by decide +kernel
theorem dX12_stream_59 : decode cX12_stream 59 = .ok (.aload_n 0, 1) := by decide +kernel
theorem dX12_stream_60 : decode cX12_stream 60 = .ok (.getfield 191, 3) := by decide +kernel
theorem dX12_stream_63 : decode cX12_stream 63 = .ok (.ifCond .eq 4, 3) := by decide +kernel
theorem dX12_stream_66 : decode cX12_stream 66 = .ok (.return_, 1) := by decide +kernel
theorem dX12_stream_67 : decode cX12_stream 67 = .ok (.aload_n 0, 1) := by decide +kernel
theorem dX12_stream_68 : decode cX12_stream 68 = .ok (.getfield 99, 3) := by decide +kernel
theorem dX12_stream_71 : decode cX12_stream 71 = .ok (.iconst 0, 1) := by decide +kernel
theorem dX12_stream_72 : decode cX12_stream 72 = .ok (.aload_n 0, 1) := by decide +kernel
theorem dX12_stream_73 : decode cX12_stream 73 = .ok (.getfield 9, 3) := by decide +kernel
theorem dX12_stream_76 : decode cX12_stream 76 = .ok (.sipush 189, 3) := by decide +kernel
theorem dX12_stream_79 : decode cX12_stream 79 = .ok (.iaload, 1) := by decide +kernel
theorem dX12_stream_80 : decode cX12_stream 80 = .ok (.iastore, 1) := by decide +kernel
theorem dX12_stream_81 : decode cX12_stream 81 = .ok (.aload_n 0, 1) := by decide +kernel
theorem dX12_stream_82 : decode cX12_stream 82 = .ok (.getfield 99, 3) := by decide +kernel
theorem dX12_stream_85 : decode cX12_stream 85 = .ok (.iconst 1, 1) := by decide +kernel
theorem dX12_stream_86 : decode cX12_stream 86 = .ok (.aload_n 0, 1) := by decide +kernel
theorem dX12_stream_87 : decode cX12_stream 87 = .ok (.getfield 9, 3) := by decide +kernel
theorem dX12_stream_90 : decode cX12_stream 90 = .ok (.sipush 190, 3) := by decide +kernel
theorem dX12_stream_93 : decode cX12_stream 93 = .ok (.iaload, 1) := by decide +kernel
theorem dX12_stream_94 : decode cX12_stream 94 = .ok (.iastore, 1) := by decide +kernel
theorem dX12_stream_95 : decode cX12_stream 95 = .ok (.aload_n 0, 1) := by decide +kernel
theorem dX12_stream_96 : decode cX12_stream 96 = .ok (.getfield 99, 3) := by decide +kernel
theorem dX12_stream_99 : decode cX12_stream 99 = .ok (.iconst 2, 1) := by decide +kernel
theorem dX12_stream_100 : decode cX12_stream 100 = .ok (.aload_n 0, 1) := by decide +kernel
theorem dX12_stream_101 : decode cX12_stream 101 = .ok (.getfield 9, 3) := by decide +kernel
theorem dX12_stream_104 : decode cX12_stream 104 = .ok (.bipush 7, 2) := by decide +kernel
theorem dX12_stream_106 : decode cX12_stream 106 = .ok (.iaload, 1) := by decide +kernel
theorem dX12_stream_107 : decode cX12_stream 107 = .ok (.iastore, 1) := by decide +kernel
theorem dX12_stream_108 : decode cX12_stream 108 = .ok (.aload_n 0, 1) := by decide +kernel
theorem dX12_stream_109 : decode cX12_stream 109 = .ok (.getfield 99, 3) := by decide +kernel
theorem dX12_stream_112 : decode cX12_stream 112 = .ok (.iconst 3, 1) := by decide +kernel
theorem dX12_stream_113 : decode cX12_stream 113 = .ok (.aload_n 0, 1) := by decide +kernel
theorem dX12_stream_114 : decode cX12_stream 114 = .ok (.getfield 9, 3) := by decide +kernel
theorem dX12_stream_117 : decode cX12_stream 117 = .ok (.bipush 6, 2) := by decide +kernel
theorem dX12_stream_119 : decode cX12_stream 119 = .ok (.iaload, 1) := by decide +kernel
theorem dX12_stream_120 : decode cX12_stream 120 = .ok (.iastore, 1) := by decide +kernel
theorem dX12_stream_121 : decode cX12_stream 121 = .ok (.aload_n 0, 1) := by decide +kernel
theorem dX12_stream_122 : decode cX12_stream 122 = .ok (.getfield 99, 3) := by decide +kernel
theorem dX12_stream_125 : decode cX12_stream 125 = .ok (.iconst 4, 1) := by decide +kernel
theorem dX12_stream_126 : decode cX12_stream 126 = .ok (.aload_n 0, 1) := by decide +kernel
theorem dX12_stream_127 : decode cX12_stream 127 = .ok (.getfield 9, 3) := by decide +kernel
theorem dX12_stream_130 : decode cX12_stream 130 = .ok (.iconst 2, 1) := by decide +kernel
theorem dX12_stream_131 : decode cX12_stream 131 = .ok (.iaload, 1) := by decide +kernel
theorem dX12_stream_132 : decode cX12_stream 132 = .ok (.iastore, 1) := by decide +kernel
theorem dX12_stream_133 : decode cX12_stream 133 = .ok (.aload_n 0, 1) := by decide +kernel
theorem dX12_stream_134 : decode cX12_stream 134 = .ok (.getfield 99, 3) := by decide +kernel
theorem dX12_stream_137 : decode cX12_stream 137 = .ok (.iconst 5, 1) := by decide +kernel
theorem dX12_stream_138 : decode cX12_stream 138 = .ok (.aload_n 0, 1) := by decide +kernel
theorem dX12_stream_139 : decode cX12_stream 139 = .ok (.getfield 9, 3) := by decide +kernel
theorem dX12_stream_142 : decode cX12_stream 142 = .ok (.iconst 3, 1) := by decide +kernel
theorem dX12_stream_143 : decode cX12_stream 143 = .ok (.iaload, 1) := by decide +kernel
theorem dX12_stream_144 : decode cX12_stream 144 = .ok (.iastore, 1) := by decide +kernel
theorem dX12_stream_145 : decode cX12_stream 145 = .ok (.aload_n 0, 1) := by decide +kernel
theorem dX12_stream_146 : decode cX12_stream 146 = .ok (.getfield 99, 3) := by decide +kernel
theorem dX12_stream_149 : decode cX12_stream 149 = .ok (.bipush 6, 2) := by decide +kernel
theorem dX12_stream_151 : decode cX12_stream 151 = .ok (.aload_n 0, 1) := by decide +kernel
theorem dX12_stream_152 : decode cX12_stream 152 = .ok (.getfield 9, 3) := by decide +kernel
theorem dX12_stream_155 : decode cX12_stream 155 = .ok (.iconst 4, 1) := by decide +kernel
theorem dX12_stream_156 : decode cX12_stream 156 = .ok (.iaload, 1) := by decide +kernel
theorem dX12_stream_157 : decode cX12_stream 157 = .ok (.iastore, 1) := by decide +kernel
theorem dX12_stream_158 : decode cX12_stream 158 = .ok (.aload_n 0, 1) := by decide +kernel
theorem dX12_stream_159 : decode cX12_stream 159 = .ok (.getfield 99, 3) := by decide +kernel
theorem dX12_stream_162 : decode cX12_stream 162 = .ok (.bipush 7, 2) := by decide +kernel
theorem dX12_stream_164 : decode cX12_stream 164 = .ok (.aload_n 0, 1) := by decide +kernel
theorem dX12_stream_165 : decode cX12_stream 165 = .ok (.getfield 9, 3) := by decide +kernel
theorem dX12_stream_168 : decode cX12_stream 168 = .ok (.iconst 5, 1) := by decide +kernel
theorem dX12_stream_169 : decode cX12_stream 169 = .ok (.iaload, 1) := by decide +kernel
theorem dX12_stream_170 : decode cX12_stream 170 = .ok (.iastore, 1) := by decide +kernel
theorem dX12_stream_171 : decode cX12_stream 171 = .ok (.aload_n 0, 1) := by decide +kernel
theorem dX12_stream_172 : decode cX12_stream 172 = .ok (.getfield 99, 3) := by decide +kernel
theorem dX12_stream_175 : decode cX12_stream 175 = .ok (.bipush 8, 2) := by decide +kernel
theorem dX12_stream_177 : decode cX12_stream 177 = .ok (.aload_n 0, 1) := by decide +kernel
theorem dX12_stream_178 : decode cX12_stream 178 = .ok (.invokevirtual 310, 3) := by decide +kernel
theorem dX12_stream_181 : decode cX12_stream 181 = .ok (.iastore, 1) := by decide +kernel
theorem dX12_stream_182 : decode cX12_stream 182 = .ok (.aload_n 0, 1) := by decide +kernel
theorem dX12_stream_183 : decode cX12_stream 183 = .ok (.getfield 99, 3) := by decide +kernel
theorem dX12_stream_186 : decode cX12_stream 186 = .ok (.bipush 9, 2) := by decide +kernel
theorem dX12_stream_188 : decode cX12_stream 188 = .ok (.aload_n 0, 1) := by decide +kernel
theorem dX12_stream_189 : decode cX12_stream 189 = .ok (.getfield 9, 3) := by decide +kernel
theorem dX12_stream_192 : decode cX12_stream 192 = .ok (.iconst 0, 1) := by decide +kernel
theorem dX12_stream_193 : decode cX12_stream 193 = .ok (.iaload, 1) := by decide +kernel
theorem dX12_stream_194 : decode cX12_stream 194 = .ok (.iastore, 1) := by decide +kernel
theorem dX12_stream_195 : decode cX12_stream 195 = .ok (.aload_n 0, 1) := by decide +kernel
theorem dX12_stream_196 : decode cX12_stream 196 = .ok (.getfield 99, 3) := by decide +kernel
theorem dX12_stream_199 : decode cX12_stream 199 = .ok (.bipush 10, 2) := by decide +kernel
theorem dX12_stream_201 : decode cX12_stream 201 = .ok (.aload_n 0, 1) := by decide +kernel
theorem dX12_stream_202 : decode cX12_stream 202 = .ok (.getfield 9, 3) := by decide +kernel
theorem dX12_stream_205 : decode cX12_stream 205 = .ok (.iconst 1, 1) := by decide +kernel
theorem dX12_stream_206 : decode cX12_stream 206 = .ok (.iaload, 1) := by decide +kernel
theorem dX12_stream_207 : decode cX12_stream 207 = .ok (.iastore, 1) := by decide +kernel
theorem dX12_stream_208 : decode cX12_stream 208 = .ok (.aload_n 0, 1) := by decide +kernel
theorem dX12_stream_209 : decode cX12_stream 209 = .ok (.getfield 99, 3) := by decide +kernel
theorem dX12_stream_212 : decode cX12_stream 212 = .ok (.bipush 11, 2) := by decide +kernel
theorem dX12_stream_214 : decode cX12_stream 214 = .ok (.aload_n 0, 1) := by decide +kernel
theorem dX12_stream_215 : decode cX12_stream 215 = .ok (.getfield 9, 3) := by decide +kernel
theorem dX12_stream_218 : decode cX12_stream 218 = .ok (.sipush 146, 3) := by decide +kernel
theorem dX12_stream_221 : decode cX12_stream 221 = .ok (.iaload, 1) := by decide +kernel
theorem dX12_stream_222 : decode cX12_stream 222 = .ok (.iastore, 1) := by decide +kernel
theorem dX12_stream_223 : decode cX12_stream 223 = .ok (.aload_n 0, 1) := by decide +kernel
theorem dX12_stream_224 : decode cX12_stream 224 = .ok (.invokevirtual 307, 3) := by decide +kernel
theorem dX12_stream_227 : decode cX12_stream 227 = .ok (.aload_n 0, 1) := by decide +kernel
theorem dX12_stream_228 : decode cX12_stream 228 = .ok (.getfield 191, 3) := by decide +kernel
theorem dX12_stream_231 : decode cX12_stream 231 = .ok (.ifCond .ne 18, 3) := by decide +kernel
theorem dX12_stream_234 : decode cX12_stream 234 = .ok (.aload_n 0, 1) := by decide +kernel
theorem dX12_stream_235 : decode cX12_stream 235 = .ok (.iconst 1, 1) := by decide +kernel
theorem dX12_stream_236 : decode cX12_stream 236 = .ok (.putfield 661, 3) := by decide +kernel
theorem dX12_stream_239 : decode cX12_stream 239 = .ok (.aload_n 0, 1) := by decide +kernel
theorem dX12_stream_240 : decode cX12_stream 240 = .ok (.iconst 1, 1) := by decide +kernel
theorem dX12_stream_241 : decode cX12_stream 241 = .ok (.iconst 0, 1) := by decide +kernel
theorem dX12_stream_242 : decode cX12_stream 242 = .ok (.invokevirtual 228, 3) := by decide +kernel
theorem dX12_stream_245 : decode cX12_stream 245 = .ok (.aload_n 0, 1) := by decide +kernel
theorem dX12_stream_246 : decode cX12_stream 246 = .ok (.invokevirtual 387, 3) := by decide +kernel
theorem dX12_stream_249 : decode cX12_stream 249 = .ok (.return_, 1) := by decide +kernel
noncomputable def f_X12_stream (p1 : Int32) (T : Mm) : Option (Unit × Mm) :=
  bd (f_X12_reset 1 0 T) fun _ T1 =>
  bd (f_X12_white T1) fun _ T2 =>
  lb (uI T2 1247 133 0) fun T3 =>
  lb (uR T3 1226 133 (some 152)) fun T4 =>
  ix p1 7 fun j5 =>
  lb (uI T4 1227 133 (gA T4 153 j5)) fun T7 =>
  ix (p1 + 1) 7 fun j8 =>
  lb (uI T7 1228 133 (gA T7 153 j8)) fun T10 =>
  lb (uI T10 1229 133 0) fun T11 =>
  lb (uI T11 1230 133 0) fun T12 =>
  bd (f_X12_run (gmM 5) T12) fun _ T13 =>
  if (gI T13 1233 133) = 0 then (lb (uA T13 162 0 ((gA T13 134 189))) fun T14 =>
  lb (uA T14 162 1 ((gA T14 134 190))) fun T15 =>
  lb (uA T15 162 2 ((gA T15 134 7))) fun T16 =>
  lb (uA T16 162 3 ((gA T16 134 6))) fun T17 =>
  lb (uA T17 162 4 ((gA T17 134 2))) fun T18 =>
  lb (uA T18 162 5 ((gA T18 134 3))) fun T19 =>
  lb (uA T19 162 6 ((gA T19 134 4))) fun T20 =>
  lb (uA T20 162 7 ((gA T20 134 5))) fun T21 =>
  bd (f_X12_fontInUse T21) fun v22 T23 =>
  lb (uA T23 162 8 (v22)) fun T24 =>
  lb (uA T24 162 9 ((gA T24 134 0))) fun T25 =>
  lb (uA T25 162 10 ((gA T25 134 1))) fun T26 =>
  lb (uA T26 162 11 ((gA T26 134 146))) fun T27 =>
  bd (f_X12_eject (gmM 5) T27) fun _ T28 =>
  if (gI T28 1233 133) = 0 then (lb (uI T28 1247 133 1) fun T29 =>
  bd (f_X12_reset 1 0 T29) fun _ T30 =>
  bd (f_X12_temporaryGo T30) fun _ T31 =>
  some ((), T31))
  else (some ((), T28)))
  else (some ((), T13))
set_option maxRecDepth 100000 in
set_option maxHeartbeats 4000000 in
theorem s_X12_stream {ad : Nat → Nat} {U T : Mm} {q : Unit × Mm}  (p1 : Int32) (h : f_X12_stream p1 T = some q) : Cr 99 yX12_stream cX12_stream 2 none [.ref (ad 133), .int p1] ad false U T eV q := by
  refine cr_of (by decide) (Nat.le_of_ble_eq_true rfl) fun x S0 hn9 C M => ?_
  have C : CB x RX12 cX12_stream := C
  refine Jr.eq (lv' := [(0, .ref (ad 133)), (1, .int p1)]) (st' := []) rfl rfl ?_
  unfold f_X12_stream at h
  refine r_aload_n C dX12_stream_0 rfl 0 rfl ?_
  refine r_iconst (v := 1) C dX12_stream_1 (by decide) ?_
  refine r_iconst (v := 0) C dX12_stream_2 (by decide) ?_
  refine r_callVN C M h [.int 1, .int 0] [] mlX12_228 mcX12_reset (fun q9 e9 => s_X12_reset 1 0  e9) kq_133 rfl (by decide) (by decide) rfl rfl (Nat.le_of_ble_eq_true rfl) dX12_stream_3 (fun _ T1 h => ?_)
  refine r_aload_n C dX12_stream_6 rfl 0 rfl ?_
  show Jr _ _ _ _ _ _ 7 _
  refine r_callVN C M h [] [] mlX12_241 mcX12_white (fun q9 e9 => s_X12_white   e9) kq_133 rfl (by decide) (by decide) rfl rfl (Nat.le_of_ble_eq_true rfl) dX12_stream_7 (fun _ T2 h => ?_)
  refine r_aload_n C dX12_stream_10 rfl 0 rfl ?_
  refine r_iconst (v := 0) C dX12_stream_11 (by decide) ?_
  refine r_putz (f := 1247) C flX12_661 (by decide) rfl rfl (by decide) dX12_stream_12 kq_133 rfl h (fun T3 h => ?_)
  refine r_aload_n C dX12_stream_15 rfl 0 rfl ?_
  refine r_aload_n C dX12_stream_16 rfl 0 rfl ?_
  show Jr _ _ _ _ _ _ 17 _
  refine r_getp (f := 1219) (j := 152) C flX12_66 dX12_stream_17 kq_133 (by decide) rfl (fun W => pt_1219 kq_133 W) ?_
  refine r_putr (f := 1226) C flX12_272 (by decide) rfl rfl dX12_stream_20 kq_133 rfl (by decide) h (fun T4 h => ?_)
  refine r_aload_n C dX12_stream_23 rfl 0 rfl ?_
  refine r_aload_n C dX12_stream_24 rfl 0 rfl ?_
  refine r_getp (f := 1220) (j := 153) C flX12_69 dX12_stream_25 kq_133 (by decide) rfl (fun W => pt_1220 kq_133 W) ?_
  refine r_iload_n C dX12_stream_28 rfl 1 rfl ?_
  show Jr _ _ _ _ _ _ 29 _
  refine r_iald (n := 7) C dX12_stream_29 kq_153 lq_153 h (fun j5 hj6 h => ?_)
  refine r_puti (f := 1227) C flX12_263 (by decide) rfl rfl dX12_stream_30 kq_133 rfl h (fun T7 h => ?_)
  refine r_aload_n C dX12_stream_33 rfl 0 rfl ?_
  refine r_aload_n C dX12_stream_34 rfl 0 rfl ?_
  refine r_getp (f := 1220) (j := 153) C flX12_69 dX12_stream_35 kq_133 (by decide) rfl (fun W => pt_1220 kq_133 W) ?_
  refine r_iload_n C dX12_stream_38 rfl 1 rfl ?_
  show Jr _ _ _ _ _ _ 39 _
  refine r_iconst (v := 1) C dX12_stream_39 (by decide) ?_
  refine r_iadd C dX12_stream_40 rfl ?_
  refine r_iald (n := 7) C dX12_stream_41 kq_153 lq_153 h (fun j8 hj9 h => ?_)
  refine r_puti (f := 1228) C flX12_266 (by decide) rfl rfl dX12_stream_42 kq_133 rfl h (fun T10 h => ?_)
  refine r_aload_n C dX12_stream_45 rfl 0 rfl ?_
  refine r_iconst (v := 0) C dX12_stream_46 (by decide) ?_
  show Jr _ _ _ _ _ _ 47 _
  refine r_puti (f := 1229) C flX12_222 (by decide) rfl rfl dX12_stream_47 kq_133 rfl h (fun T11 h => ?_)
  refine r_aload_n C dX12_stream_50 rfl 0 rfl ?_
  refine r_iconst (v := 0) C dX12_stream_51 (by decide) ?_
  refine r_putz (f := 1230) C flX12_279 (by decide) rfl rfl (by decide) dX12_stream_52 kq_133 rfl h (fun T12 h => ?_)
  refine r_aload_n C dX12_stream_55 rfl 0 rfl ?_
  refine r_callVN C M h [] [] mlX12_282 mcX12_run (fun q9 e9 => s_X12_run (D := gmM_D 5) (by decide) (gmM_ok 5)   e9) kq_133 rfl (by decide) (by decide) rfl rfl (Nat.le_of_ble_eq_true rfl) dX12_stream_56 (fun _ T13 h => ?_)
  show Jr _ _ _ _ _ _ 59 _
  refine r_aload_n C dX12_stream_59 rfl 0 rfl ?_
  refine r_geti (f := 1233) C flX12_191 dX12_stream_60 kq_133 (by decide) (by decide) rfl ?_
  refine r_if_eq (tgt := 67) C dX12_stream_63 (by decide) h (fun h => ?_) (fun h => ?_)
  · refine r_aload_n C dX12_stream_67 rfl 0 rfl ?_
    refine r_getp (f := 1246) (j := 162) C flX12_99 dX12_stream_68 kq_133 (by decide) rfl (fun W => pt_1246 kq_133 W) ?_
    refine r_iconst (v := 0) C dX12_stream_71 (by decide) ?_
    refine r_aload_n C dX12_stream_72 rfl 0 rfl ?_
    refine r_getp (f := 1200) (j := 134) C flX12_9 dX12_stream_73 kq_133 (by decide) rfl (fun W => pt_1200 kq_133 W) ?_
    show Jr _ _ _ _ _ _ 76 _
    refine r_sipush (v := 189) C dX12_stream_76 (by decide) ?_
    refine r_ialdc (n := 192) C 189 dX12_stream_79 kq_134 lq_134 (vp_lit (by decide)) (by decide) ?_
    refine r_iastc (n := 12) C 0 dX12_stream_80 kq_162 lq_162 (vp_lit (by decide)) (by decide) h (fun T14 h => ?_)
    refine r_aload_n C dX12_stream_81 rfl 0 rfl ?_
    refine r_getp (f := 1246) (j := 162) C flX12_99 dX12_stream_82 kq_133 (by decide) rfl (fun W => pt_1246 kq_133 W) ?_
    refine r_iconst (v := 1) C dX12_stream_85 (by decide) ?_
    show Jr _ _ _ _ _ _ 86 _
    refine r_aload_n C dX12_stream_86 rfl 0 rfl ?_
    refine r_getp (f := 1200) (j := 134) C flX12_9 dX12_stream_87 kq_133 (by decide) rfl (fun W => pt_1200 kq_133 W) ?_
    refine r_sipush (v := 190) C dX12_stream_90 (by decide) ?_
    refine r_ialdc (n := 192) C 190 dX12_stream_93 kq_134 lq_134 (vp_lit (by decide)) (by decide) ?_
    refine r_iastc (n := 12) C 1 dX12_stream_94 kq_162 lq_162 (vp_lit (by decide)) (by decide) h (fun T15 h => ?_)
    refine r_aload_n C dX12_stream_95 rfl 0 rfl ?_
    show Jr _ _ _ _ _ _ 96 _
    refine r_getp (f := 1246) (j := 162) C flX12_99 dX12_stream_96 kq_133 (by decide) rfl (fun W => pt_1246 kq_133 W) ?_
    refine r_iconst (v := 2) C dX12_stream_99 (by decide) ?_
    refine r_aload_n C dX12_stream_100 rfl 0 rfl ?_
    refine r_getp (f := 1200) (j := 134) C flX12_9 dX12_stream_101 kq_133 (by decide) rfl (fun W => pt_1200 kq_133 W) ?_
    refine r_bipush (v := 7) C dX12_stream_104 (by decide) ?_
    refine r_ialdc (n := 192) C 7 dX12_stream_106 kq_134 lq_134 (vp_lit (by decide)) (by decide) ?_
    show Jr _ _ _ _ _ _ 107 _
    refine r_iastc (n := 12) C 2 dX12_stream_107 kq_162 lq_162 (vp_lit (by decide)) (by decide) h (fun T16 h => ?_)
    refine r_aload_n C dX12_stream_108 rfl 0 rfl ?_
    refine r_getp (f := 1246) (j := 162) C flX12_99 dX12_stream_109 kq_133 (by decide) rfl (fun W => pt_1246 kq_133 W) ?_
    refine r_iconst (v := 3) C dX12_stream_112 (by decide) ?_
    refine r_aload_n C dX12_stream_113 rfl 0 rfl ?_
    refine r_getp (f := 1200) (j := 134) C flX12_9 dX12_stream_114 kq_133 (by decide) rfl (fun W => pt_1200 kq_133 W) ?_
    show Jr _ _ _ _ _ _ 117 _
    refine r_bipush (v := 6) C dX12_stream_117 (by decide) ?_
    refine r_ialdc (n := 192) C 6 dX12_stream_119 kq_134 lq_134 (vp_lit (by decide)) (by decide) ?_
    refine r_iastc (n := 12) C 3 dX12_stream_120 kq_162 lq_162 (vp_lit (by decide)) (by decide) h (fun T17 h => ?_)
    refine r_aload_n C dX12_stream_121 rfl 0 rfl ?_
    refine r_getp (f := 1246) (j := 162) C flX12_99 dX12_stream_122 kq_133 (by decide) rfl (fun W => pt_1246 kq_133 W) ?_
    refine r_iconst (v := 4) C dX12_stream_125 (by decide) ?_
    show Jr _ _ _ _ _ _ 126 _
    refine r_aload_n C dX12_stream_126 rfl 0 rfl ?_
    refine r_getp (f := 1200) (j := 134) C flX12_9 dX12_stream_127 kq_133 (by decide) rfl (fun W => pt_1200 kq_133 W) ?_
    refine r_iconst (v := 2) C dX12_stream_130 (by decide) ?_
    refine r_ialdc (n := 192) C 2 dX12_stream_131 kq_134 lq_134 (vp_lit (by decide)) (by decide) ?_
    refine r_iastc (n := 12) C 4 dX12_stream_132 kq_162 lq_162 (vp_lit (by decide)) (by decide) h (fun T18 h => ?_)
    refine r_aload_n C dX12_stream_133 rfl 0 rfl ?_
    show Jr _ _ _ _ _ _ 134 _
    refine r_getp (f := 1246) (j := 162) C flX12_99 dX12_stream_134 kq_133 (by decide) rfl (fun W => pt_1246 kq_133 W) ?_
    refine r_iconst (v := 5) C dX12_stream_137 (by decide) ?_
    refine r_aload_n C dX12_stream_138 rfl 0 rfl ?_
    refine r_getp (f := 1200) (j := 134) C flX12_9 dX12_stream_139 kq_133 (by decide) rfl (fun W => pt_1200 kq_133 W) ?_
    refine r_iconst (v := 3) C dX12_stream_142 (by decide) ?_
    refine r_ialdc (n := 192) C 3 dX12_stream_143 kq_134 lq_134 (vp_lit (by decide)) (by decide) ?_
    show Jr _ _ _ _ _ _ 144 _
    refine r_iastc (n := 12) C 5 dX12_stream_144 kq_162 lq_162 (vp_lit (by decide)) (by decide) h (fun T19 h => ?_)
    refine r_aload_n C dX12_stream_145 rfl 0 rfl ?_
    refine r_getp (f := 1246) (j := 162) C flX12_99 dX12_stream_146 kq_133 (by decide) rfl (fun W => pt_1246 kq_133 W) ?_
    refine r_bipush (v := 6) C dX12_stream_149 (by decide) ?_
    refine r_aload_n C dX12_stream_151 rfl 0 rfl ?_
    refine r_getp (f := 1200) (j := 134) C flX12_9 dX12_stream_152 kq_133 (by decide) rfl (fun W => pt_1200 kq_133 W) ?_
    show Jr _ _ _ _ _ _ 155 _
    refine r_iconst (v := 4) C dX12_stream_155 (by decide) ?_
    refine r_ialdc (n := 192) C 4 dX12_stream_156 kq_134 lq_134 (vp_lit (by decide)) (by decide) ?_
    refine r_iastc (n := 12) C 6 dX12_stream_157 kq_162 lq_162 (vp_lit (by decide)) (by decide) h (fun T20 h => ?_)
    refine r_aload_n C dX12_stream_158 rfl 0 rfl ?_
    refine r_getp (f := 1246) (j := 162) C flX12_99 dX12_stream_159 kq_133 (by decide) rfl (fun W => pt_1246 kq_133 W) ?_
    refine r_bipush (v := 7) C dX12_stream_162 (by decide) ?_
    show Jr _ _ _ _ _ _ 164 _
    refine r_aload_n C dX12_stream_164 rfl 0 rfl ?_
    refine r_getp (f := 1200) (j := 134) C flX12_9 dX12_stream_165 kq_133 (by decide) rfl (fun W => pt_1200 kq_133 W) ?_
    refine r_iconst (v := 5) C dX12_stream_168 (by decide) ?_
    refine r_ialdc (n := 192) C 5 dX12_stream_169 kq_134 lq_134 (vp_lit (by decide)) (by decide) ?_
    refine r_iastc (n := 12) C 7 dX12_stream_170 kq_162 lq_162 (vp_lit (by decide)) (by decide) h (fun T21 h => ?_)
    refine r_aload_n C dX12_stream_171 rfl 0 rfl ?_
    show Jr _ _ _ _ _ _ 172 _
    refine r_getp (f := 1246) (j := 162) C flX12_99 dX12_stream_172 kq_133 (by decide) rfl (fun W => pt_1246 kq_133 W) ?_
    refine r_bipush (v := 8) C dX12_stream_175 (by decide) ?_
    refine r_aload_n C dX12_stream_177 rfl 0 rfl ?_
    refine r_callVI C M h [] [.int 8, .ref (ad 162)] mlX12_310 mcX12_fontInUse (fun q9 e9 => s_X12_fontInUse   e9) kq_133 rfl (by decide) (by decide) rfl rfl (Nat.le_of_ble_eq_true rfl) dX12_stream_178 (fun v22 T23 h => ?_)
    refine r_iastc (n := 12) C 8 dX12_stream_181 kq_162 lq_162 (vp_lit (by decide)) (by decide) h (fun T24 h => ?_)
    refine r_aload_n C dX12_stream_182 rfl 0 rfl ?_
    show Jr _ _ _ _ _ _ 183 _
    refine r_getp (f := 1246) (j := 162) C flX12_99 dX12_stream_183 kq_133 (by decide) rfl (fun W => pt_1246 kq_133 W) ?_
    refine r_bipush (v := 9) C dX12_stream_186 (by decide) ?_
    refine r_aload_n C dX12_stream_188 rfl 0 rfl ?_
    refine r_getp (f := 1200) (j := 134) C flX12_9 dX12_stream_189 kq_133 (by decide) rfl (fun W => pt_1200 kq_133 W) ?_
    refine r_iconst (v := 0) C dX12_stream_192 (by decide) ?_
    refine r_ialdc (n := 192) C 0 dX12_stream_193 kq_134 lq_134 (vp_lit (by decide)) (by decide) ?_
    show Jr _ _ _ _ _ _ 194 _
    refine r_iastc (n := 12) C 9 dX12_stream_194 kq_162 lq_162 (vp_lit (by decide)) (by decide) h (fun T25 h => ?_)
    refine r_aload_n C dX12_stream_195 rfl 0 rfl ?_
    refine r_getp (f := 1246) (j := 162) C flX12_99 dX12_stream_196 kq_133 (by decide) rfl (fun W => pt_1246 kq_133 W) ?_
    refine r_bipush (v := 10) C dX12_stream_199 (by decide) ?_
    refine r_aload_n C dX12_stream_201 rfl 0 rfl ?_
    refine r_getp (f := 1200) (j := 134) C flX12_9 dX12_stream_202 kq_133 (by decide) rfl (fun W => pt_1200 kq_133 W) ?_
    show Jr _ _ _ _ _ _ 205 _
    refine r_iconst (v := 1) C dX12_stream_205 (by decide) ?_
    refine r_ialdc (n := 192) C 1 dX12_stream_206 kq_134 lq_134 (vp_lit (by decide)) (by decide) ?_
    refine r_iastc (n := 12) C 10 dX12_stream_207 kq_162 lq_162 (vp_lit (by decide)) (by decide) h (fun T26 h => ?_)
    refine r_aload_n C dX12_stream_208 rfl 0 rfl ?_
    refine r_getp (f := 1246) (j := 162) C flX12_99 dX12_stream_209 kq_133 (by decide) rfl (fun W => pt_1246 kq_133 W) ?_
    refine r_bipush (v := 11) C dX12_stream_212 (by decide) ?_
    show Jr _ _ _ _ _ _ 214 _
    refine r_aload_n C dX12_stream_214 rfl 0 rfl ?_
    refine r_getp (f := 1200) (j := 134) C flX12_9 dX12_stream_215 kq_133 (by decide) rfl (fun W => pt_1200 kq_133 W) ?_
    refine r_sipush (v := 146) C dX12_stream_218 (by decide) ?_
    refine r_ialdc (n := 192) C 146 dX12_stream_221 kq_134 lq_134 (vp_lit (by decide)) (by decide) ?_
    refine r_iastc (n := 12) C 11 dX12_stream_222 kq_162 lq_162 (vp_lit (by decide)) (by decide) h (fun T27 h => ?_)
    refine r_aload_n C dX12_stream_223 rfl 0 rfl ?_
    show Jr _ _ _ _ _ _ 224 _
    refine r_callVN C M h [] [] mlX12_307 mcX12_eject (fun q9 e9 => s_X12_eject (D := gmM_D 5) (by decide) (gmM_ok 5)   e9) kq_133 rfl (by decide) (by decide) rfl rfl (Nat.le_of_ble_eq_true rfl) dX12_stream_224 (fun _ T28 h => ?_)
    refine r_aload_n C dX12_stream_227 rfl 0 rfl ?_
    refine r_geti (f := 1233) C flX12_191 dX12_stream_228 kq_133 (by decide) (by decide) rfl ?_
    refine r_if_ne (tgt := 249) C dX12_stream_231 (by decide) h (fun h => ?_) (fun h => ?_)
    · exact r_vret C M dX12_stream_249 h
    · refine r_aload_n C dX12_stream_234 rfl 0 rfl ?_
      refine r_iconst (v := 1) C dX12_stream_235 (by decide) ?_
      refine r_putz (f := 1247) C flX12_661 (by decide) rfl rfl (by decide) dX12_stream_236 kq_133 rfl h (fun T29 h => ?_)
      refine r_aload_n C dX12_stream_239 rfl 0 rfl ?_
      refine r_iconst (v := 1) C dX12_stream_240 (by decide) ?_
      show Jr _ _ _ _ _ _ 241 _
      refine r_iconst (v := 0) C dX12_stream_241 (by decide) ?_
      refine r_callVN C M h [.int 1, .int 0] [] mlX12_228 mcX12_reset (fun q9 e9 => s_X12_reset 1 0  e9) kq_133 rfl (by decide) (by decide) rfl rfl (Nat.le_of_ble_eq_true rfl) dX12_stream_242 (fun _ T30 h => ?_)
      refine r_aload_n C dX12_stream_245 rfl 0 rfl ?_
      refine r_callVN C M h [] [] mlX12_387 mcX12_temporaryGo (fun q9 e9 => s_X12_temporaryGo   e9) kq_133 rfl (by decide) (by decide) rfl rfl (Nat.le_of_ble_eq_true rfl) dX12_stream_246 (fun _ T31 h => ?_)
      exact r_vret C M dX12_stream_249 h
  · exact r_vret C M dX12_stream_66 h
theorem dX12_wrong_0 : decode cX12_wrong 0 = .ok (.aload_n 0, 1) := by decide +kernel
theorem dX12_wrong_1 : decode cX12_wrong 1 = .ok (.iload_n 1, 1) := by decide +kernel
theorem dX12_wrong_2 : decode cX12_wrong 2 = .ok (.putfield 586, 3) := by decide +kernel
theorem dX12_wrong_5 : decode cX12_wrong 5 = .ok (.aload_n 0, 1) := by decide +kernel
theorem dX12_wrong_6 : decode cX12_wrong 6 = .ok (.iload_n 2, 1) := by decide +kernel
theorem dX12_wrong_7 : decode cX12_wrong 7 = .ok (.putfield 140, 3) := by decide +kernel
theorem dX12_wrong_10 : decode cX12_wrong 10 = .ok (.iconst 0, 1) := by decide +kernel
theorem dX12_wrong_11 : decode cX12_wrong 11 = .ok (.ireturn, 1) := by decide +kernel
noncomputable def f_X12_wrong (p1 : Int32) (p2 : Int32) (T : Mm) : Option (Int32 × Mm) :=
  lb (uI T 1243 133 p1) fun T1 =>
  lb (uI T1 1245 133 p2) fun T2 =>
  some (0, T2)
set_option maxRecDepth 100000 in
set_option maxHeartbeats 4000000 in
theorem s_X12_wrong {ad : Nat → Nat} {U T : Mm} {q : Int32 × Mm}  (p1 : Int32) (p2 : Int32) (h : f_X12_wrong p1 p2 T = some q) : Cr 1 yX12_wrong cX12_wrong 3 (some .boolean) [.ref (ad 133), .int p1, .int p2] ad false U T eI q := by
  refine cr_of (by decide) (Nat.le_of_ble_eq_true rfl) fun x S0 hn9 C M => ?_
  have C : CB x RX12 cX12_wrong := C
  refine Jr.eq (lv' := [(0, .ref (ad 133)), (1, .int p1), (2, .int p2)]) (st' := []) rfl rfl ?_
  unfold f_X12_wrong at h
  refine r_aload_n C dX12_wrong_0 rfl 0 rfl ?_
  refine r_iload_n C dX12_wrong_1 rfl 1 rfl ?_
  refine r_puti (f := 1243) C flX12_586 (by decide) rfl rfl dX12_wrong_2 kq_133 rfl h (fun T1 h => ?_)
  refine r_aload_n C dX12_wrong_5 rfl 0 rfl ?_
  refine r_iload_n C dX12_wrong_6 rfl 2 rfl ?_
  show Jr _ _ _ _ _ _ 7 _
  refine r_puti (f := 1245) C flX12_140 (by decide) rfl rfl dX12_wrong_7 kq_133 rfl h (fun T2 h => ?_)
  refine r_iconst (v := 0) C dX12_wrong_10 (by decide) ?_
  exact r_zret C M dX12_wrong_11 (by decide) h
theorem dX12_picture_0 : decode cX12_picture 0 = .ok (.lconst 0, 1) := by decide +kernel
theorem dX12_picture_1 : decode cX12_picture 1 = .ok (.lstore_n 3, 1) := by decide +kernel
theorem dX12_picture_2 : decode cX12_picture 2 = .ok (.iconst 0, 1) := by decide +kernel
theorem dX12_picture_3 : decode cX12_picture 3 = .ok (.istore 5, 2) := by decide +kernel
theorem dX12_picture_5 : decode cX12_picture 5 = .ok (.iload 5, 2) := by decide +kernel
theorem dX12_picture_7 : decode cX12_picture 7 = .ok (.iload_n 2, 1) := by decide +kernel
theorem dX12_picture_8 : decode cX12_picture 8 = .ok (.if_icmp .ge 54, 3) := by decide +kernel
theorem dX12_picture_11 : decode cX12_picture 11 = .ok (.aload_n 0, 1) := by decide +kernel
theorem dX12_picture_12 : decode cX12_picture 12 = .ok (.getfield 66, 3) := by decide +kernel
theorem dX12_picture_15 : decode cX12_picture 15 = .ok (.aload_n 0, 1) := by decide +kernel
theorem dX12_picture_16 : decode cX12_picture 16 = .ok (.getfield 580, 3) := by decide +kernel
theorem dX12_picture_19 : decode cX12_picture 19 = .ok (.iload_n 1, 1) := by decide +kernel
theorem dX12_picture_20 : decode cX12_picture 20 = .ok (.iadd, 1) := by decide +kernel
theorem dX12_picture_21 : decode cX12_picture 21 = .ok (.aload_n 0, 1) := by decide +kernel
theorem dX12_picture_22 : decode cX12_picture 22 = .ok (.getfield 583, 3) := by decide +kernel
theorem dX12_picture_25 : decode cX12_picture 25 = .ok (.ifCond .eq 8, 3) := by decide +kernel
theorem dX12_picture_28 : decode cX12_picture 28 = .ok (.iload 5, 2) := by decide +kernel
theorem dX12_picture_30 : decode cX12_picture 30 = .ok (.goto 9, 3) := by decide +kernel
theorem dX12_picture_33 : decode cX12_picture 33 = .ok (.iload_n 2, 1) := by decide +kernel
theorem dX12_picture_34 : decode cX12_picture 34 = .ok (.iconst 1, 1) := by decide +kernel
theorem dX12_picture_35 : decode cX12_picture 35 = .ok (.isub, 1) := by decide +kernel
theorem dX12_picture_36 : decode cX12_picture 36 = .ok (.iload 5, 2) := by decide +kernel
theorem dX12_picture_38 : decode cX12_picture 38 = .ok (.isub, 1) := by decide +kernel
theorem dX12_picture_39 : decode cX12_picture 39 = .ok (.iadd, 1) := by decide +kernel
theorem dX12_picture_40 : decode cX12_picture 40 = .ok (.baload, 1) := by decide +kernel
theorem dX12_picture_41 : decode cX12_picture 41 = .ok (.sipush 255, 3) := by decide +kernel
theorem dX12_picture_44 : decode cX12_picture 44 = .ok (.iand, 1) := by decide +kernel
theorem dX12_picture_45 : decode cX12_picture 45 = .ok (.istore 6, 2) := by decide +kernel
theorem dX12_picture_47 : decode cX12_picture 47 = .ok (.lload_n 3, 1) := by decide +kernel
theorem dX12_picture_48 : decode cX12_picture 48 = .ok (.bipush 8, 2) := by decide +kernel
theorem dX12_picture_50 : decode cX12_picture 50 = .ok (.lshl, 1) := by decide +kernel
theorem dX12_picture_51 : decode cX12_picture 51 = .ok (.iload 6, 2) := by decide +kernel
theorem dX12_picture_53 : decode cX12_picture 53 = .ok (.i2l, 1) := by decide +kernel
theorem dX12_picture_54 : decode cX12_picture 54 = .ok (.lor, 1) := by decide +kernel
theorem dX12_picture_55 : decode cX12_picture 55 = .ok (.lstore_n 3, 1) := by decide +kernel
theorem dX12_picture_56 : decode cX12_picture 56 = .ok (.iinc 5 1, 3) := by decide +kernel
theorem dX12_picture_59 : decode cX12_picture 59 = .ok (.goto (-54), 3) := by decide +kernel
theorem dX12_picture_62 : decode cX12_picture 62 = .ok (.lload_n 3, 1) := by decide +kernel
theorem dX12_picture_63 : decode cX12_picture 63 = .ok (.lreturn, 1) := by decide +kernel
noncomputable def f_X12_picture_39 (k5 : Int32 → Int32 → Int64 → Int32 → Mm → Option (Int64 × Mm)) (a1 : Int32) (a2 : Int32) (a3 : Int64) (a5 : Int32) (b0 : Int32) (b1 : Int32) (T : Mm) : Option (Int64 × Mm) :=
  ix (b1 + b0) 12000 fun j1 =>
  lb (((gA T 152 j1) &&& 255)) fun v3 =>
  lb (((a3 <<< ((8 : Int32).toInt64 &&& 63)) ||| ((v3).toInt64))) fun v4 =>
  k5 a1 a2 v4 (a5 + 1) T
set_option maxRecDepth 100000 in
set_option maxHeartbeats 4000000 in
theorem s_X12_picture_39 {x : JX} {ad : Nat → Nat} {U : Mm} {S0 : Hp} {q : Int64 × Mm}  {k5 : Int32 → Int32 → Int64 → Int32 → Mm → Option (Int64 × Mm)} (hn9 : x_n x = 7) (C : CB x RX12 cX12_picture) (M : CMr x 1 (some .long) S0 ad false U eJ q) (hk5 : ∀ (a1 : Int32) (a2 : Int32) (a3 : Int64) (a5 : Int32) (T : Mm), k5 a1 a2 a3 a5 T = some q → Jr x ad false U T [(0, .ref (ad 133)), (1, .int a1), (2, .int a2), (3, .long a3), (5, .int a5)] 5 []) (a1 : Int32) (a2 : Int32) (a3 : Int64) (a5 : Int32) (b0 : Int32) (b1 : Int32) (T : Mm) (h : f_X12_picture_39 k5 a1 a2 a3 a5 b0 b1 T = some q) : Jr x ad false U T [(0, .ref (ad 133)), (1, .int a1), (2, .int a2), (3, .long a3), (5, .int a5)] 39 [.int b0, .int b1, .ref (ad 152)] := by
  unfold f_X12_picture_39 at h
  refine r_iadd C dX12_picture_39 rfl ?_
  refine r_bald (n := 12000) C dX12_picture_40 kq_152 lq_152 h (fun j1 hj2 h => ?_)
  refine r_sipush (v := 255) C dX12_picture_41 (by decide) ?_
  refine r_iand C dX12_picture_44 rfl ?_
  refine r_lbI h (fun v3 h => ?_)
  refine r_istore (lv' := [(6, .int v3), (0, .ref (ad 133)), (1, .int a1), (2, .int a2), (3, .long a3), (5, .int a5)]) C dX12_picture_45 (by rw [hn9]; decide) rfl ?_
  show Jr _ _ _ _ _ _ 47 _
  refine r_lload_n C dX12_picture_47 rfl 4 rfl ?_
  refine r_bipush (v := 8) C dX12_picture_48 (by decide) ?_
  refine r_lshl C dX12_picture_50 rfl ?_
  refine r_iload C dX12_picture_51 0 rfl ?_
  refine r_i2l C dX12_picture_53 rfl ?_
  refine r_lor C dX12_picture_54 rfl ?_
  show Jr _ _ _ _ _ _ 55 _
  refine r_lbJ h (fun v4 h => ?_)
  refine r_lstore_n (lv' := [(3, .long v4), (6, .int v3), (0, .ref (ad 133)), (1, .int a1), (2, .int a2), (5, .int a5)]) C dX12_picture_55 rfl (by rw [hn9]; decide) rfl ?_
  refine r_iinc (q := 5) (v := (a5 + 1)) (lv' := [(5, .int (a5 + 1)), (3, .long v4), (6, .int v3), (0, .ref (ad 133)), (1, .int a1), (2, .int a2)]) C dX12_picture_56 rfl (by rw [show Int32.ofInt (1) = 1 by decide]) (by rw [hn9]; decide) rfl ?_
  refine r_goto (tgt := 5) C dX12_picture_59 (by decide) ?_
  refine Jr.sub [3, 4, 5, 1, 0] (lv' := [(0, .ref (ad 133)), (1, .int a1), (2, .int a2), (3, .long v4), (5, .int (a5 + 1))]) rfl ?_
  exact hk5 a1 a2 v4 (a5 + 1) T h
noncomputable def f_X12_picture_b5 (k5 : Int32 → Int32 → Int64 → Int32 → Mm → Option (Int64 × Mm)) (a1 : Int32) (a2 : Int32) (a3 : Int64) (a5 : Int32) (T : Mm) : Option (Int64 × Mm) :=
  if a2 ≤ a5 then (some (a3, T))
  else (if (gI T 1269 133) = 0 then (f_X12_picture_39 k5 a1 a2 a3 a5 ((a2 - 1) - a5) ((gI T 1267 133) + a1) T)
  else (f_X12_picture_39 k5 a1 a2 a3 a5 a5 ((gI T 1267 133) + a1) T))
set_option maxRecDepth 100000 in
set_option maxHeartbeats 4000000 in
theorem s_X12_picture_b5 {x : JX} {ad : Nat → Nat} {U : Mm} {S0 : Hp} {q : Int64 × Mm}  {k5 : Int32 → Int32 → Int64 → Int32 → Mm → Option (Int64 × Mm)} (hn9 : x_n x = 7) (C : CB x RX12 cX12_picture) (M : CMr x 1 (some .long) S0 ad false U eJ q) (hk5 : ∀ (a1 : Int32) (a2 : Int32) (a3 : Int64) (a5 : Int32) (T : Mm), k5 a1 a2 a3 a5 T = some q → Jr x ad false U T [(0, .ref (ad 133)), (1, .int a1), (2, .int a2), (3, .long a3), (5, .int a5)] 5 []) (a1 : Int32) (a2 : Int32) (a3 : Int64) (a5 : Int32) (T : Mm) (h : f_X12_picture_b5 k5 a1 a2 a3 a5 T = some q) : Jr x ad false U T [(0, .ref (ad 133)), (1, .int a1), (2, .int a2), (3, .long a3), (5, .int a5)] 5 [] := by
  unfold f_X12_picture_b5 at h
  refine r_iload C dX12_picture_5 4 rfl ?_
  refine r_iload_n C dX12_picture_7 rfl 2 rfl ?_
  refine r_ic_ge (tgt := 62) C dX12_picture_8 (by decide) h (fun h => ?_) (fun h => ?_)
  · refine r_lload_n C dX12_picture_62 rfl 3 rfl ?_
    exact r_lret C M dX12_picture_63 h
  · refine r_aload_n C dX12_picture_11 rfl 0 rfl ?_
    refine r_getp (f := 1219) (j := 152) C flX12_66 dX12_picture_12 kq_133 (by decide) rfl (fun W => pt_1219 kq_133 W) ?_
    refine r_aload_n C dX12_picture_15 rfl 0 rfl ?_
    refine r_geti (f := 1267) C flX12_580 dX12_picture_16 kq_133 (by decide) (by decide) rfl ?_
    refine r_iload_n C dX12_picture_19 rfl 1 rfl ?_
    show Jr _ _ _ _ _ _ 20 _
    refine r_iadd C dX12_picture_20 rfl ?_
    refine r_aload_n C dX12_picture_21 rfl 0 rfl ?_
    refine r_geti (f := 1269) C flX12_583 dX12_picture_22 kq_133 (by decide) (by decide) rfl ?_
    refine r_if_eq (tgt := 33) C dX12_picture_25 (by decide) h (fun h => ?_) (fun h => ?_)
    · refine r_iload_n C dX12_picture_33 rfl 2 rfl ?_
      refine r_iconst (v := 1) C dX12_picture_34 (by decide) ?_
      refine r_isub C dX12_picture_35 rfl ?_
      refine r_iload C dX12_picture_36 4 rfl ?_
      refine r_isub C dX12_picture_38 rfl ?_
      exact s_X12_picture_39 hn9 C M hk5 a1 a2 a3 a5 ((a2 - 1) - a5) ((gI T 1267 133) + a1) T h
    · refine r_iload C dX12_picture_28 4 rfl ?_
      refine r_goto (tgt := 39) C dX12_picture_30 (by decide) ?_
      exact s_X12_picture_39 hn9 C M hk5 a1 a2 a3 a5 a5 ((gI T 1267 133) + a1) T h
noncomputable def f_X12_picture_l5 (n : Nat) : Int32 → Int32 → Int64 → Int32 → Mm → Option (Int64 × Mm) := Nat.rec (fun _ _ _ _ _ => none) (fun _ ih => f_X12_picture_b5 ih) n
theorem s_X12_picture_l5 {x : JX} {ad : Nat → Nat} {U : Mm} {S0 : Hp} {q : Int64 × Mm}  (hn9 : x_n x = 7) (C : CB x RX12 cX12_picture) (M : CMr x 1 (some .long) S0 ad false U eJ q) : ∀ (n : Nat), ∀ (a1 : Int32) (a2 : Int32) (a3 : Int64) (a5 : Int32) (T : Mm), f_X12_picture_l5  n a1 a2 a3 a5 T = some q → Jr x ad false U T [(0, .ref (ad 133)), (1, .int a1), (2, .int a2), (3, .long a3), (5, .int a5)] 5 [] := by
  intro n
  induction n with
  | zero => intro a1 a2 a3 a5 T  h; exact absurd h (by intro h; cases h)
  | succ n ih => exact fun a1 a2 a3 a5 T  h => s_X12_picture_b5 hn9 C M (ih) a1 a2 a3 a5 T  h
noncomputable def f_X12_picture (p1 : Int32) (p2 : Int32) (T : Mm) : Option (Int64 × Mm) :=
  f_X12_picture_l5 FU p1 p2 0 0 T
set_option maxRecDepth 100000 in
set_option maxHeartbeats 4000000 in
theorem s_X12_picture {ad : Nat → Nat} {U T : Mm} {q : Int64 × Mm}  (p1 : Int32) (p2 : Int32) (h : f_X12_picture p1 p2 T = some q) : Cr 1 yX12_picture cX12_picture 7 (some .long) [.ref (ad 133), .int p1, .int p2] ad false U T eJ q := by
  refine cr_of (by decide) (Nat.le_of_ble_eq_true rfl) fun x S0 hn9 C M => ?_
  have C : CB x RX12 cX12_picture := C
  refine Jr.eq (lv' := [(0, .ref (ad 133)), (1, .int p1), (2, .int p2)]) (st' := []) rfl rfl ?_
  unfold f_X12_picture at h
  refine r_lconst (v := 0) C dX12_picture_0 (by decide) ?_
  refine r_lstore_n (lv' := [(3, .long 0), (0, .ref (ad 133)), (1, .int p1), (2, .int p2)]) C dX12_picture_1 rfl (by rw [hn9]; decide) rfl ?_
  refine r_iconst (v := 0) C dX12_picture_2 (by decide) ?_
  refine r_istore (lv' := [(5, .int 0), (3, .long 0), (0, .ref (ad 133)), (1, .int p1), (2, .int p2)]) C dX12_picture_3 (by rw [hn9]; decide) rfl ?_
  refine Jr.sub [2, 3, 4, 1, 0] (lv' := [(0, .ref (ad 133)), (1, .int p1), (2, .int p2), (3, .long 0), (5, .int 0)]) rfl ?_
  exact s_X12_picture_l5 hn9 C M  FU p1 p2 0 0 T h
theorem dX12_isLooked_0 : decode cX12_isLooked 0 = .ok (.iload_n 0, 1) := by decide +kernel
theorem dX12_isLooked_1 : decode cX12_isLooked 1 = .ok (.sipush 256, 3) := by decide +kernel
theorem dX12_isLooked_4 : decode cX12_isLooked 4 = .ok (.if_icmp .eq 73, 3) := by decide +kernel
theorem dX12_isLooked_7 : decode cX12_isLooked 7 = .ok (.iload_n 0, 1) := by decide +kernel
theorem dX12_isLooked_8 : decode cX12_isLooked 8 = .ok (.sipush 257, 3) := by decide +kernel
theorem dX12_isLooked_11 : decode cX12_isLooked 11 = .ok (.if_icmp .eq 66, 3) := by decide +kernel
theorem dX12_isLooked_14 : decode cX12_isLooked 14 = .ok (.iload_n 0, 1) := by decide +kernel
theorem dX12_isLooked_15 : decode cX12_isLooked 15 = .ok (.sipush 258, 3) := by decide +kernel
theorem dX12_isLooked_18 : decode cX12_isLooked 18 = .ok (.if_icmp .eq 59, 3) := by decide +kernel
theorem dX12_isLooked_21 : decode cX12_isLooked 21 = .ok (.iload_n 0, 1) := by decide +kernel
theorem dX12_isLooked_22 : decode cX12_isLooked 22 = .ok (.sipush 259, 3) := by decide +kernel
theorem dX12_isLooked_25 : decode cX12_isLooked 25 = .ok (.if_icmp .eq 52, 3) := by decide +kernel
theorem dX12_isLooked_28 : decode cX12_isLooked 28 = .ok (.iload_n 0, 1) := by decide +kernel
theorem dX12_isLooked_29 : decode cX12_isLooked 29 = .ok (.sipush 262, 3) := by decide +kernel
theorem dX12_isLooked_32 : decode cX12_isLooked 32 = .ok (.if_icmp .eq 45, 3) := by decide +kernel
theorem dX12_isLooked_35 : decode cX12_isLooked 35 = .ok (.iload_n 0, 1) := by decide +kernel
theorem dX12_isLooked_36 : decode cX12_isLooked 36 = .ok (.sipush 266, 3) := by decide +kernel
theorem dX12_isLooked_39 : decode cX12_isLooked 39 = .ok (.if_icmp .eq 38, 3) := by decide +kernel
theorem dX12_isLooked_42 : decode cX12_isLooked 42 = .ok (.iload_n 0, 1) := by decide +kernel
theorem dX12_isLooked_43 : decode cX12_isLooked 43 = .ok (.sipush 273, 3) := by decide +kernel
theorem dX12_isLooked_46 : decode cX12_isLooked 46 = .ok (.if_icmp .eq 31, 3) := by decide +kernel
theorem dX12_isLooked_49 : decode cX12_isLooked 49 = .ok (.iload_n 0, 1) := by decide +kernel
theorem dX12_isLooked_50 : decode cX12_isLooked 50 = .ok (.sipush 277, 3) := by decide +kernel
theorem dX12_isLooked_53 : decode cX12_isLooked 53 = .ok (.if_icmp .eq 24, 3) := by decide +kernel
theorem dX12_isLooked_56 : decode cX12_isLooked 56 = .ok (.iload_n 0, 1) := by decide +kernel
theorem dX12_isLooked_57 : decode cX12_isLooked 57 = .ok (.sipush 278, 3) := by decide +kernel
theorem dX12_isLooked_60 : decode cX12_isLooked 60 = .ok (.if_icmp .eq 17, 3) := by decide +kernel
theorem dX12_isLooked_63 : decode cX12_isLooked 63 = .ok (.iload_n 0, 1) := by decide +kernel
theorem dX12_isLooked_64 : decode cX12_isLooked 64 = .ok (.sipush 279, 3) := by decide +kernel
theorem dX12_isLooked_67 : decode cX12_isLooked 67 = .ok (.if_icmp .eq 10, 3) := by decide +kernel
theorem dX12_isLooked_70 : decode cX12_isLooked 70 = .ok (.iload_n 0, 1) := by decide +kernel
theorem dX12_isLooked_71 : decode cX12_isLooked 71 = .ok (.sipush 293, 3) := by decide +kernel
theorem dX12_isLooked_74 : decode cX12_isLooked 74 = .ok (.if_icmp .ne 7, 3) := by decide +kernel
theorem dX12_isLooked_77 : decode cX12_isLooked 77 = .ok (.iconst 1, 1) := by decide +kernel
theorem dX12_isLooked_78 : decode cX12_isLooked 78 = .ok (.goto 4, 3) := by decide +kernel
theorem dX12_isLooked_81 : decode cX12_isLooked 81 = .ok (.iconst 0, 1) := by decide +kernel
theorem dX12_isLooked_82 : decode cX12_isLooked 82 = .ok (.ireturn, 1) := by decide +kernel
noncomputable def f_X12_isLooked (p0 : Int32) (T : Mm) : Option (Int32 × Mm) :=
  if p0 = 256 then (some (1, T))
  else (if p0 = 257 then (some (1, T))
  else (if p0 = 258 then (some (1, T))
  else (if p0 = 259 then (some (1, T))
  else (if p0 = 262 then (some (1, T))
  else (if p0 = 266 then (some (1, T))
  else (if p0 = 273 then (some (1, T))
  else (if p0 = 277 then (some (1, T))
  else (if p0 = 278 then (some (1, T))
  else (if p0 = 279 then (some (1, T))
  else (if p0 = 293 then (some (1, T))
  else (some (0, T))))))))))))
set_option maxRecDepth 100000 in
set_option maxHeartbeats 4000000 in
theorem s_X12_isLooked {ad : Nat → Nat} {U T : Mm} {q : Int32 × Mm}  (p0 : Int32) (h : f_X12_isLooked p0 T = some q) : Cr 1 yX12_isLooked cX12_isLooked 1 (some .boolean) [.int p0] ad false U T eI q := by
  refine cr_of (by decide) (Nat.le_of_ble_eq_true rfl) fun x S0 hn9 C M => ?_
  have C : CB x RX12 cX12_isLooked := C
  refine Jr.eq (lv' := [(0, .int p0)]) (st' := []) rfl rfl ?_
  unfold f_X12_isLooked at h
  refine r_iload_n C dX12_isLooked_0 rfl 0 rfl ?_
  refine r_sipush (v := 256) C dX12_isLooked_1 (by decide) ?_
  refine r_ic_eq (tgt := 77) C dX12_isLooked_4 (by decide) h (fun h => ?_) (fun h => ?_)
  · refine r_iconst (v := 1) C dX12_isLooked_77 (by decide) ?_
    refine r_goto (tgt := 82) C dX12_isLooked_78 (by decide) ?_
    exact r_zret C M dX12_isLooked_82 (by decide) h
  · refine r_iload_n C dX12_isLooked_7 rfl 0 rfl ?_
    refine r_sipush (v := 257) C dX12_isLooked_8 (by decide) ?_
    refine r_ic_eq (tgt := 77) C dX12_isLooked_11 (by decide) h (fun h => ?_) (fun h => ?_)
    · refine r_iconst (v := 1) C dX12_isLooked_77 (by decide) ?_
      refine r_goto (tgt := 82) C dX12_isLooked_78 (by decide) ?_
      exact r_zret C M dX12_isLooked_82 (by decide) h
    · refine r_iload_n C dX12_isLooked_14 rfl 0 rfl ?_
      refine r_sipush (v := 258) C dX12_isLooked_15 (by decide) ?_
      refine r_ic_eq (tgt := 77) C dX12_isLooked_18 (by decide) h (fun h => ?_) (fun h => ?_)
      · refine r_iconst (v := 1) C dX12_isLooked_77 (by decide) ?_
        refine r_goto (tgt := 82) C dX12_isLooked_78 (by decide) ?_
        exact r_zret C M dX12_isLooked_82 (by decide) h
      · refine r_iload_n C dX12_isLooked_21 rfl 0 rfl ?_
        refine r_sipush (v := 259) C dX12_isLooked_22 (by decide) ?_
        refine r_ic_eq (tgt := 77) C dX12_isLooked_25 (by decide) h (fun h => ?_) (fun h => ?_)
        · refine r_iconst (v := 1) C dX12_isLooked_77 (by decide) ?_
          refine r_goto (tgt := 82) C dX12_isLooked_78 (by decide) ?_
          exact r_zret C M dX12_isLooked_82 (by decide) h
        · refine r_iload_n C dX12_isLooked_28 rfl 0 rfl ?_
          refine r_sipush (v := 262) C dX12_isLooked_29 (by decide) ?_
          refine r_ic_eq (tgt := 77) C dX12_isLooked_32 (by decide) h (fun h => ?_) (fun h => ?_)
          · refine r_iconst (v := 1) C dX12_isLooked_77 (by decide) ?_
            refine r_goto (tgt := 82) C dX12_isLooked_78 (by decide) ?_
            exact r_zret C M dX12_isLooked_82 (by decide) h
          · refine r_iload_n C dX12_isLooked_35 rfl 0 rfl ?_
            refine r_sipush (v := 266) C dX12_isLooked_36 (by decide) ?_
            refine r_ic_eq (tgt := 77) C dX12_isLooked_39 (by decide) h (fun h => ?_) (fun h => ?_)
            · refine r_iconst (v := 1) C dX12_isLooked_77 (by decide) ?_
              refine r_goto (tgt := 82) C dX12_isLooked_78 (by decide) ?_
              exact r_zret C M dX12_isLooked_82 (by decide) h
            · refine r_iload_n C dX12_isLooked_42 rfl 0 rfl ?_
              refine r_sipush (v := 273) C dX12_isLooked_43 (by decide) ?_
              refine r_ic_eq (tgt := 77) C dX12_isLooked_46 (by decide) h (fun h => ?_) (fun h => ?_)
              · refine r_iconst (v := 1) C dX12_isLooked_77 (by decide) ?_
                refine r_goto (tgt := 82) C dX12_isLooked_78 (by decide) ?_
                exact r_zret C M dX12_isLooked_82 (by decide) h
              · refine r_iload_n C dX12_isLooked_49 rfl 0 rfl ?_
                refine r_sipush (v := 277) C dX12_isLooked_50 (by decide) ?_
                refine r_ic_eq (tgt := 77) C dX12_isLooked_53 (by decide) h (fun h => ?_) (fun h => ?_)
                · refine r_iconst (v := 1) C dX12_isLooked_77 (by decide) ?_
                  refine r_goto (tgt := 82) C dX12_isLooked_78 (by decide) ?_
                  exact r_zret C M dX12_isLooked_82 (by decide) h
                · refine r_iload_n C dX12_isLooked_56 rfl 0 rfl ?_
                  refine r_sipush (v := 278) C dX12_isLooked_57 (by decide) ?_
                  refine r_ic_eq (tgt := 77) C dX12_isLooked_60 (by decide) h (fun h => ?_) (fun h => ?_)
                  · refine r_iconst (v := 1) C dX12_isLooked_77 (by decide) ?_
                    refine r_goto (tgt := 82) C dX12_isLooked_78 (by decide) ?_
                    exact r_zret C M dX12_isLooked_82 (by decide) h
                  · refine r_iload_n C dX12_isLooked_63 rfl 0 rfl ?_
                    refine r_sipush (v := 279) C dX12_isLooked_64 (by decide) ?_
                    refine r_ic_eq (tgt := 77) C dX12_isLooked_67 (by decide) h (fun h => ?_) (fun h => ?_)
                    · refine r_iconst (v := 1) C dX12_isLooked_77 (by decide) ?_
                      refine r_goto (tgt := 82) C dX12_isLooked_78 (by decide) ?_
                      exact r_zret C M dX12_isLooked_82 (by decide) h
                    · refine r_iload_n C dX12_isLooked_70 rfl 0 rfl ?_
                      refine r_sipush (v := 293) C dX12_isLooked_71 (by decide) ?_
                      refine r_ic_ne (tgt := 81) C dX12_isLooked_74 (by decide) h (fun h => ?_) (fun h => ?_)
                      · refine r_iconst (v := 0) C dX12_isLooked_81 (by decide) ?_
                        exact r_zret C M dX12_isLooked_82 (by decide) h
                      · refine r_iconst (v := 1) C dX12_isLooked_77 (by decide) ?_
                        refine r_goto (tgt := 82) C dX12_isLooked_78 (by decide) ?_
                        exact r_zret C M dX12_isLooked_82 (by decide) h
theorem dX12_valueOf_0 : decode cX12_valueOf 0 = .ok (.aload_n 0, 1) := by decide +kernel
theorem dX12_valueOf_1 : decode cX12_valueOf 1 = .ok (.iload_n 1, 1) := by decide +kernel
theorem dX12_valueOf_2 : decode cX12_valueOf 2 = .ok (.iconst 2, 1) := by decide +kernel
theorem dX12_valueOf_3 : decode cX12_valueOf 3 = .ok (.iadd, 1) := by decide +kernel
theorem dX12_valueOf_4 : decode cX12_valueOf 4 = .ok (.iconst 2, 1) := by decide +kernel
theorem dX12_valueOf_5 : decode cX12_valueOf 5 = .ok (.invokevirtual 595, 3) := by decide +kernel
theorem dX12_valueOf_8 : decode cX12_valueOf 8 = .ok (.ldc2_w 610, 3) := by decide +kernel
theorem dX12_valueOf_11 : decode cX12_valueOf 11 = .ok (.lcmp, 1) := by decide +kernel
theorem dX12_valueOf_12 : decode cX12_valueOf 12 = .ok (.ifCond .ne 7, 3) := by decide +kernel
theorem dX12_valueOf_15 : decode cX12_valueOf 15 = .ok (.iconst 2, 1) := by decide +kernel
theorem dX12_valueOf_16 : decode cX12_valueOf 16 = .ok (.goto 4, 3) := by decide +kernel
theorem dX12_valueOf_19 : decode cX12_valueOf 19 = .ok (.iconst 4, 1) := by decide +kernel
theorem dX12_valueOf_20 : decode cX12_valueOf 20 = .ok (.istore_n 3, 1) := by decide +kernel
theorem dX12_valueOf_21 : decode cX12_valueOf 21 = .ok (.aload_n 0, 1) := by decide +kernel
theorem dX12_valueOf_22 : decode cX12_valueOf 22 = .ok (.iload_n 1, 1) := by decide +kernel
theorem dX12_valueOf_23 : decode cX12_valueOf 23 = .ok (.iconst 4, 1) := by decide +kernel
theorem dX12_valueOf_24 : decode cX12_valueOf 24 = .ok (.iadd, 1) := by decide +kernel
theorem dX12_valueOf_25 : decode cX12_valueOf 25 = .ok (.iconst 4, 1) := by decide +kernel
theorem dX12_valueOf_26 : decode cX12_valueOf 26 = .ok (.invokevirtual 595, 3) := by decide +kernel
theorem dX12_valueOf_29 : decode cX12_valueOf 29 = .ok (.lstore 4, 2) := by decide +kernel
theorem dX12_valueOf_31 : decode cX12_valueOf 31 = .ok (.lload 4, 2) := by decide +kernel
theorem dX12_valueOf_33 : decode cX12_valueOf 33 = .ok (.iload_n 3, 1) := by decide +kernel
theorem dX12_valueOf_34 : decode cX12_valueOf 34 = .ok (.i2l, 1) := by decide +kernel
theorem dX12_valueOf_35 : decode cX12_valueOf 35 = .ok (.lmul, 1) := by decide +kernel
theorem dX12_valueOf_36 : decode cX12_valueOf 36 = .ok (.ldc2_w 603, 3) := by decide +kernel
theorem dX12_valueOf_39 : decode cX12_valueOf 39 = .ok (.lcmp, 1) := by decide +kernel
theorem dX12_valueOf_40 : decode cX12_valueOf 40 = .ok (.ifCond .gt 10, 3) := by decide +kernel
theorem dX12_valueOf_43 : decode cX12_valueOf 43 = .ok (.iload_n 1, 1) := by decide +kernel
theorem dX12_valueOf_44 : decode cX12_valueOf 44 = .ok (.bipush 8, 2) := by decide +kernel
theorem dX12_valueOf_46 : decode cX12_valueOf 46 = .ok (.iadd, 1) := by decide +kernel
theorem dX12_valueOf_47 : decode cX12_valueOf 47 = .ok (.goto 13, 3) := by decide +kernel
theorem dX12_valueOf_50 : decode cX12_valueOf 50 = .ok (.aload_n 0, 1) := by decide +kernel
theorem dX12_valueOf_51 : decode cX12_valueOf 51 = .ok (.iload_n 1, 1) := by decide +kernel
theorem dX12_valueOf_52 : decode cX12_valueOf 52 = .ok (.bipush 8, 2) := by decide +kernel
theorem dX12_valueOf_54 : decode cX12_valueOf 54 = .ok (.iadd, 1) := by decide +kernel
theorem dX12_valueOf_55 : decode cX12_valueOf 55 = .ok (.iconst 4, 1) := by decide +kernel
theorem dX12_valueOf_56 : decode cX12_valueOf 56 = .ok (.invokevirtual 595, 3) := by decide +kernel
theorem dX12_valueOf_59 : decode cX12_valueOf 59 = .ok (.l2i, 1) := by decide +kernel
theorem dX12_valueOf_60 : decode cX12_valueOf 60 = .ok (.istore 6, 2) := by decide +kernel
theorem dX12_valueOf_62 : decode cX12_valueOf 62 = .ok (.aload_n 0, 1) := by decide +kernel
theorem dX12_valueOf_63 : decode cX12_valueOf 63 = .ok (.iload 6, 2) := by decide +kernel
theorem dX12_valueOf_65 : decode cX12_valueOf 65 = .ok (.iload_n 3, 1) := by decide +kernel
theorem dX12_valueOf_66 : decode cX12_valueOf 66 = .ok (.iload_n 2, 1) := by decide +kernel
theorem dX12_valueOf_67 : decode cX12_valueOf 67 = .ok (.imul, 1) := by decide +kernel
theorem dX12_valueOf_68 : decode cX12_valueOf 68 = .ok (.iadd, 1) := by decide +kernel
theorem dX12_valueOf_69 : decode cX12_valueOf 69 = .ok (.iload_n 3, 1) := by decide +kernel
theorem dX12_valueOf_70 : decode cX12_valueOf 70 = .ok (.invokevirtual 595, 3) := by decide +kernel
theorem dX12_valueOf_73 : decode cX12_valueOf 73 = .ok (.lreturn, 1) := by decide +kernel
noncomputable def f_X12_valueOf_60 (a2 : Int32) (a3 : Int32) (b0 : Int32) (T : Mm) : Option (Int64 × Mm) :=
  bd (f_X12_picture (b0 + (a3 * a2)) a3 T) fun v1 T2 =>
  some (v1, T2)
set_option maxRecDepth 100000 in
set_option maxHeartbeats 4000000 in
theorem s_X12_valueOf_60 {x : JX} {ad : Nat → Nat} {U : Mm} {S0 : Hp} {q : Int64 × Mm}  (hn9 : x_n x = 7) (C : CB x RX12 cX12_valueOf) (M : CMr x 2 (some .long) S0 ad false U eJ q) (a2 : Int32) (a3 : Int32) (b0 : Int32) (T : Mm) (h : f_X12_valueOf_60  a2 a3 b0 T = some q) : Jr x ad false U T [(0, .ref (ad 133)), (2, .int a2), (3, .int a3)] 60 [.int b0] := by
  unfold f_X12_valueOf_60 at h
  refine r_istore (lv' := [(6, .int b0), (0, .ref (ad 133)), (2, .int a2), (3, .int a3)]) C dX12_valueOf_60 (by rw [hn9]; decide) rfl ?_
  refine r_aload_n C dX12_valueOf_62 rfl 1 rfl ?_
  refine r_iload C dX12_valueOf_63 0 rfl ?_
  refine r_iload_n C dX12_valueOf_65 rfl 3 rfl ?_
  refine r_iload_n C dX12_valueOf_66 rfl 2 rfl ?_
  show Jr _ _ _ _ _ _ 67 _
  refine r_imul C dX12_valueOf_67 rfl ?_
  refine r_iadd C dX12_valueOf_68 rfl ?_
  refine r_iload_n C dX12_valueOf_69 rfl 3 rfl ?_
  refine r_callVJ C M h [.int (b0 + (a3 * a2)), .int a3] [] mlX12_595 mcX12_picture (fun q9 e9 => s_X12_picture (b0 + (a3 * a2)) a3  e9) kq_133 rfl (by decide) (by decide) rfl rfl (Nat.le_of_ble_eq_true rfl) dX12_valueOf_70 (fun v1 T2 h => ?_)
  exact r_lret C M dX12_valueOf_73 h
noncomputable def f_X12_valueOf_20 (a1 : Int32) (a2 : Int32) (b0 : Int32) (T : Mm) : Option (Int64 × Mm) :=
  bd (f_X12_picture (a1 + 4) 4 T) fun v1 T2 =>
  if 0 < (lg_cmp (v1 * ((b0).toInt64)) 4) then (bd (f_X12_picture (a1 + 8) 4 T2) fun v3 T4 =>
  f_X12_valueOf_60 a2 b0 ((v3).toInt32) T4)
  else (f_X12_valueOf_60 a2 b0 (a1 + 8) T2)
set_option maxRecDepth 100000 in
set_option maxHeartbeats 4000000 in
theorem s_X12_valueOf_20 {x : JX} {ad : Nat → Nat} {U : Mm} {S0 : Hp} {q : Int64 × Mm}  (hn9 : x_n x = 7) (C : CB x RX12 cX12_valueOf) (M : CMr x 2 (some .long) S0 ad false U eJ q) (a1 : Int32) (a2 : Int32) (b0 : Int32) (T : Mm) (h : f_X12_valueOf_20  a1 a2 b0 T = some q) : Jr x ad false U T [(0, .ref (ad 133)), (1, .int a1), (2, .int a2)] 20 [.int b0] := by
  unfold f_X12_valueOf_20 at h
  refine r_istore_n (lv' := [(3, .int b0), (0, .ref (ad 133)), (1, .int a1), (2, .int a2)]) C dX12_valueOf_20 rfl (by rw [hn9]; decide) rfl ?_
  refine r_aload_n C dX12_valueOf_21 rfl 1 rfl ?_
  refine r_iload_n C dX12_valueOf_22 rfl 2 rfl ?_
  refine r_iconst (v := 4) C dX12_valueOf_23 (by decide) ?_
  refine r_iadd C dX12_valueOf_24 rfl ?_
  show Jr _ _ _ _ _ _ 25 _
  refine r_iconst (v := 4) C dX12_valueOf_25 (by decide) ?_
  refine r_callVJ C M h [.int (a1 + 4), .int 4] [] mlX12_595 mcX12_picture (fun q9 e9 => s_X12_picture (a1 + 4) 4  e9) kq_133 rfl (by decide) (by decide) rfl rfl (Nat.le_of_ble_eq_true rfl) dX12_valueOf_26 (fun v1 T2 h => ?_)
  refine r_lstore (lv' := [(4, .long v1), (3, .int b0), (0, .ref (ad 133)), (1, .int a1), (2, .int a2)]) C dX12_valueOf_29 (by rw [hn9]; decide) rfl ?_
  refine r_lload C dX12_valueOf_31 0 rfl ?_
  refine r_iload_n C dX12_valueOf_33 rfl 1 rfl ?_
  refine r_i2l C dX12_valueOf_34 rfl ?_
  show Jr _ _ _ _ _ _ 35 _
  refine r_lmul C dX12_valueOf_35 rfl ?_
  refine r_ldc2 (v := 4) C dX12_valueOf_36 kcX12_603 ?_
  refine r_lcmp C dX12_valueOf_39 ?_
  refine r_if_gt (tgt := 50) C dX12_valueOf_40 (by decide) h (fun h => ?_) (fun h => ?_)
  · refine r_aload_n C dX12_valueOf_50 rfl 2 rfl ?_
    refine r_iload_n C dX12_valueOf_51 rfl 3 rfl ?_
    refine r_bipush (v := 8) C dX12_valueOf_52 (by decide) ?_
    refine r_iadd C dX12_valueOf_54 rfl ?_
    refine r_iconst (v := 4) C dX12_valueOf_55 (by decide) ?_
    show Jr _ _ _ _ _ _ 56 _
    refine r_callVJ C M h [.int (a1 + 8), .int 4] [] mlX12_595 mcX12_picture (fun q9 e9 => s_X12_picture (a1 + 8) 4  e9) kq_133 rfl (by decide) (by decide) rfl rfl (Nat.le_of_ble_eq_true rfl) dX12_valueOf_56 (fun v3 T4 h => ?_)
    refine r_l2i C dX12_valueOf_59 rfl ?_
    refine Jr.sub [2, 4, 1] (lv' := [(0, .ref (ad 133)), (2, .int a2), (3, .int b0)]) rfl ?_
    exact s_X12_valueOf_60 hn9 C M  a2 b0 ((v3).toInt32) T4 h
  · refine r_iload_n C dX12_valueOf_43 rfl 3 rfl ?_
    refine r_bipush (v := 8) C dX12_valueOf_44 (by decide) ?_
    refine r_iadd C dX12_valueOf_46 rfl ?_
    refine r_goto (tgt := 60) C dX12_valueOf_47 (by decide) ?_
    refine Jr.sub [2, 4, 1] (lv' := [(0, .ref (ad 133)), (2, .int a2), (3, .int b0)]) rfl ?_
    exact s_X12_valueOf_60 hn9 C M  a2 b0 (a1 + 8) T2 h
noncomputable def f_X12_valueOf (p1 : Int32) (p2 : Int32) (T : Mm) : Option (Int64 × Mm) :=
  bd (f_X12_picture (p1 + 2) 2 T) fun v1 T2 =>
  if (lg_cmp v1 3) = 0 then (f_X12_valueOf_20 p1 p2 2 T2)
  else (f_X12_valueOf_20 p1 p2 4 T2)
set_option maxRecDepth 100000 in
set_option maxHeartbeats 4000000 in
theorem s_X12_valueOf {ad : Nat → Nat} {U T : Mm} {q : Int64 × Mm}  (p1 : Int32) (p2 : Int32) (h : f_X12_valueOf p1 p2 T = some q) : Cr 2 yX12_valueOf cX12_valueOf 7 (some .long) [.ref (ad 133), .int p1, .int p2] ad false U T eJ q := by
  refine cr_of (by decide) (Nat.le_of_ble_eq_true rfl) fun x S0 hn9 C M => ?_
  have C : CB x RX12 cX12_valueOf := C
  refine Jr.eq (lv' := [(0, .ref (ad 133)), (1, .int p1), (2, .int p2)]) (st' := []) rfl rfl ?_
  unfold f_X12_valueOf at h
  refine r_aload_n C dX12_valueOf_0 rfl 0 rfl ?_
  refine r_iload_n C dX12_valueOf_1 rfl 1 rfl ?_
  refine r_iconst (v := 2) C dX12_valueOf_2 (by decide) ?_
  refine r_iadd C dX12_valueOf_3 rfl ?_
  refine r_iconst (v := 2) C dX12_valueOf_4 (by decide) ?_
  show Jr _ _ _ _ _ _ 5 _
  refine r_callVJ C M h [.int (p1 + 2), .int 2] [] mlX12_595 mcX12_picture (fun q9 e9 => s_X12_picture (p1 + 2) 2  e9) kq_133 rfl (by decide) (by decide) rfl rfl (Nat.le_of_ble_eq_true rfl) dX12_valueOf_5 (fun v1 T2 h => ?_)
  refine r_ldc2 (v := 3) C dX12_valueOf_8 kcX12_610 ?_
  refine r_lcmp C dX12_valueOf_11 ?_
  refine r_if_ne (tgt := 19) C dX12_valueOf_12 (by decide) h (fun h => ?_) (fun h => ?_)
  · refine r_iconst (v := 4) C dX12_valueOf_19 (by decide) ?_
    exact s_X12_valueOf_20 hn9 C M  p1 p2 4 T2 h
  · refine r_iconst (v := 2) C dX12_valueOf_15 (by decide) ?_
    refine r_goto (tgt := 20) C dX12_valueOf_16 (by decide) ?_
    exact s_X12_valueOf_20 hn9 C M  p1 p2 2 T2 h
theorem dX12_isMay_0 : decode cX12_isMay 0 = .ok (.iload_n 0, 1) := by decide +kernel
theorem dX12_isMay_1 : decode cX12_isMay 1 = .ok (.sipush 256, 3) := by decide +kernel
theorem dX12_isMay_4 : decode cX12_isMay 4 = .ok (.if_icmp .ne 23, 3) := by decide +kernel
theorem dX12_isMay_7 : decode cX12_isMay 7 = .ok (.lload_n 1, 1) := by decide +kernel
theorem dX12_isMay_8 : decode cX12_isMay 8 = .ok (.lconst 1, 1) := by decide +kernel
theorem dX12_isMay_9 : decode cX12_isMay 9 = .ok (.lcmp, 1) := by decide +kernel
theorem dX12_isMay_10 : decode cX12_isMay 10 = .ok (.ifCond .lt 15, 3) := by decide +kernel
theorem dX12_isMay_13 : decode cX12_isMay 13 = .ok (.lload_n 1, 1) := by decide +kernel
theorem dX12_isMay_14 : decode cX12_isMay 14 = .ok (.ldc2_w 612, 3) := by decide +kernel
theorem dX12_isMay_17 : decode cX12_isMay 17 = .ok (.lcmp, 1) := by decide +kernel
theorem dX12_isMay_18 : decode cX12_isMay 18 = .ok (.ifCond .gt 7, 3) := by decide +kernel
theorem dX12_isMay_21 : decode cX12_isMay 21 = .ok (.iconst 1, 1) := by decide +kernel
theorem dX12_isMay_22 : decode cX12_isMay 22 = .ok (.goto 4, 3) := by decide +kernel
theorem dX12_isMay_25 : decode cX12_isMay 25 = .ok (.iconst 0, 1) := by decide +kernel
theorem dX12_isMay_26 : decode cX12_isMay 26 = .ok (.ireturn, 1) := by decide +kernel
theorem dX12_isMay_27 : decode cX12_isMay 27 = .ok (.iload_n 0, 1) := by decide +kernel
theorem dX12_isMay_28 : decode cX12_isMay 28 = .ok (.sipush 257, 3) := by decide +kernel
theorem dX12_isMay_31 : decode cX12_isMay 31 = .ok (.if_icmp .ne 23, 3) := by decide +kernel
theorem dX12_isMay_34 : decode cX12_isMay 34 = .ok (.lload_n 1, 1) := by decide +kernel
theorem dX12_isMay_35 : decode cX12_isMay 35 = .ok (.lconst 1, 1) := by decide +kernel
theorem dX12_isMay_36 : decode cX12_isMay 36 = .ok (.lcmp, 1) := by decide +kernel
theorem dX12_isMay_37 : decode cX12_isMay 37 = .ok (.ifCond .lt 15, 3) := by decide +kernel
theorem dX12_isMay_40 : decode cX12_isMay 40 = .ok (.lload_n 1, 1) := by decide +kernel
theorem dX12_isMay_41 : decode cX12_isMay 41 = .ok (.ldc2_w 614, 3) := by decide +kernel
theorem dX12_isMay_44 : decode cX12_isMay 44 = .ok (.lcmp, 1) := by decide +kernel
theorem dX12_isMay_45 : decode cX12_isMay 45 = .ok (.ifCond .gt 7, 3) := by decide +kernel
theorem dX12_isMay_48 : decode cX12_isMay 48 = .ok (.iconst 1, 1) := by decide +kernel
theorem dX12_isMay_49 : decode cX12_isMay 49 = .ok (.goto 4, 3) := by decide +kernel
theorem dX12_isMay_52 : decode cX12_isMay 52 = .ok (.iconst 0, 1) := by decide +kernel
theorem dX12_isMay_53 : decode cX12_isMay 53 = .ok (.ireturn, 1) := by decide +kernel
theorem dX12_isMay_54 : decode cX12_isMay 54 = .ok (.iload_n 0, 1) := by decide +kernel
theorem dX12_isMay_55 : decode cX12_isMay 55 = .ok (.sipush 258, 3) := by decide +kernel
theorem dX12_isMay_58 : decode cX12_isMay 58 = .ok (.if_icmp .eq 10, 3) := by decide +kernel
theorem dX12_isMay_61 : decode cX12_isMay 61 = .ok (.iload_n 0, 1) := by decide +kernel
theorem dX12_isMay_62 : decode cX12_isMay 62 = .ok (.sipush 277, 3) := by decide +kernel
theorem dX12_isMay_65 : decode cX12_isMay 65 = .ok (.if_icmp .ne 15, 3) := by decide +kernel
theorem dX12_isMay_68 : decode cX12_isMay 68 = .ok (.lload_n 1, 1) := by decide +kernel
theorem dX12_isMay_69 : decode cX12_isMay 69 = .ok (.lconst 1, 1) := by decide +kernel
theorem dX12_isMay_70 : decode cX12_isMay 70 = .ok (.lcmp, 1) := by decide +kernel
theorem dX12_isMay_71 : decode cX12_isMay 71 = .ok (.ifCond .ne 7, 3) := by decide +kernel
theorem dX12_isMay_74 : decode cX12_isMay 74 = .ok (.iconst 1, 1) := by decide +kernel
theorem dX12_isMay_75 : decode cX12_isMay 75 = .ok (.goto 4, 3) := by decide +kernel
theorem dX12_isMay_78 : decode cX12_isMay 78 = .ok (.iconst 0, 1) := by decide +kernel
theorem dX12_isMay_79 : decode cX12_isMay 79 = .ok (.ireturn, 1) := by decide +kernel
theorem dX12_isMay_80 : decode cX12_isMay 80 = .ok (.iload_n 0, 1) := by decide +kernel
theorem dX12_isMay_81 : decode cX12_isMay 81 = .ok (.sipush 259, 3) := by decide +kernel
theorem dX12_isMay_84 : decode cX12_isMay 84 = .ok (.if_icmp .ne 17, 3) := by decide +kernel
theorem dX12_isMay_87 : decode cX12_isMay 87 = .ok (.lload_n 1, 1) := by decide +kernel
theorem dX12_isMay_88 : decode cX12_isMay 88 = .ok (.ldc2_w 603, 3) := by decide +kernel
theorem dX12_isMay_91 : decode cX12_isMay 91 = .ok (.lcmp, 1) := by decide +kernel
theorem dX12_isMay_92 : decode cX12_isMay 92 = .ok (.ifCond .ne 7, 3) := by decide +kernel
theorem dX12_isMay_95 : decode cX12_isMay 95 = .ok (.iconst 1, 1) := by decide +kernel
theorem dX12_isMay_96 : decode cX12_isMay 96 = .ok (.goto 4, 3) := by decide +kernel
theorem dX12_isMay_99 : decode cX12_isMay 99 = .ok (.iconst 0, 1) := by decide +kernel
theorem dX12_isMay_100 : decode cX12_isMay 100 = .ok (.ireturn, 1) := by decide +kernel
theorem dX12_isMay_101 : decode cX12_isMay 101 = .ok (.iload_n 0, 1) := by decide +kernel
theorem dX12_isMay_102 : decode cX12_isMay 102 = .ok (.sipush 262, 3) := by decide +kernel
theorem dX12_isMay_105 : decode cX12_isMay 105 = .ok (.if_icmp .ne 21, 3) := by decide +kernel
theorem dX12_isMay_108 : decode cX12_isMay 108 = .ok (.lload_n 1, 1) := by decide +kernel
theorem dX12_isMay_109 : decode cX12_isMay 109 = .ok (.lconst 0, 1) := by decide +kernel
theorem dX12_isMay_110 : decode cX12_isMay 110 = .ok (.lcmp, 1) := by decide +kernel
theorem dX12_isMay_111 : decode cX12_isMay 111 = .ok (.ifCond .eq 9, 3) := by decide +kernel
theorem dX12_isMay_114 : decode cX12_isMay 114 = .ok (.lload_n 1, 1) := by decide +kernel
theorem dX12_isMay_115 : decode cX12_isMay 115 = .ok (.lconst 1, 1) := by decide +kernel
theorem dX12_isMay_116 : decode cX12_isMay 116 = .ok (.lcmp, 1) := by decide +kernel
theorem dX12_isMay_117 : decode cX12_isMay 117 = .ok (.ifCond .ne 7, 3) := by decide +kernel
theorem dX12_isMay_120 : decode cX12_isMay 120 = .ok (.iconst 1, 1) := by decide +kernel
theorem dX12_isMay_121 : decode cX12_isMay 121 = .ok (.goto 4, 3) := by decide +kernel
theorem dX12_isMay_124 : decode cX12_isMay 124 = .ok (.iconst 0, 1) := by decide +kernel
theorem dX12_isMay_125 : decode cX12_isMay 125 = .ok (.ireturn, 1) := by decide +kernel
theorem dX12_isMay_126 : decode cX12_isMay 126 = .ok (.iload_n 0, 1) := by decide +kernel
theorem dX12_isMay_127 : decode cX12_isMay 127 = .ok (.sipush 266, 3) := by decide +kernel
theorem dX12_isMay_130 : decode cX12_isMay 130 = .ok (.if_icmp .ne 23, 3) := by decide +kernel
theorem dX12_isMay_133 : decode cX12_isMay 133 = .ok (.lload_n 1, 1) := by decide +kernel
theorem dX12_isMay_134 : decode cX12_isMay 134 = .ok (.lconst 1, 1) := by decide +kernel
theorem dX12_isMay_135 : decode cX12_isMay 135 = .ok (.lcmp, 1) := by decide +kernel
theorem dX12_isMay_136 : decode cX12_isMay 136 = .ok (.ifCond .eq 11, 3) := by decide +kernel
theorem dX12_isMay_139 : decode cX12_isMay 139 = .ok (.lload_n 1, 1) := by decide +kernel
theorem dX12_isMay_140 : decode cX12_isMay 140 = .ok (.ldc2_w 356, 3) := by decide +kernel
theorem dX12_isMay_143 : decode cX12_isMay 143 = .ok (.lcmp, 1) := by decide +kernel
theorem dX12_isMay_144 : decode cX12_isMay 144 = .ok (.ifCond .ne 7, 3) := by decide +kernel
theorem dX12_isMay_147 : decode cX12_isMay 147 = .ok (.iconst 1, 1) := by decide +kernel
theorem dX12_isMay_148 : decode cX12_isMay 148 = .ok (.goto 4, 3) := by decide +kernel
theorem dX12_isMay_151 : decode cX12_isMay 151 = .ok (.iconst 0, 1) := by decide +kernel
theorem dX12_isMay_152 : decode cX12_isMay 152 = .ok (.ireturn, 1) := by decide +kernel
theorem dX12_isMay_153 : decode cX12_isMay 153 = .ok (.iload_n 0, 1) := by decide +kernel
theorem dX12_isMay_154 : decode cX12_isMay 154 = .ok (.sipush 278, 3) := by decide +kernel
theorem dX12_isMay_157 : decode cX12_isMay 157 = .ok (.if_icmp .ne 15, 3) := by decide +kernel
theorem dX12_isMay_160 : decode cX12_isMay 160 = .ok (.lload_n 1, 1) := by decide +kernel
theorem dX12_isMay_161 : decode cX12_isMay 161 = .ok (.lconst 1, 1) := by decide +kernel
theorem dX12_isMay_162 : decode cX12_isMay 162 = .ok (.lcmp, 1) := by decide +kernel
theorem dX12_isMay_163 : decode cX12_isMay 163 = .ok (.ifCond .lt 7, 3) := by decide +kernel
theorem dX12_isMay_166 : decode cX12_isMay 166 = .ok (.iconst 1, 1) := by decide +kernel
theorem dX12_isMay_167 : decode cX12_isMay 167 = .ok (.goto 4, 3) := by decide +kernel
theorem dX12_isMay_170 : decode cX12_isMay 170 = .ok (.iconst 0, 1) := by decide +kernel
theorem dX12_isMay_171 : decode cX12_isMay 171 = .ok (.ireturn, 1) := by decide +kernel
theorem dX12_isMay_172 : decode cX12_isMay 172 = .ok (.lload_n 1, 1) := by decide +kernel
theorem dX12_isMay_173 : decode cX12_isMay 173 = .ok (.lconst 0, 1) := by decide +kernel
theorem dX12_isMay_174 : decode cX12_isMay 174 = .ok (.lcmp, 1) := by decide +kernel
theorem dX12_isMay_175 : decode cX12_isMay 175 = .ok (.ifCond .ne 7, 3) := by decide +kernel
theorem dX12_isMay_178 : decode cX12_isMay 178 = .ok (.iconst 1, 1) := by decide +kernel
theorem dX12_isMay_179 : decode cX12_isMay 179 = .ok (.goto 4, 3) := by decide +kernel
theorem dX12_isMay_182 : decode cX12_isMay 182 = .ok (.iconst 0, 1) := by decide +kernel
theorem dX12_isMay_183 : decode cX12_isMay 183 = .ok (.ireturn, 1) := by decide +kernel
noncomputable def f_X12_isMay_68 (a1 : Int64) (T : Mm) : Option (Int32 × Mm) :=
  if (lg_cmp a1 1) = 0 then (some (1, T))
  else (some (0, T))
set_option maxRecDepth 100000 in
set_option maxHeartbeats 4000000 in
theorem s_X12_isMay_68 {x : JX} {ad : Nat → Nat} {U : Mm} {S0 : Hp} {q : Int32 × Mm}  (hn9 : x_n x = 3) (C : CB x RX12 cX12_isMay) (M : CMr x 1 (some .boolean) S0 ad false U eI q) (a1 : Int64) (T : Mm) (h : f_X12_isMay_68  a1 T = some q) : Jr x ad false U T [(1, .long a1)] 68 [] := by
  unfold f_X12_isMay_68 at h
  refine r_lload_n C dX12_isMay_68 rfl 0 rfl ?_
  refine r_lconst (v := 1) C dX12_isMay_69 (by decide) ?_
  refine r_lcmp C dX12_isMay_70 ?_
  refine r_if_ne (tgt := 78) C dX12_isMay_71 (by decide) h (fun h => ?_) (fun h => ?_)
  · refine r_iconst (v := 0) C dX12_isMay_78 (by decide) ?_
    exact r_zret C M dX12_isMay_79 (by decide) h
  · refine r_iconst (v := 1) C dX12_isMay_74 (by decide) ?_
    refine r_goto (tgt := 79) C dX12_isMay_75 (by decide) ?_
    exact r_zret C M dX12_isMay_79 (by decide) h
noncomputable def f_X12_isMay (p0 : Int32) (p1 : Int64) (T : Mm) : Option (Int32 × Mm) :=
  if p0 = 256 then (if (lg_cmp p1 1) < 0 then (some (0, T))
  else (if 0 < (lg_cmp p1 640) then (some (0, T))
  else (some (1, T))))
  else (if p0 = 257 then (if (lg_cmp p1 1) < 0 then (some (0, T))
  else (if 0 < (lg_cmp p1 800) then (some (0, T))
  else (some (1, T))))
  else (if p0 = 258 then (f_X12_isMay_68 p1 T)
  else (if p0 = 277 then (f_X12_isMay_68 p1 T)
  else (if p0 = 259 then (if (lg_cmp p1 4) = 0 then (some (1, T))
  else (some (0, T)))
  else (if p0 = 262 then (if (lg_cmp p1 0) = 0 then (some (1, T))
  else (if (lg_cmp p1 1) = 0 then (some (1, T))
  else (some (0, T))))
  else (if p0 = 266 then (if (lg_cmp p1 1) = 0 then (some (1, T))
  else (if (lg_cmp p1 2) = 0 then (some (1, T))
  else (some (0, T))))
  else (if p0 = 278 then (if (lg_cmp p1 1) < 0 then (some (0, T))
  else (some (1, T)))
  else (if (lg_cmp p1 0) = 0 then (some (1, T))
  else (some (0, T))))))))))
set_option maxRecDepth 100000 in
set_option maxHeartbeats 4000000 in
theorem s_X12_isMay {ad : Nat → Nat} {U T : Mm} {q : Int32 × Mm}  (p0 : Int32) (p1 : Int64) (h : f_X12_isMay p0 p1 T = some q) : Cr 1 yX12_isMay cX12_isMay 3 (some .boolean) [.int p0, .long p1] ad false U T eI q := by
  refine cr_of (by decide) (Nat.le_of_ble_eq_true rfl) fun x S0 hn9 C M => ?_
  have C : CB x RX12 cX12_isMay := C
  refine Jr.eq (lv' := [(0, .int p0), (1, .long p1)]) (st' := []) rfl rfl ?_
  unfold f_X12_isMay at h
  refine r_iload_n C dX12_isMay_0 rfl 0 rfl ?_
  refine r_sipush (v := 256) C dX12_isMay_1 (by decide) ?_
  refine r_ic_ne (tgt := 27) C dX12_isMay_4 (by decide) h (fun h => ?_) (fun h => ?_)
  · refine r_iload_n C dX12_isMay_27 rfl 0 rfl ?_
    refine r_sipush (v := 257) C dX12_isMay_28 (by decide) ?_
    refine r_ic_ne (tgt := 54) C dX12_isMay_31 (by decide) h (fun h => ?_) (fun h => ?_)
    · refine r_iload_n C dX12_isMay_54 rfl 0 rfl ?_
      refine r_sipush (v := 258) C dX12_isMay_55 (by decide) ?_
      refine r_ic_eq (tgt := 68) C dX12_isMay_58 (by decide) h (fun h => ?_) (fun h => ?_)
      · refine Jr.sub [1] (lv' := [(1, .long p1)]) rfl ?_
        exact s_X12_isMay_68 hn9 C M  p1 T h
      · refine r_iload_n C dX12_isMay_61 rfl 0 rfl ?_
        refine r_sipush (v := 277) C dX12_isMay_62 (by decide) ?_
        refine r_ic_ne (tgt := 80) C dX12_isMay_65 (by decide) h (fun h => ?_) (fun h => ?_)
        · refine r_iload_n C dX12_isMay_80 rfl 0 rfl ?_
          refine r_sipush (v := 259) C dX12_isMay_81 (by decide) ?_
          refine r_ic_ne (tgt := 101) C dX12_isMay_84 (by decide) h (fun h => ?_) (fun h => ?_)
          · refine r_iload_n C dX12_isMay_101 rfl 0 rfl ?_
            refine r_sipush (v := 262) C dX12_isMay_102 (by decide) ?_
            refine r_ic_ne (tgt := 126) C dX12_isMay_105 (by decide) h (fun h => ?_) (fun h => ?_)
            · refine r_iload_n C dX12_isMay_126 rfl 0 rfl ?_
              refine r_sipush (v := 266) C dX12_isMay_127 (by decide) ?_
              refine r_ic_ne (tgt := 153) C dX12_isMay_130 (by decide) h (fun h => ?_) (fun h => ?_)
              · refine r_iload_n C dX12_isMay_153 rfl 0 rfl ?_
                refine r_sipush (v := 278) C dX12_isMay_154 (by decide) ?_
                refine r_ic_ne (tgt := 172) C dX12_isMay_157 (by decide) h (fun h => ?_) (fun h => ?_)
                · refine r_lload_n C dX12_isMay_172 rfl 1 rfl ?_
                  refine r_lconst (v := 0) C dX12_isMay_173 (by decide) ?_
                  refine r_lcmp C dX12_isMay_174 ?_
                  refine r_if_ne (tgt := 182) C dX12_isMay_175 (by decide) h (fun h => ?_) (fun h => ?_)
                  · refine r_iconst (v := 0) C dX12_isMay_182 (by decide) ?_
                    exact r_zret C M dX12_isMay_183 (by decide) h
                  · refine r_iconst (v := 1) C dX12_isMay_178 (by decide) ?_
                    refine r_goto (tgt := 183) C dX12_isMay_179 (by decide) ?_
                    exact r_zret C M dX12_isMay_183 (by decide) h
                · refine r_lload_n C dX12_isMay_160 rfl 1 rfl ?_
                  refine r_lconst (v := 1) C dX12_isMay_161 (by decide) ?_
                  refine r_lcmp C dX12_isMay_162 ?_
                  refine r_if_lt (tgt := 170) C dX12_isMay_163 (by decide) h (fun h => ?_) (fun h => ?_)
                  · refine r_iconst (v := 0) C dX12_isMay_170 (by decide) ?_
                    exact r_zret C M dX12_isMay_171 (by decide) h
                  · refine r_iconst (v := 1) C dX12_isMay_166 (by decide) ?_
                    refine r_goto (tgt := 171) C dX12_isMay_167 (by decide) ?_
                    exact r_zret C M dX12_isMay_171 (by decide) h
              · refine r_lload_n C dX12_isMay_133 rfl 1 rfl ?_
                refine r_lconst (v := 1) C dX12_isMay_134 (by decide) ?_
                refine r_lcmp C dX12_isMay_135 ?_
                refine r_if_eq (tgt := 147) C dX12_isMay_136 (by decide) h (fun h => ?_) (fun h => ?_)
                · refine r_iconst (v := 1) C dX12_isMay_147 (by decide) ?_
                  refine r_goto (tgt := 152) C dX12_isMay_148 (by decide) ?_
                  exact r_zret C M dX12_isMay_152 (by decide) h
                · refine r_lload_n C dX12_isMay_139 rfl 1 rfl ?_
                  refine r_ldc2 (v := 2) C dX12_isMay_140 kcX12_356 ?_
                  refine r_lcmp C dX12_isMay_143 ?_
                  refine r_if_ne (tgt := 151) C dX12_isMay_144 (by decide) h (fun h => ?_) (fun h => ?_)
                  · refine r_iconst (v := 0) C dX12_isMay_151 (by decide) ?_
                    exact r_zret C M dX12_isMay_152 (by decide) h
                  · refine r_iconst (v := 1) C dX12_isMay_147 (by decide) ?_
                    refine r_goto (tgt := 152) C dX12_isMay_148 (by decide) ?_
                    exact r_zret C M dX12_isMay_152 (by decide) h
            · refine r_lload_n C dX12_isMay_108 rfl 1 rfl ?_
              refine r_lconst (v := 0) C dX12_isMay_109 (by decide) ?_
              refine r_lcmp C dX12_isMay_110 ?_
              refine r_if_eq (tgt := 120) C dX12_isMay_111 (by decide) h (fun h => ?_) (fun h => ?_)
              · refine r_iconst (v := 1) C dX12_isMay_120 (by decide) ?_
                refine r_goto (tgt := 125) C dX12_isMay_121 (by decide) ?_
                exact r_zret C M dX12_isMay_125 (by decide) h
              · refine r_lload_n C dX12_isMay_114 rfl 1 rfl ?_
                refine r_lconst (v := 1) C dX12_isMay_115 (by decide) ?_
                refine r_lcmp C dX12_isMay_116 ?_
                refine r_if_ne (tgt := 124) C dX12_isMay_117 (by decide) h (fun h => ?_) (fun h => ?_)
                · refine r_iconst (v := 0) C dX12_isMay_124 (by decide) ?_
                  exact r_zret C M dX12_isMay_125 (by decide) h
                · refine r_iconst (v := 1) C dX12_isMay_120 (by decide) ?_
                  refine r_goto (tgt := 125) C dX12_isMay_121 (by decide) ?_
                  exact r_zret C M dX12_isMay_125 (by decide) h
          · refine r_lload_n C dX12_isMay_87 rfl 1 rfl ?_
            refine r_ldc2 (v := 4) C dX12_isMay_88 kcX12_603 ?_
            refine r_lcmp C dX12_isMay_91 ?_
            refine r_if_ne (tgt := 99) C dX12_isMay_92 (by decide) h (fun h => ?_) (fun h => ?_)
            · refine r_iconst (v := 0) C dX12_isMay_99 (by decide) ?_
              exact r_zret C M dX12_isMay_100 (by decide) h
            · refine r_iconst (v := 1) C dX12_isMay_95 (by decide) ?_
              refine r_goto (tgt := 100) C dX12_isMay_96 (by decide) ?_
              exact r_zret C M dX12_isMay_100 (by decide) h
        · refine Jr.sub [1] (lv' := [(1, .long p1)]) rfl ?_
          exact s_X12_isMay_68 hn9 C M  p1 T h
    · refine r_lload_n C dX12_isMay_34 rfl 1 rfl ?_
      refine r_lconst (v := 1) C dX12_isMay_35 (by decide) ?_
      refine r_lcmp C dX12_isMay_36 ?_
      refine r_if_lt (tgt := 52) C dX12_isMay_37 (by decide) h (fun h => ?_) (fun h => ?_)
      · refine r_iconst (v := 0) C dX12_isMay_52 (by decide) ?_
        exact r_zret C M dX12_isMay_53 (by decide) h
      · refine r_lload_n C dX12_isMay_40 rfl 1 rfl ?_
        refine r_ldc2 (v := 800) C dX12_isMay_41 kcX12_614 ?_
        refine r_lcmp C dX12_isMay_44 ?_
        refine r_if_gt (tgt := 52) C dX12_isMay_45 (by decide) h (fun h => ?_) (fun h => ?_)
        · refine r_iconst (v := 0) C dX12_isMay_52 (by decide) ?_
          exact r_zret C M dX12_isMay_53 (by decide) h
        · refine r_iconst (v := 1) C dX12_isMay_48 (by decide) ?_
          refine r_goto (tgt := 53) C dX12_isMay_49 (by decide) ?_
          exact r_zret C M dX12_isMay_53 (by decide) h
  · refine r_lload_n C dX12_isMay_7 rfl 1 rfl ?_
    refine r_lconst (v := 1) C dX12_isMay_8 (by decide) ?_
    refine r_lcmp C dX12_isMay_9 ?_
    refine r_if_lt (tgt := 25) C dX12_isMay_10 (by decide) h (fun h => ?_) (fun h => ?_)
    · refine r_iconst (v := 0) C dX12_isMay_25 (by decide) ?_
      exact r_zret C M dX12_isMay_26 (by decide) h
    · refine r_lload_n C dX12_isMay_13 rfl 1 rfl ?_
      refine r_ldc2 (v := 640) C dX12_isMay_14 kcX12_612 ?_
      refine r_lcmp C dX12_isMay_17 ?_
      refine r_if_gt (tgt := 25) C dX12_isMay_18 (by decide) h (fun h => ?_) (fun h => ?_)
      · refine r_iconst (v := 0) C dX12_isMay_25 (by decide) ?_
        exact r_zret C M dX12_isMay_26 (by decide) h
      · refine r_iconst (v := 1) C dX12_isMay_21 (by decide) ?_
        refine r_goto (tgt := 26) C dX12_isMay_22 (by decide) ?_
        exact r_zret C M dX12_isMay_26 (by decide) h
theorem dX12_bit_0 : decode cX12_bit 0 = .ok (.aload_n 0, 1) := by decide +kernel
theorem dX12_bit_1 : decode cX12_bit 1 = .ok (.getfield 632, 3) := by decide +kernel
theorem dX12_bit_4 : decode cX12_bit 4 = .ok (.aload_n 0, 1) := by decide +kernel
theorem dX12_bit_5 : decode cX12_bit 5 = .ok (.getfield 629, 3) := by decide +kernel
theorem dX12_bit_8 : decode cX12_bit 8 = .ok (.lcmp, 1) := by decide +kernel
theorem dX12_bit_9 : decode cX12_bit 9 = .ok (.ifCond .lt 5, 3) := by decide +kernel
theorem dX12_bit_12 : decode cX12_bit 12 = .ok (.iconst 2, 1) := by decide +kernel
theorem dX12_bit_13 : decode cX12_bit 13 = .ok (.ireturn, 1) := by decide +kernel
theorem dX12_bit_14 : decode cX12_bit 14 = .ok (.aload_n 0, 1) := by decide +kernel
theorem dX12_bit_15 : decode cX12_bit 15 = .ok (.getfield 66, 3) := by decide +kernel
theorem dX12_bit_18 : decode cX12_bit 18 = .ok (.aload_n 0, 1) := by decide +kernel
theorem dX12_bit_19 : decode cX12_bit 19 = .ok (.getfield 580, 3) := by decide +kernel
theorem dX12_bit_22 : decode cX12_bit 22 = .ok (.aload_n 0, 1) := by decide +kernel
theorem dX12_bit_23 : decode cX12_bit 23 = .ok (.getfield 626, 3) := by decide +kernel
theorem dX12_bit_26 : decode cX12_bit 26 = .ok (.iadd, 1) := by decide +kernel
theorem dX12_bit_27 : decode cX12_bit 27 = .ok (.aload_n 0, 1) := by decide +kernel
theorem dX12_bit_28 : decode cX12_bit 28 = .ok (.getfield 632, 3) := by decide +kernel
theorem dX12_bit_31 : decode cX12_bit 31 = .ok (.ldc2_w 313, 3) := by decide +kernel
theorem dX12_bit_34 : decode cX12_bit 34 = .ok (.ldiv, 1) := by decide +kernel
theorem dX12_bit_35 : decode cX12_bit 35 = .ok (.l2i, 1) := by decide +kernel
theorem dX12_bit_36 : decode cX12_bit 36 = .ok (.iadd, 1) := by decide +kernel
theorem dX12_bit_37 : decode cX12_bit 37 = .ok (.baload, 1) := by decide +kernel
theorem dX12_bit_38 : decode cX12_bit 38 = .ok (.sipush 255, 3) := by decide +kernel
theorem dX12_bit_41 : decode cX12_bit 41 = .ok (.iand, 1) := by decide +kernel
theorem dX12_bit_42 : decode cX12_bit 42 = .ok (.istore_n 1, 1) := by decide +kernel
theorem dX12_bit_43 : decode cX12_bit 43 = .ok (.aload_n 0, 1) := by decide +kernel
theorem dX12_bit_44 : decode cX12_bit 44 = .ok (.getfield 632, 3) := by decide +kernel
theorem dX12_bit_47 : decode cX12_bit 47 = .ok (.ldc2_w 313, 3) := by decide +kernel
theorem dX12_bit_50 : decode cX12_bit 50 = .ok (.lrem, 1) := by decide +kernel
theorem dX12_bit_51 : decode cX12_bit 51 = .ok (.l2i, 1) := by decide +kernel
theorem dX12_bit_52 : decode cX12_bit 52 = .ok (.istore_n 2, 1) := by decide +kernel
theorem dX12_bit_53 : decode cX12_bit 53 = .ok (.aload_n 0, 1) := by decide +kernel
theorem dX12_bit_54 : decode cX12_bit 54 = .ok (.dup, 1) := by decide +kernel
theorem dX12_bit_55 : decode cX12_bit 55 = .ok (.getfield 632, 3) := by decide +kernel
theorem dX12_bit_58 : decode cX12_bit 58 = .ok (.lconst 1, 1) := by decide +kernel
theorem dX12_bit_59 : decode cX12_bit 59 = .ok (.ladd, 1) := by decide +kernel
theorem dX12_bit_60 : decode cX12_bit 60 = .ok (.putfield 632, 3) := by decide +kernel
theorem dX12_bit_63 : decode cX12_bit 63 = .ok (.aload_n 0, 1) := by decide +kernel
theorem dX12_bit_64 : decode cX12_bit 64 = .ok (.getfield 635, 3) := by decide +kernel
theorem dX12_bit_67 : decode cX12_bit 67 = .ok (.ifCond .eq 11, 3) := by decide +kernel
theorem dX12_bit_70 : decode cX12_bit 70 = .ok (.iload_n 1, 1) := by decide +kernel
theorem dX12_bit_71 : decode cX12_bit 71 = .ok (.iload_n 2, 1) := by decide +kernel
theorem dX12_bit_72 : decode cX12_bit 72 = .ok (.ishr, 1) := by decide +kernel
theorem dX12_bit_73 : decode cX12_bit 73 = .ok (.iconst 1, 1) := by decide +kernel
theorem dX12_bit_74 : decode cX12_bit 74 = .ok (.iand, 1) := by decide +kernel
theorem dX12_bit_75 : decode cX12_bit 75 = .ok (.goto 11, 3) := by decide +kernel
theorem dX12_bit_78 : decode cX12_bit 78 = .ok (.iload_n 1, 1) := by decide +kernel
theorem dX12_bit_79 : decode cX12_bit 79 = .ok (.bipush 7, 2) := by decide +kernel
theorem dX12_bit_81 : decode cX12_bit 81 = .ok (.iload_n 2, 1) := by decide +kernel
theorem dX12_bit_82 : decode cX12_bit 82 = .ok (.isub, 1) := by decide +kernel
theorem dX12_bit_83 : decode cX12_bit 83 = .ok (.ishr, 1) := by decide +kernel
theorem dX12_bit_84 : decode cX12_bit 84 = .ok (.iconst 1, 1) := by decide +kernel
theorem dX12_bit_85 : decode cX12_bit 85 = .ok (.iand, 1) := by decide +kernel
theorem dX12_bit_86 : decode cX12_bit 86 = .ok (.ireturn, 1) := by decide +kernel
noncomputable def f_X12_bit (T : Mm) : Option (Int32 × Mm) :=
  if (lg_cmp (gJ T 1278 133) (gJ T 1277 133)) < 0 then (ix (((gI T 1267 133) + (gI T 1276 133)) + ((((gJ T 1278 133) / 8)).toInt32)) 12000 fun j1 =>
  lb (((gA T 152 j1) &&& 255)) fun v3 =>
  lb ((((gJ T 1278 133) - (gJ T 1278 133) / 8 * 8)).toInt32) fun v4 =>
  lb (uJ T 1278 133 ((gJ T 1278 133) + 1)) fun T5 =>
  if (gI T5 1279 133) = 0 then (some (((v3 >>> (((7 : Int32) - v4) &&& 31)) &&& 1), T5))
  else (some (((v3 >>> (v4 &&& 31)) &&& 1), T5)))
  else (some (2, T))
set_option maxRecDepth 100000 in
set_option maxHeartbeats 4000000 in
theorem s_X12_bit {ad : Nat → Nat} {U T : Mm} {q : Int32 × Mm}  (h : f_X12_bit  T = some q) : Cr 1 yX12_bit cX12_bit 3 (some .int) [.ref (ad 133)] ad false U T eI q := by
  refine cr_of (by decide) (Nat.le_of_ble_eq_true rfl) fun x S0 hn9 C M => ?_
  have C : CB x RX12 cX12_bit := C
  refine Jr.eq (lv' := [(0, .ref (ad 133))]) (st' := []) rfl rfl ?_
  unfold f_X12_bit at h
  refine r_aload_n C dX12_bit_0 rfl 0 rfl ?_
  refine r_getl (f := 1278) C flX12_632 dX12_bit_1 kq_133 (by decide) rfl ?_
  refine r_aload_n C dX12_bit_4 rfl 0 rfl ?_
  refine r_getl (f := 1277) C flX12_629 dX12_bit_5 kq_133 (by decide) rfl ?_
  refine r_lcmp C dX12_bit_8 ?_
  show Jr _ _ _ _ _ _ 9 _
  refine r_if_lt (tgt := 14) C dX12_bit_9 (by decide) h (fun h => ?_) (fun h => ?_)
  · refine r_aload_n C dX12_bit_14 rfl 0 rfl ?_
    refine r_getp (f := 1219) (j := 152) C flX12_66 dX12_bit_15 kq_133 (by decide) rfl (fun W => pt_1219 kq_133 W) ?_
    refine r_aload_n C dX12_bit_18 rfl 0 rfl ?_
    refine r_geti (f := 1267) C flX12_580 dX12_bit_19 kq_133 (by decide) (by decide) rfl ?_
    refine r_aload_n C dX12_bit_22 rfl 0 rfl ?_
    show Jr _ _ _ _ _ _ 23 _
    refine r_geti (f := 1276) C flX12_626 dX12_bit_23 kq_133 (by decide) (by decide) rfl ?_
    refine r_iadd C dX12_bit_26 rfl ?_
    refine r_aload_n C dX12_bit_27 rfl 0 rfl ?_
    refine r_getl (f := 1278) C flX12_632 dX12_bit_28 kq_133 (by decide) rfl ?_
    refine r_ldc2 (v := 8) C dX12_bit_31 kcX12_313 ?_
    refine r_ldiv C dX12_bit_34 (by decide) rfl ?_
    show Jr _ _ _ _ _ _ 35 _
    refine r_l2i C dX12_bit_35 rfl ?_
    refine r_iadd C dX12_bit_36 rfl ?_
    refine r_bald (n := 12000) C dX12_bit_37 kq_152 lq_152 h (fun j1 hj2 h => ?_)
    refine r_sipush (v := 255) C dX12_bit_38 (by decide) ?_
    refine r_iand C dX12_bit_41 rfl ?_
    refine r_lbI h (fun v3 h => ?_)
    refine r_istore_n (lv' := [(1, .int v3), (0, .ref (ad 133))]) C dX12_bit_42 rfl (by rw [hn9]; decide) rfl ?_
    show Jr _ _ _ _ _ _ 43 _
    refine r_aload_n C dX12_bit_43 rfl 1 rfl ?_
    refine r_getl (f := 1278) C flX12_632 dX12_bit_44 kq_133 (by decide) rfl ?_
    refine r_ldc2 (v := 8) C dX12_bit_47 kcX12_313 ?_
    refine r_lrem C dX12_bit_50 (by decide) rfl ?_
    refine r_l2i C dX12_bit_51 rfl ?_
    refine r_lbI h (fun v4 h => ?_)
    refine r_istore_n (lv' := [(2, .int v4), (1, .int v3), (0, .ref (ad 133))]) C dX12_bit_52 rfl (by rw [hn9]; decide) rfl ?_
    show Jr _ _ _ _ _ _ 53 _
    refine r_aload_n C dX12_bit_53 rfl 2 rfl ?_
    refine r_dup C dX12_bit_54 rfl ?_
    refine r_getl (f := 1278) C flX12_632 dX12_bit_55 kq_133 (by decide) rfl ?_
    refine r_lconst (v := 1) C dX12_bit_58 (by decide) ?_
    refine r_ladd C dX12_bit_59 rfl ?_
    refine r_putl (f := 1278) C flX12_632 (by decide) rfl rfl dX12_bit_60 kq_133 rfl h (fun T5 h => ?_)
    show Jr _ _ _ _ _ _ 63 _
    refine r_aload_n C dX12_bit_63 rfl 2 rfl ?_
    refine r_geti (f := 1279) C flX12_635 dX12_bit_64 kq_133 (by decide) (by decide) rfl ?_
    refine r_if_eq (tgt := 78) C dX12_bit_67 (by decide) h (fun h => ?_) (fun h => ?_)
    · refine r_iload_n C dX12_bit_78 rfl 1 rfl ?_
      refine r_bipush (v := 7) C dX12_bit_79 (by decide) ?_
      refine r_iload_n C dX12_bit_81 rfl 0 rfl ?_
      refine r_isub C dX12_bit_82 rfl ?_
      refine r_ishr C dX12_bit_83 rfl ?_
      show Jr _ _ _ _ _ _ 84 _
      refine r_iconst (v := 1) C dX12_bit_84 (by decide) ?_
      refine r_iand C dX12_bit_85 rfl ?_
      exact r_iret C M dX12_bit_86 h
    · refine r_iload_n C dX12_bit_70 rfl 1 rfl ?_
      refine r_iload_n C dX12_bit_71 rfl 0 rfl ?_
      refine r_ishr C dX12_bit_72 rfl ?_
      refine r_iconst (v := 1) C dX12_bit_73 (by decide) ?_
      refine r_iand C dX12_bit_74 rfl ?_
      show Jr _ _ _ _ _ _ 75 _
      refine r_goto (tgt := 86) C dX12_bit_75 (by decide) ?_
      exact r_iret C M dX12_bit_86 h
  · refine r_iconst (v := 2) C dX12_bit_12 (by decide) ?_
    exact r_iret C M dX12_bit_13 h
theorem dX12_mode_0 : decode cX12_mode 0 = .ok (.iconst 0, 1) := by decide +kernel
theorem dX12_mode_1 : decode cX12_mode 1 = .ok (.istore_n 1, 1) := by decide +kernel
theorem dX12_mode_2 : decode cX12_mode 2 = .ok (.aload_n 0, 1) := by decide +kernel
theorem dX12_mode_3 : decode cX12_mode 3 = .ok (.invokevirtual 643, 3) := by decide +kernel
theorem dX12_mode_6 : decode cX12_mode 6 = .ok (.istore_n 2, 1) := by decide +kernel
theorem dX12_mode_7 : decode cX12_mode 7 = .ok (.iload_n 2, 1) := by decide +kernel
theorem dX12_mode_8 : decode cX12_mode 8 = .ok (.ifCond .ne 20, 3) := by decide +kernel
theorem dX12_mode_11 : decode cX12_mode 11 = .ok (.iload_n 1, 1) := by decide +kernel
theorem dX12_mode_12 : decode cX12_mode 12 = .ok (.bipush 6, 2) := by decide +kernel
theorem dX12_mode_14 : decode cX12_mode 14 = .ok (.if_icmp .ge 14, 3) := by decide +kernel
theorem dX12_mode_17 : decode cX12_mode 17 = .ok (.iinc 1 1, 3) := by decide +kernel
theorem dX12_mode_20 : decode cX12_mode 20 = .ok (.aload_n 0, 1) := by decide +kernel
theorem dX12_mode_21 : decode cX12_mode 21 = .ok (.invokevirtual 643, 3) := by decide +kernel
theorem dX12_mode_24 : decode cX12_mode 24 = .ok (.istore_n 2, 1) := by decide +kernel
theorem dX12_mode_25 : decode cX12_mode 25 = .ok (.goto (-18), 3) := by decide +kernel
theorem dX12_mode_28 : decode cX12_mode 28 = .ok (.iload_n 2, 1) := by decide +kernel
theorem dX12_mode_29 : decode cX12_mode 29 = .ok (.iconst 1, 1) := by decide +kernel
theorem dX12_mode_30 : decode cX12_mode 30 = .ok (.if_icmp .eq 6, 3) := by decide +kernel
theorem dX12_mode_33 : decode cX12_mode 33 = .ok (.bipush 6, 2) := by decide +kernel
theorem dX12_mode_35 : decode cX12_mode 35 = .ok (.ireturn, 1) := by decide +kernel
theorem dX12_mode_36 : decode cX12_mode 36 = .ok (.iload_n 1, 1) := by decide +kernel
theorem dX12_mode_37 : decode cX12_mode 37 = .ok (.ifCond .ne 5, 3) := by decide +kernel
theorem dX12_mode_40 : decode cX12_mode 40 = .ok (.iconst 0, 1) := by decide +kernel
theorem dX12_mode_41 : decode cX12_mode 41 = .ok (.ireturn, 1) := by decide +kernel
theorem dX12_mode_42 : decode cX12_mode 42 = .ok (.iload_n 1, 1) := by decide +kernel
theorem dX12_mode_43 : decode cX12_mode 43 = .ok (.iconst 2, 1) := by decide +kernel
theorem dX12_mode_44 : decode cX12_mode 44 = .ok (.if_icmp .ne 5, 3) := by decide +kernel
theorem dX12_mode_47 : decode cX12_mode 47 = .ok (.iconst 5, 1) := by decide +kernel
theorem dX12_mode_48 : decode cX12_mode 48 = .ok (.ireturn, 1) := by decide +kernel
theorem dX12_mode_49 : decode cX12_mode 49 = .ok (.iload_n 1, 1) := by decide +kernel
theorem dX12_mode_50 : decode cX12_mode 50 = .ok (.iconst 3, 1) := by decide +kernel
theorem dX12_mode_51 : decode cX12_mode 51 = .ok (.if_icmp .ne 5, 3) := by decide +kernel
theorem dX12_mode_54 : decode cX12_mode 54 = .ok (.iconst 4, 1) := by decide +kernel
theorem dX12_mode_55 : decode cX12_mode 55 = .ok (.ireturn, 1) := by decide +kernel
theorem dX12_mode_56 : decode cX12_mode 56 = .ok (.iload_n 1, 1) := by decide +kernel
theorem dX12_mode_57 : decode cX12_mode 57 = .ok (.bipush 6, 2) := by decide +kernel
theorem dX12_mode_59 : decode cX12_mode 59 = .ok (.if_icmp .ne 6, 3) := by decide +kernel
theorem dX12_mode_62 : decode cX12_mode 62 = .ok (.bipush 6, 2) := by decide +kernel
theorem dX12_mode_64 : decode cX12_mode 64 = .ok (.ireturn, 1) := by decide +kernel
theorem dX12_mode_65 : decode cX12_mode 65 = .ok (.aload_n 0, 1) := by decide +kernel
theorem dX12_mode_66 : decode cX12_mode 66 = .ok (.invokevirtual 643, 3) := by decide +kernel
theorem dX12_mode_69 : decode cX12_mode 69 = .ok (.istore_n 3, 1) := by decide +kernel
theorem dX12_mode_70 : decode cX12_mode 70 = .ok (.iload_n 3, 1) := by decide +kernel
theorem dX12_mode_71 : decode cX12_mode 71 = .ok (.iconst 2, 1) := by decide +kernel
theorem dX12_mode_72 : decode cX12_mode 72 = .ok (.if_icmp .ne 6, 3) := by decide +kernel
theorem dX12_mode_75 : decode cX12_mode 75 = .ok (.bipush 6, 2) := by decide +kernel
theorem dX12_mode_77 : decode cX12_mode 77 = .ok (.ireturn, 1) := by decide +kernel
theorem dX12_mode_78 : decode cX12_mode 78 = .ok (.iload_n 1, 1) := by decide +kernel
theorem dX12_mode_79 : decode cX12_mode 79 = .ok (.iconst 1, 1) := by decide +kernel
theorem dX12_mode_80 : decode cX12_mode 80 = .ok (.if_icmp .ne 7, 3) := by decide +kernel
theorem dX12_mode_83 : decode cX12_mode 83 = .ok (.iconst 1, 1) := by decide +kernel
theorem dX12_mode_84 : decode cX12_mode 84 = .ok (.goto 6, 3) := by decide +kernel
theorem dX12_mode_87 : decode cX12_mode 87 = .ok (.iload_n 1, 1) := by decide +kernel
theorem dX12_mode_88 : decode cX12_mode 88 = .ok (.iconst 2, 1) := by decide +kernel
theorem dX12_mode_89 : decode cX12_mode 89 = .ok (.isub, 1) := by decide +kernel
theorem dX12_mode_90 : decode cX12_mode 90 = .ok (.istore 4, 2) := by decide +kernel
theorem dX12_mode_92 : decode cX12_mode 92 = .ok (.iload_n 3, 1) := by decide +kernel
theorem dX12_mode_93 : decode cX12_mode 93 = .ok (.iconst 1, 1) := by decide +kernel
theorem dX12_mode_94 : decode cX12_mode 94 = .ok (.if_icmp .ne 8, 3) := by decide +kernel
theorem dX12_mode_97 : decode cX12_mode 97 = .ok (.iload 4, 2) := by decide +kernel
theorem dX12_mode_99 : decode cX12_mode 99 = .ok (.goto 6, 3) := by decide +kernel
theorem dX12_mode_102 : decode cX12_mode 102 = .ok (.iload 4, 2) := by decide +kernel
theorem dX12_mode_104 : decode cX12_mode 104 = .ok (.ineg, 1) := by decide +kernel
theorem dX12_mode_105 : decode cX12_mode 105 = .ok (.ireturn, 1) := by decide +kernel
noncomputable def f_X12_mode_90 (a3 : Int32) (b0 : Int32) (T : Mm) : Option (Int32 × Mm) :=
  if a3 = 1 then (some (b0, T))
  else (some ((-b0), T))
set_option maxRecDepth 100000 in
set_option maxHeartbeats 4000000 in
theorem s_X12_mode_90 {x : JX} {ad : Nat → Nat} {U : Mm} {S0 : Hp} {q : Int32 × Mm}  (hn9 : x_n x = 5) (C : CB x RX12 cX12_mode) (M : CMr x 2 (some .int) S0 ad false U eI q) (a3 : Int32) (b0 : Int32) (T : Mm) (h : f_X12_mode_90  a3 b0 T = some q) : Jr x ad false U T [(3, .int a3)] 90 [.int b0] := by
  unfold f_X12_mode_90 at h
  refine r_istore (lv' := [(4, .int b0), (3, .int a3)]) C dX12_mode_90 (by rw [hn9]; decide) rfl ?_
  refine r_iload_n C dX12_mode_92 rfl 1 rfl ?_
  refine r_iconst (v := 1) C dX12_mode_93 (by decide) ?_
  refine r_ic_ne (tgt := 102) C dX12_mode_94 (by decide) h (fun h => ?_) (fun h => ?_)
  · refine r_iload C dX12_mode_102 0 rfl ?_
    refine r_ineg C dX12_mode_104 rfl ?_
    exact r_iret C M dX12_mode_105 h
  · refine r_iload C dX12_mode_97 0 rfl ?_
    refine r_goto (tgt := 105) C dX12_mode_99 (by decide) ?_
    exact r_iret C M dX12_mode_105 h
noncomputable def f_X12_mode_28 (a1 : Int32) (a2 : Int32) (T : Mm) : Option (Int32 × Mm) :=
  if a2 = 1 then (if a1 = 0 then (some (0, T))
  else (if a1 = 2 then (some (5, T))
  else (if a1 = 3 then (some (4, T))
  else (if a1 = 6 then (some (6, T))
  else (bd (f_X12_bit T) fun v1 T2 =>
  if v1 = 2 then (some (6, T2))
  else (if a1 = 1 then (f_X12_mode_90 v1 1 T2)
  else (f_X12_mode_90 v1 (a1 - 2) T2)))))))
  else (some (6, T))
set_option maxRecDepth 100000 in
set_option maxHeartbeats 4000000 in
theorem s_X12_mode_28 {x : JX} {ad : Nat → Nat} {U : Mm} {S0 : Hp} {q : Int32 × Mm}  (hn9 : x_n x = 5) (C : CB x RX12 cX12_mode) (M : CMr x 2 (some .int) S0 ad false U eI q) (a1 : Int32) (a2 : Int32) (T : Mm) (h : f_X12_mode_28  a1 a2 T = some q) : Jr x ad false U T [(0, .ref (ad 133)), (1, .int a1), (2, .int a2)] 28 [] := by
  unfold f_X12_mode_28 at h
  refine r_iload_n C dX12_mode_28 rfl 2 rfl ?_
  refine r_iconst (v := 1) C dX12_mode_29 (by decide) ?_
  refine r_ic_eq (tgt := 36) C dX12_mode_30 (by decide) h (fun h => ?_) (fun h => ?_)
  · refine r_iload_n C dX12_mode_36 rfl 1 rfl ?_
    refine r_if_ne (tgt := 42) C dX12_mode_37 (by decide) h (fun h => ?_) (fun h => ?_)
    · refine r_iload_n C dX12_mode_42 rfl 1 rfl ?_
      refine r_iconst (v := 2) C dX12_mode_43 (by decide) ?_
      refine r_ic_ne (tgt := 49) C dX12_mode_44 (by decide) h (fun h => ?_) (fun h => ?_)
      · refine r_iload_n C dX12_mode_49 rfl 1 rfl ?_
        refine r_iconst (v := 3) C dX12_mode_50 (by decide) ?_
        refine r_ic_ne (tgt := 56) C dX12_mode_51 (by decide) h (fun h => ?_) (fun h => ?_)
        · refine r_iload_n C dX12_mode_56 rfl 1 rfl ?_
          refine r_bipush (v := 6) C dX12_mode_57 (by decide) ?_
          refine r_ic_ne (tgt := 65) C dX12_mode_59 (by decide) h (fun h => ?_) (fun h => ?_)
          · refine r_aload_n C dX12_mode_65 rfl 0 rfl ?_
            refine r_callVI C M h [] [] mlX12_643 mcX12_bit (fun q9 e9 => s_X12_bit   e9) kq_133 rfl (by decide) (by decide) rfl rfl (Nat.le_of_ble_eq_true rfl) dX12_mode_66 (fun v1 T2 h => ?_)
            refine r_istore_n (lv' := [(3, .int v1), (0, .ref (ad 133)), (1, .int a1), (2, .int a2)]) C dX12_mode_69 rfl (by rw [hn9]; decide) rfl ?_
            refine r_iload_n C dX12_mode_70 rfl 0 rfl ?_
            refine r_iconst (v := 2) C dX12_mode_71 (by decide) ?_
            show Jr _ _ _ _ _ _ 72 _
            refine r_ic_ne (tgt := 78) C dX12_mode_72 (by decide) h (fun h => ?_) (fun h => ?_)
            · refine r_iload_n C dX12_mode_78 rfl 2 rfl ?_
              refine r_iconst (v := 1) C dX12_mode_79 (by decide) ?_
              refine r_ic_ne (tgt := 87) C dX12_mode_80 (by decide) h (fun h => ?_) (fun h => ?_)
              · refine r_iload_n C dX12_mode_87 rfl 2 rfl ?_
                refine r_iconst (v := 2) C dX12_mode_88 (by decide) ?_
                refine r_isub C dX12_mode_89 rfl ?_
                refine Jr.sub [0] (lv' := [(3, .int v1)]) rfl ?_
                exact s_X12_mode_90 hn9 C M  v1 (a1 - 2) T2 h
              · refine r_iconst (v := 1) C dX12_mode_83 (by decide) ?_
                refine r_goto (tgt := 90) C dX12_mode_84 (by decide) ?_
                refine Jr.sub [0] (lv' := [(3, .int v1)]) rfl ?_
                exact s_X12_mode_90 hn9 C M  v1 1 T2 h
            · refine r_bipush (v := 6) C dX12_mode_75 (by decide) ?_
              exact r_iret C M dX12_mode_77 h
          · refine r_bipush (v := 6) C dX12_mode_62 (by decide) ?_
            exact r_iret C M dX12_mode_64 h
        · refine r_iconst (v := 4) C dX12_mode_54 (by decide) ?_
          exact r_iret C M dX12_mode_55 h
      · refine r_iconst (v := 5) C dX12_mode_47 (by decide) ?_
        exact r_iret C M dX12_mode_48 h
    · refine r_iconst (v := 0) C dX12_mode_40 (by decide) ?_
      exact r_iret C M dX12_mode_41 h
  · refine r_bipush (v := 6) C dX12_mode_33 (by decide) ?_
    exact r_iret C M dX12_mode_35 h
noncomputable def f_X12_mode_b7 (k7 : Int32 → Int32 → Mm → Option (Int32 × Mm)) (a1 : Int32) (a2 : Int32) (T : Mm) : Option (Int32 × Mm) :=
  if a2 = 0 then (if 6 ≤ a1 then (f_X12_mode_28 a1 a2 T)
  else (bd (f_X12_bit T) fun v1 T2 =>
  k7 (a1 + 1) v1 T2))
  else (f_X12_mode_28 a1 a2 T)
set_option maxRecDepth 100000 in
set_option maxHeartbeats 4000000 in
theorem s_X12_mode_b7 {x : JX} {ad : Nat → Nat} {U : Mm} {S0 : Hp} {q : Int32 × Mm}  {k7 : Int32 → Int32 → Mm → Option (Int32 × Mm)} (hn9 : x_n x = 5) (C : CB x RX12 cX12_mode) (M : CMr x 2 (some .int) S0 ad false U eI q) (hk7 : ∀ (a1 : Int32) (a2 : Int32) (T : Mm), k7 a1 a2 T = some q → Jr x ad false U T [(0, .ref (ad 133)), (1, .int a1), (2, .int a2)] 7 []) (a1 : Int32) (a2 : Int32) (T : Mm) (h : f_X12_mode_b7 k7 a1 a2 T = some q) : Jr x ad false U T [(0, .ref (ad 133)), (1, .int a1), (2, .int a2)] 7 [] := by
  unfold f_X12_mode_b7 at h
  refine r_iload_n C dX12_mode_7 rfl 2 rfl ?_
  refine r_if_ne (tgt := 28) C dX12_mode_8 (by decide) h (fun h => ?_) (fun h => ?_)
  · exact s_X12_mode_28 hn9 C M  a1 a2 T h
  · refine r_iload_n C dX12_mode_11 rfl 1 rfl ?_
    refine r_bipush (v := 6) C dX12_mode_12 (by decide) ?_
    refine r_ic_ge (tgt := 28) C dX12_mode_14 (by decide) h (fun h => ?_) (fun h => ?_)
    · exact s_X12_mode_28 hn9 C M  a1 a2 T h
    · refine r_iinc (q := 1) (v := (a1 + 1)) (lv' := [(1, .int (a1 + 1)), (0, .ref (ad 133)), (2, .int a2)]) C dX12_mode_17 rfl (by rw [show Int32.ofInt (1) = 1 by decide]) (by rw [hn9]; decide) rfl ?_
      refine r_aload_n C dX12_mode_20 rfl 1 rfl ?_
      refine r_callVI C M h [] [] mlX12_643 mcX12_bit (fun q9 e9 => s_X12_bit   e9) kq_133 rfl (by decide) (by decide) rfl rfl (Nat.le_of_ble_eq_true rfl) dX12_mode_21 (fun v1 T2 h => ?_)
      refine r_istore_n (lv' := [(2, .int v1), (1, .int (a1 + 1)), (0, .ref (ad 133))]) C dX12_mode_24 rfl (by rw [hn9]; decide) rfl ?_
      refine r_goto (tgt := 7) C dX12_mode_25 (by decide) ?_
      refine Jr.sub [2, 1, 0] (lv' := [(0, .ref (ad 133)), (1, .int (a1 + 1)), (2, .int v1)]) rfl ?_
      exact hk7 (a1 + 1) v1 T2 h
noncomputable def f_X12_mode_l7 (n : Nat) : Int32 → Int32 → Mm → Option (Int32 × Mm) := Nat.rec (fun _ _ _ => none) (fun _ ih => f_X12_mode_b7 ih) n
theorem s_X12_mode_l7 {x : JX} {ad : Nat → Nat} {U : Mm} {S0 : Hp} {q : Int32 × Mm}  (hn9 : x_n x = 5) (C : CB x RX12 cX12_mode) (M : CMr x 2 (some .int) S0 ad false U eI q) : ∀ (n : Nat), ∀ (a1 : Int32) (a2 : Int32) (T : Mm), f_X12_mode_l7  n a1 a2 T = some q → Jr x ad false U T [(0, .ref (ad 133)), (1, .int a1), (2, .int a2)] 7 [] := by
  intro n
  induction n with
  | zero => intro a1 a2 T  h; exact absurd h (by intro h; cases h)
  | succ n ih => exact fun a1 a2 T  h => s_X12_mode_b7 hn9 C M (ih) a1 a2 T  h
noncomputable def f_X12_mode (T : Mm) : Option (Int32 × Mm) :=
  bd (f_X12_bit T) fun v1 T2 =>
  f_X12_mode_l7 FU 0 v1 T2
set_option maxRecDepth 100000 in
set_option maxHeartbeats 4000000 in
theorem s_X12_mode {ad : Nat → Nat} {U T : Mm} {q : Int32 × Mm}  (h : f_X12_mode  T = some q) : Cr 2 yX12_mode cX12_mode 5 (some .int) [.ref (ad 133)] ad false U T eI q := by
  refine cr_of (by decide) (Nat.le_of_ble_eq_true rfl) fun x S0 hn9 C M => ?_
  have C : CB x RX12 cX12_mode := C
  refine Jr.eq (lv' := [(0, .ref (ad 133))]) (st' := []) rfl rfl ?_
  unfold f_X12_mode at h
  refine r_iconst (v := 0) C dX12_mode_0 (by decide) ?_
  refine r_istore_n (lv' := [(1, .int 0), (0, .ref (ad 133))]) C dX12_mode_1 rfl (by rw [hn9]; decide) rfl ?_
  refine r_aload_n C dX12_mode_2 rfl 1 rfl ?_
  refine r_callVI C M h [] [] mlX12_643 mcX12_bit (fun q9 e9 => s_X12_bit   e9) kq_133 rfl (by decide) (by decide) rfl rfl (Nat.le_of_ble_eq_true rfl) dX12_mode_3 (fun v1 T2 h => ?_)
  refine r_istore_n (lv' := [(2, .int v1), (1, .int 0), (0, .ref (ad 133))]) C dX12_mode_6 rfl (by rw [hn9]; decide) rfl ?_
  refine Jr.sub [2, 1, 0] (lv' := [(0, .ref (ad 133)), (1, .int 0), (2, .int v1)]) rfl ?_
  exact s_X12_mode_l7 hn9 C M  FU 0 v1 T2 h
theorem dX12_oneRun_0 : decode cX12_oneRun 0 = .ok (.iconst 0, 1) := by decide +kernel
theorem dX12_oneRun_1 : decode cX12_oneRun 1 = .ok (.istore_n 2, 1) := by decide +kernel
theorem dX12_oneRun_2 : decode cX12_oneRun 2 = .ok (.iconst 1, 1) := by decide +kernel
theorem dX12_oneRun_3 : decode cX12_oneRun 3 = .ok (.istore_n 3, 1) := by decide +kernel
theorem dX12_oneRun_4 : decode cX12_oneRun 4 = .ok (.iload_n 3, 1) := by decide +kernel
theorem dX12_oneRun_5 : decode cX12_oneRun 5 = .ok (.bipush 13, 2) := by decide +kernel
theorem dX12_oneRun_7 : decode cX12_oneRun 7 = .ok (.if_icmp .gt 81, 3) := by decide +kernel
theorem dX12_oneRun_10 : decode cX12_oneRun 10 = .ok (.aload_n 0, 1) := by decide +kernel
theorem dX12_oneRun_11 : decode cX12_oneRun 11 = .ok (.invokevirtual 643, 3) := by decide +kernel
theorem dX12_oneRun_14 : decode cX12_oneRun 14 = .ok (.istore 4, 2) := by decide +kernel
theorem dX12_oneRun_16 : decode cX12_oneRun 16 = .ok (.iload 4, 2) := by decide +kernel
theorem dX12_oneRun_18 : decode cX12_oneRun 18 = .ok (.iconst 2, 1) := by decide +kernel
theorem dX12_oneRun_19 : decode cX12_oneRun 19 = .ok (.if_icmp .ne 5, 3) := by decide +kernel
theorem dX12_oneRun_22 : decode cX12_oneRun 22 = .ok (.iconst (-1), 1) := by decide +kernel
theorem dX12_oneRun_23 : decode cX12_oneRun 23 = .ok (.ireturn, 1) := by decide +kernel
theorem dX12_oneRun_24 : decode cX12_oneRun 24 = .ok (.iload_n 2, 1) := by decide +kernel
theorem dX12_oneRun_25 : decode cX12_oneRun 25 = .ok (.iconst 2, 1) := by decide +kernel
theorem dX12_oneRun_26 : decode cX12_oneRun 26 = .ok (.imul, 1) := by decide +kernel
theorem dX12_oneRun_27 : decode cX12_oneRun 27 = .ok (.iload 4, 2) := by decide +kernel
theorem dX12_oneRun_29 : decode cX12_oneRun 29 = .ok (.iadd, 1) := by decide +kernel
theorem dX12_oneRun_30 : decode cX12_oneRun 30 = .ok (.istore_n 2, 1) := by decide +kernel
theorem dX12_oneRun_31 : decode cX12_oneRun 31 = .ok (.iconst 0, 1) := by decide +kernel
theorem dX12_oneRun_32 : decode cX12_oneRun 32 = .ok (.istore 5, 2) := by decide +kernel
theorem dX12_oneRun_34 : decode cX12_oneRun 34 = .ok (.iload 5, 2) := by decide +kernel
theorem dX12_oneRun_36 : decode cX12_oneRun 36 = .ok (.bipush 74, 2) := by decide +kernel
theorem dX12_oneRun_38 : decode cX12_oneRun 38 = .ok (.if_icmp .ge 44, 3) := by decide +kernel
theorem dX12_oneRun_41 : decode cX12_oneRun 41 = .ok (.aload_n 0, 1) := by decide +kernel
theorem dX12_oneRun_42 : decode cX12_oneRun 42 = .ok (.getfield 108, 3) := by decide +kernel
theorem dX12_oneRun_45 : decode cX12_oneRun 45 = .ok (.bipush 74, 2) := by decide +kernel
theorem dX12_oneRun_47 : decode cX12_oneRun 47 = .ok (.iload_n 1, 1) := by decide +kernel
theorem dX12_oneRun_48 : decode cX12_oneRun 48 = .ok (.imul, 1) := by decide +kernel
theorem dX12_oneRun_49 : decode cX12_oneRun 49 = .ok (.iload 5, 2) := by decide +kernel
theorem dX12_oneRun_51 : decode cX12_oneRun 51 = .ok (.iadd, 1) := by decide +kernel
theorem dX12_oneRun_52 : decode cX12_oneRun 52 = .ok (.iaload, 1) := by decide +kernel
theorem dX12_oneRun_53 : decode cX12_oneRun 53 = .ok (.iload_n 3, 1) := by decide +kernel
theorem dX12_oneRun_54 : decode cX12_oneRun 54 = .ok (.if_icmp .ne 22, 3) := by decide +kernel
theorem dX12_oneRun_57 : decode cX12_oneRun 57 = .ok (.aload_n 0, 1) := by decide +kernel
theorem dX12_oneRun_58 : decode cX12_oneRun 58 = .ok (.getfield 111, 3) := by decide +kernel
theorem dX12_oneRun_61 : decode cX12_oneRun 61 = .ok (.bipush 74, 2) := by decide +kernel
theorem dX12_oneRun_63 : decode cX12_oneRun 63 = .ok (.iload_n 1, 1) := by decide +kernel
theorem dX12_oneRun_64 : decode cX12_oneRun 64 = .ok (.imul, 1) := by decide +kernel
theorem dX12_oneRun_65 : decode cX12_oneRun 65 = .ok (.iload 5, 2) := by decide +kernel
theorem dX12_oneRun_67 : decode cX12_oneRun 67 = .ok (.iadd, 1) := by decide +kernel
theorem dX12_oneRun_68 : decode cX12_oneRun 68 = .ok (.iaload, 1) := by decide +kernel
theorem dX12_oneRun_69 : decode cX12_oneRun 69 = .ok (.iload_n 2, 1) := by decide +kernel
theorem dX12_oneRun_70 : decode cX12_oneRun 70 = .ok (.if_icmp .ne 6, 3) := by decide +kernel
theorem dX12_oneRun_73 : decode cX12_oneRun 73 = .ok (.iload 5, 2) := by decide +kernel
theorem dX12_oneRun_75 : decode cX12_oneRun 75 = .ok (.ireturn, 1) := by decide +kernel
theorem dX12_oneRun_76 : decode cX12_oneRun 76 = .ok (.iinc 5 1, 3) := by decide +kernel
theorem dX12_oneRun_79 : decode cX12_oneRun 79 = .ok (.goto (-45), 3) := by decide +kernel
theorem dX12_oneRun_82 : decode cX12_oneRun 82 = .ok (.iinc 3 1, 3) := by decide +kernel
theorem dX12_oneRun_85 : decode cX12_oneRun 85 = .ok (.goto (-81), 3) := by decide +kernel
theorem dX12_oneRun_88 : decode cX12_oneRun 88 = .ok (.iconst (-1), 1) := by decide +kernel
theorem dX12_oneRun_89 : decode cX12_oneRun 89 = .ok (.ireturn, 1) := by decide +kernel
noncomputable def f_X12_oneRun_b34 (k4 : Int32 → Int32 → Int32 → Mm → Option (Int32 × Mm)) (k34 : Int32 → Int32 → Int32 → Int32 → Mm → Option (Int32 × Mm)) (a1 : Int32) (a2 : Int32) (a3 : Int32) (a5 : Int32) (T : Mm) : Option (Int32 × Mm) :=
  if 74 ≤ a5 then (k4 a1 a2 (a3 + 1) T)
  else (ix (((74 : Int32) * a1) + a5) 148 fun j1 =>
  if (gA T 165 j1) = a3 then (ix (((74 : Int32) * a1) + a5) 148 fun j3 =>
  if (gA T 166 j3) = a2 then (some (a5, T))
  else (k34 a1 a2 a3 (a5 + 1) T))
  else (k34 a1 a2 a3 (a5 + 1) T))
set_option maxRecDepth 100000 in
set_option maxHeartbeats 4000000 in
theorem s_X12_oneRun_b34 {x : JX} {ad : Nat → Nat} {U : Mm} {S0 : Hp} {q : Int32 × Mm}  {k4 : Int32 → Int32 → Int32 → Mm → Option (Int32 × Mm)} {k34 : Int32 → Int32 → Int32 → Int32 → Mm → Option (Int32 × Mm)} (hn9 : x_n x = 6) (C : CB x RX12 cX12_oneRun) (M : CMr x 2 (some .int) S0 ad false U eI q) (hk4 : ∀ (a1 : Int32) (a2 : Int32) (a3 : Int32) (T : Mm), k4 a1 a2 a3 T = some q → Jr x ad false U T [(0, .ref (ad 133)), (1, .int a1), (2, .int a2), (3, .int a3)] 4 []) (hk34 : ∀ (a1 : Int32) (a2 : Int32) (a3 : Int32) (a5 : Int32) (T : Mm), k34 a1 a2 a3 a5 T = some q → Jr x ad false U T [(0, .ref (ad 133)), (1, .int a1), (2, .int a2), (3, .int a3), (5, .int a5)] 34 []) (a1 : Int32) (a2 : Int32) (a3 : Int32) (a5 : Int32) (T : Mm) (h : f_X12_oneRun_b34 k4 k34 a1 a2 a3 a5 T = some q) : Jr x ad false U T [(0, .ref (ad 133)), (1, .int a1), (2, .int a2), (3, .int a3), (5, .int a5)] 34 [] := by
  unfold f_X12_oneRun_b34 at h
  refine r_iload C dX12_oneRun_34 4 rfl ?_
  refine r_bipush (v := 74) C dX12_oneRun_36 (by decide) ?_
  refine r_ic_ge (tgt := 82) C dX12_oneRun_38 (by decide) h (fun h => ?_) (fun h => ?_)
  · refine r_iinc (q := 3) (v := (a3 + 1)) (lv' := [(3, .int (a3 + 1)), (0, .ref (ad 133)), (1, .int a1), (2, .int a2), (5, .int a5)]) C dX12_oneRun_82 rfl (by rw [show Int32.ofInt (1) = 1 by decide]) (by rw [hn9]; decide) rfl ?_
    refine r_goto (tgt := 4) C dX12_oneRun_85 (by decide) ?_
    refine Jr.sub [1, 2, 3, 0] (lv' := [(0, .ref (ad 133)), (1, .int a1), (2, .int a2), (3, .int (a3 + 1))]) rfl ?_
    exact hk4 a1 a2 (a3 + 1) T h
  · refine r_aload_n C dX12_oneRun_41 rfl 0 rfl ?_
    refine r_getp (f := 1256) (j := 165) C flX12_108 dX12_oneRun_42 kq_133 (by decide) rfl (fun W => pt_1256 kq_133 W) ?_
    refine r_bipush (v := 74) C dX12_oneRun_45 (by decide) ?_
    refine r_iload_n C dX12_oneRun_47 rfl 1 rfl ?_
    refine r_imul C dX12_oneRun_48 rfl ?_
    show Jr _ _ _ _ _ _ 49 _
    refine r_iload C dX12_oneRun_49 4 rfl ?_
    refine r_iadd C dX12_oneRun_51 rfl ?_
    refine r_iald (n := 148) C dX12_oneRun_52 kq_165 lq_165 h (fun j1 hj2 h => ?_)
    refine r_iload_n C dX12_oneRun_53 rfl 3 rfl ?_
    refine r_ic_ne (tgt := 76) C dX12_oneRun_54 (by decide) h (fun h => ?_) (fun h => ?_)
    · refine r_iinc (q := 4) (v := (a5 + 1)) (lv' := [(5, .int (a5 + 1)), (0, .ref (ad 133)), (1, .int a1), (2, .int a2), (3, .int a3)]) C dX12_oneRun_76 rfl (by rw [show Int32.ofInt (1) = 1 by decide]) (by rw [hn9]; decide) rfl ?_
      refine r_goto (tgt := 34) C dX12_oneRun_79 (by decide) ?_
      refine Jr.sub [1, 2, 3, 4, 0] (lv' := [(0, .ref (ad 133)), (1, .int a1), (2, .int a2), (3, .int a3), (5, .int (a5 + 1))]) rfl ?_
      exact hk34 a1 a2 a3 (a5 + 1) T h
    · refine r_aload_n C dX12_oneRun_57 rfl 0 rfl ?_
      refine r_getp (f := 1257) (j := 166) C flX12_111 dX12_oneRun_58 kq_133 (by decide) rfl (fun W => pt_1257 kq_133 W) ?_
      refine r_bipush (v := 74) C dX12_oneRun_61 (by decide) ?_
      refine r_iload_n C dX12_oneRun_63 rfl 1 rfl ?_
      refine r_imul C dX12_oneRun_64 rfl ?_
      show Jr _ _ _ _ _ _ 65 _
      refine r_iload C dX12_oneRun_65 4 rfl ?_
      refine r_iadd C dX12_oneRun_67 rfl ?_
      refine r_iald (n := 148) C dX12_oneRun_68 kq_166 lq_166 h (fun j3 hj4 h => ?_)
      refine r_iload_n C dX12_oneRun_69 rfl 2 rfl ?_
      refine r_ic_ne (tgt := 76) C dX12_oneRun_70 (by decide) h (fun h => ?_) (fun h => ?_)
      · refine r_iinc (q := 4) (v := (a5 + 1)) (lv' := [(5, .int (a5 + 1)), (0, .ref (ad 133)), (1, .int a1), (2, .int a2), (3, .int a3)]) C dX12_oneRun_76 rfl (by rw [show Int32.ofInt (1) = 1 by decide]) (by rw [hn9]; decide) rfl ?_
        refine r_goto (tgt := 34) C dX12_oneRun_79 (by decide) ?_
        refine Jr.sub [1, 2, 3, 4, 0] (lv' := [(0, .ref (ad 133)), (1, .int a1), (2, .int a2), (3, .int a3), (5, .int (a5 + 1))]) rfl ?_
        exact hk34 a1 a2 a3 (a5 + 1) T h
      · refine r_iload C dX12_oneRun_73 4 rfl ?_
        exact r_iret C M dX12_oneRun_75 h
noncomputable def f_X12_oneRun_l34 (k4 : Int32 → Int32 → Int32 → Mm → Option (Int32 × Mm)) (n : Nat) : Int32 → Int32 → Int32 → Int32 → Mm → Option (Int32 × Mm) := Nat.rec (fun _ _ _ _ _ => none) (fun _ ih => f_X12_oneRun_b34 k4 ih) n
theorem s_X12_oneRun_l34 {x : JX} {ad : Nat → Nat} {U : Mm} {S0 : Hp} {q : Int32 × Mm}  {k4 : Int32 → Int32 → Int32 → Mm → Option (Int32 × Mm)} (hn9 : x_n x = 6) (C : CB x RX12 cX12_oneRun) (M : CMr x 2 (some .int) S0 ad false U eI q) (hk4 : ∀ (a1 : Int32) (a2 : Int32) (a3 : Int32) (T : Mm), k4 a1 a2 a3 T = some q → Jr x ad false U T [(0, .ref (ad 133)), (1, .int a1), (2, .int a2), (3, .int a3)] 4 []) : ∀ (n : Nat), ∀ (a1 : Int32) (a2 : Int32) (a3 : Int32) (a5 : Int32) (T : Mm), f_X12_oneRun_l34 k4 n a1 a2 a3 a5 T = some q → Jr x ad false U T [(0, .ref (ad 133)), (1, .int a1), (2, .int a2), (3, .int a3), (5, .int a5)] 34 [] := by
  intro n
  induction n with
  | zero => intro a1 a2 a3 a5 T  h; exact absurd h (by intro h; cases h)
  | succ n ih => exact fun a1 a2 a3 a5 T  h => s_X12_oneRun_b34 hn9 C M hk4 (ih) a1 a2 a3 a5 T  h
noncomputable def f_X12_oneRun_b4 (k4 : Int32 → Int32 → Int32 → Mm → Option (Int32 × Mm)) (a1 : Int32) (a2 : Int32) (a3 : Int32) (T : Mm) : Option (Int32 × Mm) :=
  if 13 < a3 then (some ((-1), T))
  else (bd (f_X12_bit T) fun v1 T2 =>
  if v1 = 2 then (some ((-1), T2))
  else (lb (((a2 * 2) + v1)) fun v3 =>
  f_X12_oneRun_l34 k4 FU a1 v3 a3 0 T2))
set_option maxRecDepth 100000 in
set_option maxHeartbeats 4000000 in
theorem s_X12_oneRun_b4 {x : JX} {ad : Nat → Nat} {U : Mm} {S0 : Hp} {q : Int32 × Mm}  {k4 : Int32 → Int32 → Int32 → Mm → Option (Int32 × Mm)} (hn9 : x_n x = 6) (C : CB x RX12 cX12_oneRun) (M : CMr x 2 (some .int) S0 ad false U eI q) (hk4 : ∀ (a1 : Int32) (a2 : Int32) (a3 : Int32) (T : Mm), k4 a1 a2 a3 T = some q → Jr x ad false U T [(0, .ref (ad 133)), (1, .int a1), (2, .int a2), (3, .int a3)] 4 []) (a1 : Int32) (a2 : Int32) (a3 : Int32) (T : Mm) (h : f_X12_oneRun_b4 k4 a1 a2 a3 T = some q) : Jr x ad false U T [(0, .ref (ad 133)), (1, .int a1), (2, .int a2), (3, .int a3)] 4 [] := by
  unfold f_X12_oneRun_b4 at h
  refine r_iload_n C dX12_oneRun_4 rfl 3 rfl ?_
  refine r_bipush (v := 13) C dX12_oneRun_5 (by decide) ?_
  refine r_ic_gt (tgt := 88) C dX12_oneRun_7 (by decide) h (fun h => ?_) (fun h => ?_)
  · refine r_iconst (v := (-1)) C dX12_oneRun_88 (by decide) ?_
    exact r_iret C M dX12_oneRun_89 h
  · refine r_aload_n C dX12_oneRun_10 rfl 0 rfl ?_
    refine r_callVI C M h [] [] mlX12_643 mcX12_bit (fun q9 e9 => s_X12_bit   e9) kq_133 rfl (by decide) (by decide) rfl rfl (Nat.le_of_ble_eq_true rfl) dX12_oneRun_11 (fun v1 T2 h => ?_)
    refine r_istore (lv' := [(4, .int v1), (0, .ref (ad 133)), (1, .int a1), (2, .int a2), (3, .int a3)]) C dX12_oneRun_14 (by rw [hn9]; decide) rfl ?_
    refine r_iload C dX12_oneRun_16 0 rfl ?_
    refine r_iconst (v := 2) C dX12_oneRun_18 (by decide) ?_
    show Jr _ _ _ _ _ _ 19 _
    refine r_ic_ne (tgt := 24) C dX12_oneRun_19 (by decide) h (fun h => ?_) (fun h => ?_)
    · refine r_iload_n C dX12_oneRun_24 rfl 3 rfl ?_
      refine r_iconst (v := 2) C dX12_oneRun_25 (by decide) ?_
      refine r_imul C dX12_oneRun_26 rfl ?_
      refine r_iload C dX12_oneRun_27 0 rfl ?_
      refine r_iadd C dX12_oneRun_29 rfl ?_
      show Jr _ _ _ _ _ _ 30 _
      refine r_lbI h (fun v3 h => ?_)
      refine r_istore_n (lv' := [(2, .int v3), (4, .int v1), (0, .ref (ad 133)), (1, .int a1), (3, .int a3)]) C dX12_oneRun_30 rfl (by rw [hn9]; decide) rfl ?_
      refine r_iconst (v := 0) C dX12_oneRun_31 (by decide) ?_
      refine r_istore (lv' := [(5, .int 0), (2, .int v3), (4, .int v1), (0, .ref (ad 133)), (1, .int a1), (3, .int a3)]) C dX12_oneRun_32 (by rw [hn9]; decide) rfl ?_
      refine Jr.sub [3, 4, 1, 5, 0] (lv' := [(0, .ref (ad 133)), (1, .int a1), (2, .int v3), (3, .int a3), (5, .int 0)]) rfl ?_
      exact s_X12_oneRun_l34 hn9 C M hk4 FU a1 v3 a3 0 T2 h
    · refine r_iconst (v := (-1)) C dX12_oneRun_22 (by decide) ?_
      exact r_iret C M dX12_oneRun_23 h
noncomputable def f_X12_oneRun_l4 (n : Nat) : Int32 → Int32 → Int32 → Mm → Option (Int32 × Mm) := Nat.rec (fun _ _ _ _ => none) (fun _ ih => f_X12_oneRun_b4 ih) n
theorem s_X12_oneRun_l4 {x : JX} {ad : Nat → Nat} {U : Mm} {S0 : Hp} {q : Int32 × Mm}  (hn9 : x_n x = 6) (C : CB x RX12 cX12_oneRun) (M : CMr x 2 (some .int) S0 ad false U eI q) : ∀ (n : Nat), ∀ (a1 : Int32) (a2 : Int32) (a3 : Int32) (T : Mm), f_X12_oneRun_l4  n a1 a2 a3 T = some q → Jr x ad false U T [(0, .ref (ad 133)), (1, .int a1), (2, .int a2), (3, .int a3)] 4 [] := by
  intro n
  induction n with
  | zero => intro a1 a2 a3 T  h; exact absurd h (by intro h; cases h)
  | succ n ih => exact fun a1 a2 a3 T  h => s_X12_oneRun_b4 hn9 C M (ih) a1 a2 a3 T  h
noncomputable def f_X12_oneRun (p1 : Int32) (T : Mm) : Option (Int32 × Mm) :=
  f_X12_oneRun_l4 FU p1 0 1 T
set_option maxRecDepth 100000 in
set_option maxHeartbeats 4000000 in
theorem s_X12_oneRun {ad : Nat → Nat} {U T : Mm} {q : Int32 × Mm}  (p1 : Int32) (h : f_X12_oneRun p1 T = some q) : Cr 2 yX12_oneRun cX12_oneRun 6 (some .int) [.ref (ad 133), .int p1] ad false U T eI q := by
  refine cr_of (by decide) (Nat.le_of_ble_eq_true rfl) fun x S0 hn9 C M => ?_
  have C : CB x RX12 cX12_oneRun := C
  refine Jr.eq (lv' := [(0, .ref (ad 133)), (1, .int p1)]) (st' := []) rfl rfl ?_
  unfold f_X12_oneRun at h
  refine r_iconst (v := 0) C dX12_oneRun_0 (by decide) ?_
  refine r_istore_n (lv' := [(2, .int 0), (0, .ref (ad 133)), (1, .int p1)]) C dX12_oneRun_1 rfl (by rw [hn9]; decide) rfl ?_
  refine r_iconst (v := 1) C dX12_oneRun_2 (by decide) ?_
  refine r_istore_n (lv' := [(3, .int 1), (2, .int 0), (0, .ref (ad 133)), (1, .int p1)]) C dX12_oneRun_3 rfl (by rw [hn9]; decide) rfl ?_
  refine Jr.sub [2, 3, 1, 0] (lv' := [(0, .ref (ad 133)), (1, .int p1), (2, .int 0), (3, .int 1)]) rfl ?_
  exact s_X12_oneRun_l4 hn9 C M  FU p1 0 1 T h
theorem dX12_readRun_0 : decode cX12_readRun 0 = .ok (.iconst 0, 1) := by decide +kernel
theorem dX12_readRun_1 : decode cX12_readRun 1 = .ok (.istore_n 2, 1) := by decide +kernel
theorem dX12_readRun_2 : decode cX12_readRun 2 = .ok (.iconst 0, 1) := by decide +kernel
theorem dX12_readRun_3 : decode cX12_readRun 3 = .ok (.istore_n 3, 1) := by decide +kernel
theorem dX12_readRun_4 : decode cX12_readRun 4 = .ok (.aload_n 0, 1) := by decide +kernel
theorem dX12_readRun_5 : decode cX12_readRun 5 = .ok (.iload_n 1, 1) := by decide +kernel
theorem dX12_readRun_6 : decode cX12_readRun 6 = .ok (.invokevirtual 640, 3) := by decide +kernel
theorem dX12_readRun_9 : decode cX12_readRun 9 = .ok (.istore 4, 2) := by decide +kernel
theorem dX12_readRun_11 : decode cX12_readRun 11 = .ok (.iload 4, 2) := by decide +kernel
theorem dX12_readRun_13 : decode cX12_readRun 13 = .ok (.iconst (-1), 1) := by decide +kernel
theorem dX12_readRun_14 : decode cX12_readRun 14 = .ok (.if_icmp .eq 14, 3) := by decide +kernel
theorem dX12_readRun_17 : decode cX12_readRun 17 = .ok (.iload 4, 2) := by decide +kernel
theorem dX12_readRun_19 : decode cX12_readRun 19 = .ok (.bipush 64, 2) := by decide +kernel
theorem dX12_readRun_21 : decode cX12_readRun 21 = .ok (.if_icmp .lt 9, 3) := by decide +kernel
theorem dX12_readRun_24 : decode cX12_readRun 24 = .ok (.iload_n 3, 1) := by decide +kernel
theorem dX12_readRun_25 : decode cX12_readRun 25 = .ok (.ifCond .eq 5, 3) := by decide +kernel
theorem dX12_readRun_28 : decode cX12_readRun 28 = .ok (.iconst (-1), 1) := by decide +kernel
theorem dX12_readRun_29 : decode cX12_readRun 29 = .ok (.ireturn, 1) := by decide +kernel
theorem dX12_readRun_30 : decode cX12_readRun 30 = .ok (.iload 4, 2) := by decide +kernel
theorem dX12_readRun_32 : decode cX12_readRun 32 = .ok (.bipush 64, 2) := by decide +kernel
theorem dX12_readRun_34 : decode cX12_readRun 34 = .ok (.if_icmp .ge 8, 3) := by decide +kernel
theorem dX12_readRun_37 : decode cX12_readRun 37 = .ok (.iload_n 2, 1) := by decide +kernel
theorem dX12_readRun_38 : decode cX12_readRun 38 = .ok (.iload 4, 2) := by decide +kernel
theorem dX12_readRun_40 : decode cX12_readRun 40 = .ok (.iadd, 1) := by decide +kernel
theorem dX12_readRun_41 : decode cX12_readRun 41 = .ok (.ireturn, 1) := by decide +kernel
theorem dX12_readRun_42 : decode cX12_readRun 42 = .ok (.bipush 64, 2) := by decide +kernel
theorem dX12_readRun_44 : decode cX12_readRun 44 = .ok (.iload 4, 2) := by decide +kernel
theorem dX12_readRun_46 : decode cX12_readRun 46 = .ok (.bipush 63, 2) := by decide +kernel
theorem dX12_readRun_48 : decode cX12_readRun 48 = .ok (.isub, 1) := by decide +kernel
theorem dX12_readRun_49 : decode cX12_readRun 49 = .ok (.imul, 1) := by decide +kernel
theorem dX12_readRun_50 : decode cX12_readRun 50 = .ok (.istore_n 2, 1) := by decide +kernel
theorem dX12_readRun_51 : decode cX12_readRun 51 = .ok (.iconst 1, 1) := by decide +kernel
theorem dX12_readRun_52 : decode cX12_readRun 52 = .ok (.istore_n 3, 1) := by decide +kernel
theorem dX12_readRun_53 : decode cX12_readRun 53 = .ok (.goto (-49), 3) := by decide +kernel
noncomputable def f_X12_readRun_30 (k4 : Int32 → Int32 → Int32 → Mm → Option (Int32 × Mm)) (a1 : Int32) (a2 : Int32) (a4 : Int32) (T : Mm) : Option (Int32 × Mm) :=
  if 64 ≤ a4 then (lb (((64 : Int32) * (a4 - 63))) fun v1 =>
  k4 a1 v1 1 T)
  else (some ((a2 + a4), T))
set_option maxRecDepth 100000 in
set_option maxHeartbeats 4000000 in
theorem s_X12_readRun_30 {x : JX} {ad : Nat → Nat} {U : Mm} {S0 : Hp} {q : Int32 × Mm}  {k4 : Int32 → Int32 → Int32 → Mm → Option (Int32 × Mm)} (hn9 : x_n x = 5) (C : CB x RX12 cX12_readRun) (M : CMr x 3 (some .int) S0 ad false U eI q) (hk4 : ∀ (a1 : Int32) (a2 : Int32) (a3 : Int32) (T : Mm), k4 a1 a2 a3 T = some q → Jr x ad false U T [(0, .ref (ad 133)), (1, .int a1), (2, .int a2), (3, .int a3)] 4 []) (a1 : Int32) (a2 : Int32) (a4 : Int32) (T : Mm) (h : f_X12_readRun_30 k4 a1 a2 a4 T = some q) : Jr x ad false U T [(0, .ref (ad 133)), (1, .int a1), (2, .int a2), (4, .int a4)] 30 [] := by
  unfold f_X12_readRun_30 at h
  refine r_iload C dX12_readRun_30 3 rfl ?_
  refine r_bipush (v := 64) C dX12_readRun_32 (by decide) ?_
  refine r_ic_ge (tgt := 42) C dX12_readRun_34 (by decide) h (fun h => ?_) (fun h => ?_)
  · refine r_bipush (v := 64) C dX12_readRun_42 (by decide) ?_
    refine r_iload C dX12_readRun_44 3 rfl ?_
    refine r_bipush (v := 63) C dX12_readRun_46 (by decide) ?_
    refine r_isub C dX12_readRun_48 rfl ?_
    refine r_imul C dX12_readRun_49 rfl ?_
    show Jr _ _ _ _ _ _ 50 _
    refine r_lbI h (fun v1 h => ?_)
    refine r_istore_n (lv' := [(2, .int v1), (0, .ref (ad 133)), (1, .int a1), (4, .int a4)]) C dX12_readRun_50 rfl (by rw [hn9]; decide) rfl ?_
    refine r_iconst (v := 1) C dX12_readRun_51 (by decide) ?_
    refine r_istore_n (lv' := [(3, .int 1), (2, .int v1), (0, .ref (ad 133)), (1, .int a1), (4, .int a4)]) C dX12_readRun_52 rfl (by rw [hn9]; decide) rfl ?_
    refine r_goto (tgt := 4) C dX12_readRun_53 (by decide) ?_
    refine Jr.sub [2, 3, 1, 0] (lv' := [(0, .ref (ad 133)), (1, .int a1), (2, .int v1), (3, .int 1)]) rfl ?_
    exact hk4 a1 v1 1 T h
  · refine r_iload_n C dX12_readRun_37 rfl 2 rfl ?_
    refine r_iload C dX12_readRun_38 3 rfl ?_
    refine r_iadd C dX12_readRun_40 rfl ?_
    exact r_iret C M dX12_readRun_41 h
noncomputable def f_X12_readRun_b4 (k4 : Int32 → Int32 → Int32 → Mm → Option (Int32 × Mm)) (a1 : Int32) (a2 : Int32) (a3 : Int32) (T : Mm) : Option (Int32 × Mm) :=
  bd (f_X12_oneRun a1 T) fun v1 T2 =>
  if v1 = (-1) then (some ((-1), T2))
  else (if v1 < 64 then (f_X12_readRun_30 k4 a1 a2 v1 T2)
  else (if a3 = 0 then (f_X12_readRun_30 k4 a1 a2 v1 T2)
  else (some ((-1), T2))))
set_option maxRecDepth 100000 in
set_option maxHeartbeats 4000000 in
theorem s_X12_readRun_b4 {x : JX} {ad : Nat → Nat} {U : Mm} {S0 : Hp} {q : Int32 × Mm}  {k4 : Int32 → Int32 → Int32 → Mm → Option (Int32 × Mm)} (hn9 : x_n x = 5) (C : CB x RX12 cX12_readRun) (M : CMr x 3 (some .int) S0 ad false U eI q) (hk4 : ∀ (a1 : Int32) (a2 : Int32) (a3 : Int32) (T : Mm), k4 a1 a2 a3 T = some q → Jr x ad false U T [(0, .ref (ad 133)), (1, .int a1), (2, .int a2), (3, .int a3)] 4 []) (a1 : Int32) (a2 : Int32) (a3 : Int32) (T : Mm) (h : f_X12_readRun_b4 k4 a1 a2 a3 T = some q) : Jr x ad false U T [(0, .ref (ad 133)), (1, .int a1), (2, .int a2), (3, .int a3)] 4 [] := by
  unfold f_X12_readRun_b4 at h
  refine r_aload_n C dX12_readRun_4 rfl 0 rfl ?_
  refine r_iload_n C dX12_readRun_5 rfl 1 rfl ?_
  refine r_callVI C M h [.int a1] [] mlX12_640 mcX12_oneRun (fun q9 e9 => s_X12_oneRun a1  e9) kq_133 rfl (by decide) (by decide) rfl rfl (Nat.le_of_ble_eq_true rfl) dX12_readRun_6 (fun v1 T2 h => ?_)
  refine r_istore (lv' := [(4, .int v1), (0, .ref (ad 133)), (1, .int a1), (2, .int a2), (3, .int a3)]) C dX12_readRun_9 (by rw [hn9]; decide) rfl ?_
  refine r_iload C dX12_readRun_11 0 rfl ?_
  show Jr _ _ _ _ _ _ 13 _
  refine r_iconst (v := (-1)) C dX12_readRun_13 (by decide) ?_
  refine r_ic_eq (tgt := 28) C dX12_readRun_14 (by decide) h (fun h => ?_) (fun h => ?_)
  · refine r_iconst (v := (-1)) C dX12_readRun_28 (by decide) ?_
    exact r_iret C M dX12_readRun_29 h
  · refine r_iload C dX12_readRun_17 0 rfl ?_
    refine r_bipush (v := 64) C dX12_readRun_19 (by decide) ?_
    refine r_ic_lt (tgt := 30) C dX12_readRun_21 (by decide) h (fun h => ?_) (fun h => ?_)
    · refine Jr.sub [1, 2, 3, 0] (lv' := [(0, .ref (ad 133)), (1, .int a1), (2, .int a2), (4, .int v1)]) rfl ?_
      exact s_X12_readRun_30 hn9 C M hk4 a1 a2 v1 T2 h
    · refine r_iload_n C dX12_readRun_24 rfl 4 rfl ?_
      refine r_if_eq (tgt := 30) C dX12_readRun_25 (by decide) h (fun h => ?_) (fun h => ?_)
      · refine Jr.sub [1, 2, 3, 0] (lv' := [(0, .ref (ad 133)), (1, .int a1), (2, .int a2), (4, .int v1)]) rfl ?_
        exact s_X12_readRun_30 hn9 C M hk4 a1 a2 v1 T2 h
      · refine r_iconst (v := (-1)) C dX12_readRun_28 (by decide) ?_
        exact r_iret C M dX12_readRun_29 h
noncomputable def f_X12_readRun_l4 (n : Nat) : Int32 → Int32 → Int32 → Mm → Option (Int32 × Mm) := Nat.rec (fun _ _ _ _ => none) (fun _ ih => f_X12_readRun_b4 ih) n
theorem s_X12_readRun_l4 {x : JX} {ad : Nat → Nat} {U : Mm} {S0 : Hp} {q : Int32 × Mm}  (hn9 : x_n x = 5) (C : CB x RX12 cX12_readRun) (M : CMr x 3 (some .int) S0 ad false U eI q) : ∀ (n : Nat), ∀ (a1 : Int32) (a2 : Int32) (a3 : Int32) (T : Mm), f_X12_readRun_l4  n a1 a2 a3 T = some q → Jr x ad false U T [(0, .ref (ad 133)), (1, .int a1), (2, .int a2), (3, .int a3)] 4 [] := by
  intro n
  induction n with
  | zero => intro a1 a2 a3 T  h; exact absurd h (by intro h; cases h)
  | succ n ih => exact fun a1 a2 a3 T  h => s_X12_readRun_b4 hn9 C M (ih) a1 a2 a3 T  h
noncomputable def f_X12_readRun (p1 : Int32) (T : Mm) : Option (Int32 × Mm) :=
  f_X12_readRun_l4 FU p1 0 0 T
set_option maxRecDepth 100000 in
set_option maxHeartbeats 4000000 in
theorem s_X12_readRun {ad : Nat → Nat} {U T : Mm} {q : Int32 × Mm}  (p1 : Int32) (h : f_X12_readRun p1 T = some q) : Cr 3 yX12_readRun cX12_readRun 5 (some .int) [.ref (ad 133), .int p1] ad false U T eI q := by
  refine cr_of (by decide) (Nat.le_of_ble_eq_true rfl) fun x S0 hn9 C M => ?_
  have C : CB x RX12 cX12_readRun := C
  refine Jr.eq (lv' := [(0, .ref (ad 133)), (1, .int p1)]) (st' := []) rfl rfl ?_
  unfold f_X12_readRun at h
  refine r_iconst (v := 0) C dX12_readRun_0 (by decide) ?_
  refine r_istore_n (lv' := [(2, .int 0), (0, .ref (ad 133)), (1, .int p1)]) C dX12_readRun_1 rfl (by rw [hn9]; decide) rfl ?_
  refine r_iconst (v := 0) C dX12_readRun_2 (by decide) ?_
  refine r_istore_n (lv' := [(3, .int 0), (2, .int 0), (0, .ref (ad 133)), (1, .int p1)]) C dX12_readRun_3 rfl (by rw [hn9]; decide) rfl ?_
  refine Jr.sub [2, 3, 1, 0] (lv' := [(0, .ref (ad 133)), (1, .int p1), (2, .int 0), (3, .int 0)]) rfl ?_
  exact s_X12_readRun_l4 hn9 C M  FU p1 0 0 T h
theorem dX12_paint_0 : decode cX12_paint 0 = .ok (.aload_n 0, 1) := by decide +kernel
theorem dX12_paint_1 : decode cX12_paint 1 = .ok (.getfield 525, 3) := by decide +kernel
theorem dX12_paint_4 : decode cX12_paint 4 = .ok (.iload_n 1, 1) := by decide +kernel
theorem dX12_paint_5 : decode cX12_paint 5 = .ok (.if_icmp .ge 26, 3) := by decide +kernel
theorem dX12_paint_8 : decode cX12_paint 8 = .ok (.aload_n 0, 1) := by decide +kernel
theorem dX12_paint_9 : decode cX12_paint 9 = .ok (.getfield 117, 3) := by decide +kernel
theorem dX12_paint_12 : decode cX12_paint 12 = .ok (.aload_n 0, 1) := by decide +kernel
theorem dX12_paint_13 : decode cX12_paint 13 = .ok (.getfield 525, 3) := by decide +kernel
theorem dX12_paint_16 : decode cX12_paint 16 = .ok (.iload_n 2, 1) := by decide +kernel
theorem dX12_paint_17 : decode cX12_paint 17 = .ok (.iastore, 1) := by decide +kernel
theorem dX12_paint_18 : decode cX12_paint 18 = .ok (.aload_n 0, 1) := by decide +kernel
theorem dX12_paint_19 : decode cX12_paint 19 = .ok (.dup, 1) := by decide +kernel
theorem dX12_paint_20 : decode cX12_paint 20 = .ok (.getfield 525, 3) := by decide +kernel
theorem dX12_paint_23 : decode cX12_paint 23 = .ok (.iconst 1, 1) := by decide +kernel
theorem dX12_paint_24 : decode cX12_paint 24 = .ok (.iadd, 1) := by decide +kernel
theorem dX12_paint_25 : decode cX12_paint 25 = .ok (.putfield 525, 3) := by decide +kernel
theorem dX12_paint_28 : decode cX12_paint 28 = .ok (.goto (-28), 3) := by decide +kernel
theorem dX12_paint_31 : decode cX12_paint 31 = .ok (.return_, 1) := by decide +kernel
noncomputable def f_X12_paint_b0 (k0 : Int32 → Int32 → Mm → Option (Unit × Mm)) (a1 : Int32) (a2 : Int32) (T : Mm) : Option (Unit × Mm) :=
  if a1 ≤ (gI T 1261 133) then (some ((), T))
  else (ix (gI T 1261 133) 640 fun j1 => lb (uA T 168 j1 (a2)) fun T3 =>
  lb (uI T3 1261 133 ((gI T3 1261 133) + 1)) fun T4 =>
  k0 a1 a2 T4)
set_option maxRecDepth 100000 in
set_option maxHeartbeats 4000000 in
theorem s_X12_paint_b0 {x : JX} {ad : Nat → Nat} {U : Mm} {S0 : Hp} {q : Unit × Mm}  {k0 : Int32 → Int32 → Mm → Option (Unit × Mm)} (hn9 : x_n x = 3) (C : CB x RX12 cX12_paint) (M : CMr x 1 none S0 ad false U eV q) (hk0 : ∀ (a1 : Int32) (a2 : Int32) (T : Mm), k0 a1 a2 T = some q → Jr x ad false U T [(0, .ref (ad 133)), (1, .int a1), (2, .int a2)] 0 []) (a1 : Int32) (a2 : Int32) (T : Mm) (h : f_X12_paint_b0 k0 a1 a2 T = some q) : Jr x ad false U T [(0, .ref (ad 133)), (1, .int a1), (2, .int a2)] 0 [] := by
  unfold f_X12_paint_b0 at h
  refine r_aload_n C dX12_paint_0 rfl 0 rfl ?_
  refine r_geti (f := 1261) C flX12_525 dX12_paint_1 kq_133 (by decide) (by decide) rfl ?_
  refine r_iload_n C dX12_paint_4 rfl 1 rfl ?_
  refine r_ic_ge (tgt := 31) C dX12_paint_5 (by decide) h (fun h => ?_) (fun h => ?_)
  · exact r_vret C M dX12_paint_31 h
  · refine r_aload_n C dX12_paint_8 rfl 0 rfl ?_
    refine r_getp (f := 1259) (j := 168) C flX12_117 dX12_paint_9 kq_133 (by decide) rfl (fun W => pt_1259 kq_133 W) ?_
    refine r_aload_n C dX12_paint_12 rfl 0 rfl ?_
    refine r_geti (f := 1261) C flX12_525 dX12_paint_13 kq_133 (by decide) (by decide) rfl ?_
    refine r_iload_n C dX12_paint_16 rfl 2 rfl ?_
    show Jr _ _ _ _ _ _ 17 _
    refine r_iast (n := 640) C dX12_paint_17 kq_168 lq_168 h (fun j1 T3 hj2 h => ?_)
    refine r_aload_n C dX12_paint_18 rfl 0 rfl ?_
    refine r_dup C dX12_paint_19 rfl ?_
    refine r_geti (f := 1261) C flX12_525 dX12_paint_20 kq_133 (by decide) (by decide) rfl ?_
    refine r_iconst (v := 1) C dX12_paint_23 (by decide) ?_
    refine r_iadd C dX12_paint_24 rfl ?_
    show Jr _ _ _ _ _ _ 25 _
    refine r_puti (f := 1261) C flX12_525 (by decide) rfl rfl dX12_paint_25 kq_133 rfl h (fun T4 h => ?_)
    refine r_goto (tgt := 0) C dX12_paint_28 (by decide) ?_
    exact hk0 a1 a2 T4 h
noncomputable def f_X12_paint_l0 (n : Nat) : Int32 → Int32 → Mm → Option (Unit × Mm) := Nat.rec (fun _ _ _ => none) (fun _ ih => f_X12_paint_b0 ih) n
theorem s_X12_paint_l0 {x : JX} {ad : Nat → Nat} {U : Mm} {S0 : Hp} {q : Unit × Mm}  (hn9 : x_n x = 3) (C : CB x RX12 cX12_paint) (M : CMr x 1 none S0 ad false U eV q) : ∀ (n : Nat), ∀ (a1 : Int32) (a2 : Int32) (T : Mm), f_X12_paint_l0  n a1 a2 T = some q → Jr x ad false U T [(0, .ref (ad 133)), (1, .int a1), (2, .int a2)] 0 [] := by
  intro n
  induction n with
  | zero => intro a1 a2 T  h; exact absurd h (by intro h; cases h)
  | succ n ih => exact fun a1 a2 T  h => s_X12_paint_b0 hn9 C M (ih) a1 a2 T  h
noncomputable def f_X12_paint (p1 : Int32) (p2 : Int32) (T : Mm) : Option (Unit × Mm) :=
  f_X12_paint_l0 FU p1 p2 T
set_option maxRecDepth 100000 in
set_option maxHeartbeats 4000000 in
theorem s_X12_paint {ad : Nat → Nat} {U T : Mm} {q : Unit × Mm}  (p1 : Int32) (p2 : Int32) (h : f_X12_paint p1 p2 T = some q) : Cr 1 yX12_paint cX12_paint 3 none [.ref (ad 133), .int p1, .int p2] ad false U T eV q := by
  refine cr_of (by decide) (Nat.le_of_ble_eq_true rfl) fun x S0 hn9 C M => ?_
  have C : CB x RX12 cX12_paint := C
  refine Jr.eq (lv' := [(0, .ref (ad 133)), (1, .int p1), (2, .int p2)]) (st' := []) rfl rfl ?_
  unfold f_X12_paint at h
  exact s_X12_paint_l0 hn9 C M  FU p1 p2 T h
theorem dX12_readRow__0 : decode cX12_readRow_ 0 = .ok (.aload_n 0, 1) := by decide +kernel
theorem dX12_readRow__1 : decode cX12_readRow_ 1 = .ok (.iconst 0, 1) := by decide +kernel
theorem dX12_readRow__2 : decode cX12_readRow_ 2 = .ok (.putfield 525, 3) := by decide +kernel
theorem dX12_readRow__5 : decode cX12_readRow_ 5 = .ok (.aload_n 0, 1) := by decide +kernel
theorem dX12_readRow__6 : decode cX12_readRow_ 6 = .ok (.iconst 1, 1) := by decide +kernel
theorem dX12_readRow__7 : decode cX12_readRow_ 7 = .ok (.putfield 522, 3) := by decide +kernel
theorem dX12_readRow__10 : decode cX12_readRow_ 10 = .ok (.aload_n 0, 1) := by decide +kernel
theorem dX12_readRow__11 : decode cX12_readRow_ 11 = .ok (.iconst 0, 1) := by decide +kernel
theorem dX12_readRow__12 : decode cX12_readRow_ 12 = .ok (.putfield 531, 3) := by decide +kernel
theorem dX12_readRow__15 : decode cX12_readRow_ 15 = .ok (.aload_n 0, 1) := by decide +kernel
theorem dX12_readRow__16 : decode cX12_readRow_ 16 = .ok (.getfield 525, 3) := by decide +kernel
theorem dX12_readRow__19 : decode cX12_readRow_ 19 = .ok (.aload_n 0, 1) := by decide +kernel
theorem dX12_readRow__20 : decode cX12_readRow_ 20 = .ok (.getfield 528, 3) := by decide +kernel
theorem dX12_readRow__23 : decode cX12_readRow_ 23 = .ok (.if_icmp .ge 196, 3) := by decide +kernel
theorem dX12_readRow__26 : decode cX12_readRow_ 26 = .ok (.aload_n 0, 1) := by decide +kernel
theorem dX12_readRow__27 : decode cX12_readRow_ 27 = .ok (.invokevirtual 646, 3) := by decide +kernel
theorem dX12_readRow__30 : decode cX12_readRow_ 30 = .ok (.istore_n 1, 1) := by decide +kernel
theorem dX12_readRow__31 : decode cX12_readRow_ 31 = .ok (.iload_n 1, 1) := by decide +kernel
theorem dX12_readRow__32 : decode cX12_readRow_ 32 = .ok (.bipush 6, 2) := by decide +kernel
theorem dX12_readRow__34 : decode cX12_readRow_ 34 = .ok (.if_icmp .ne 5, 3) := by decide +kernel
theorem dX12_readRow__37 : decode cX12_readRow_ 37 = .ok (.iconst 0, 1) := by decide +kernel
theorem dX12_readRow__38 : decode cX12_readRow_ 38 = .ok (.ireturn, 1) := by decide +kernel
theorem dX12_readRow__39 : decode cX12_readRow_ 39 = .ok (.iload_n 1, 1) := by decide +kernel
theorem dX12_readRow__40 : decode cX12_readRow_ 40 = .ok (.iconst 5, 1) := by decide +kernel
theorem dX12_readRow__41 : decode cX12_readRow_ 41 = .ok (.if_icmp .ne 87, 3) := by decide +kernel
theorem dX12_readRow__44 : decode cX12_readRow_ 44 = .ok (.aload_n 0, 1) := by decide +kernel
theorem dX12_readRow__45 : decode cX12_readRow_ 45 = .ok (.aload_n 0, 1) := by decide +kernel
theorem dX12_readRow__46 : decode cX12_readRow_ 46 = .ok (.getfield 531, 3) := by decide +kernel
theorem dX12_readRow__49 : decode cX12_readRow_ 49 = .ok (.invokevirtual 649, 3) := by decide +kernel
theorem dX12_readRow__52 : decode cX12_readRow_ 52 = .ok (.istore_n 2, 1) := by decide +kernel
theorem dX12_readRow__53 : decode cX12_readRow_ 53 = .ok (.iload_n 2, 1) := by decide +kernel
theorem dX12_readRow__54 : decode cX12_readRow_ 54 = .ok (.iconst (-1), 1) := by decide +kernel
theorem dX12_readRow__55 : decode cX12_readRow_ 55 = .ok (.if_icmp .ne 7, 3) := by decide +kernel
theorem dX12_readRow__58 : decode cX12_readRow_ 58 = .ok (.iconst (-1), 1) := by decide +kernel
theorem dX12_readRow__59 : decode cX12_readRow_ 59 = .ok (.goto 13, 3) := by decide +kernel
theorem dX12_readRow__62 : decode cX12_readRow_ 62 = .ok (.aload_n 0, 1) := by decide +kernel
theorem dX12_readRow__63 : decode cX12_readRow_ 63 = .ok (.iconst 1, 1) := by decide +kernel
theorem dX12_readRow__64 : decode cX12_readRow_ 64 = .ok (.aload_n 0, 1) := by decide +kernel
theorem dX12_readRow__65 : decode cX12_readRow_ 65 = .ok (.getfield 531, 3) := by decide +kernel
theorem dX12_readRow__68 : decode cX12_readRow_ 68 = .ok (.isub, 1) := by decide +kernel
theorem dX12_readRow__69 : decode cX12_readRow_ 69 = .ok (.invokevirtual 649, 3) := by decide +kernel
theorem dX12_readRow__72 : decode cX12_readRow_ 72 = .ok (.istore_n 3, 1) := by decide +kernel
theorem dX12_readRow__73 : decode cX12_readRow_ 73 = .ok (.iload_n 3, 1) := by decide +kernel
theorem dX12_readRow__74 : decode cX12_readRow_ 74 = .ok (.iconst (-1), 1) := by decide +kernel
theorem dX12_readRow__75 : decode cX12_readRow_ 75 = .ok (.if_icmp .eq 18, 3) := by decide +kernel
theorem dX12_readRow__78 : decode cX12_readRow_ 78 = .ok (.aload_n 0, 1) := by decide +kernel
theorem dX12_readRow__79 : decode cX12_readRow_ 79 = .ok (.getfield 525, 3) := by decide +kernel
theorem dX12_readRow__82 : decode cX12_readRow_ 82 = .ok (.iload_n 2, 1) := by decide +kernel
theorem dX12_readRow__83 : decode cX12_readRow_ 83 = .ok (.iadd, 1) := by decide +kernel
theorem dX12_readRow__84 : decode cX12_readRow_ 84 = .ok (.iload_n 3, 1) := by decide +kernel
theorem dX12_readRow__85 : decode cX12_readRow_ 85 = .ok (.iadd, 1) := by decide +kernel
theorem dX12_readRow__86 : decode cX12_readRow_ 86 = .ok (.aload_n 0, 1) := by decide +kernel
theorem dX12_readRow__87 : decode cX12_readRow_ 87 = .ok (.getfield 528, 3) := by decide +kernel
theorem dX12_readRow__90 : decode cX12_readRow_ 90 = .ok (.if_icmp .le 5, 3) := by decide +kernel
theorem dX12_readRow__93 : decode cX12_readRow_ 93 = .ok (.iconst 0, 1) := by decide +kernel
theorem dX12_readRow__94 : decode cX12_readRow_ 94 = .ok (.ireturn, 1) := by decide +kernel
theorem dX12_readRow__95 : decode cX12_readRow_ 95 = .ok (.aload_n 0, 1) := by decide +kernel
theorem dX12_readRow__96 : decode cX12_readRow_ 96 = .ok (.aload_n 0, 1) := by decide +kernel
theorem dX12_readRow__97 : decode cX12_readRow_ 97 = .ok (.getfield 525, 3) := by decide +kernel
theorem dX12_readRow__100 : decode cX12_readRow_ 100 = .ok (.iload_n 2, 1) := by decide +kernel
theorem dX12_readRow__101 : decode cX12_readRow_ 101 = .ok (.iadd, 1) := by decide +kernel
theorem dX12_readRow__102 : decode cX12_readRow_ 102 = .ok (.aload_n 0, 1) := by decide +kernel
theorem dX12_readRow__103 : decode cX12_readRow_ 103 = .ok (.getfield 531, 3) := by decide +kernel
theorem dX12_readRow__106 : decode cX12_readRow_ 106 = .ok (.invokevirtual 652, 3) := by decide +kernel
theorem dX12_readRow__109 : decode cX12_readRow_ 109 = .ok (.aload_n 0, 1) := by decide +kernel
theorem dX12_readRow__110 : decode cX12_readRow_ 110 = .ok (.aload_n 0, 1) := by decide +kernel
theorem dX12_readRow__111 : decode cX12_readRow_ 111 = .ok (.getfield 525, 3) := by decide +kernel
theorem dX12_readRow__114 : decode cX12_readRow_ 114 = .ok (.iload_n 3, 1) := by decide +kernel
theorem dX12_readRow__115 : decode cX12_readRow_ 115 = .ok (.iadd, 1) := by decide +kernel
theorem dX12_readRow__116 : decode cX12_readRow_ 116 = .ok (.iconst 1, 1) := by decide +kernel
theorem dX12_readRow__117 : decode cX12_readRow_ 117 = .ok (.aload_n 0, 1) := by decide +kernel
theorem dX12_readRow__118 : decode cX12_readRow_ 118 = .ok (.getfield 531, 3) := by decide +kernel
theorem dX12_readRow__121 : decode cX12_readRow_ 121 = .ok (.isub, 1) := by decide +kernel
theorem dX12_readRow__122 : decode cX12_readRow_ 122 = .ok (.invokevirtual 652, 3) := by decide +kernel
theorem dX12_readRow__125 : decode cX12_readRow_ 125 = .ok (.goto 86, 3) := by decide +kernel
theorem dX12_readRow__128 : decode cX12_readRow_ 128 = .ok (.iload_n 1, 1) := by decide +kernel
theorem dX12_readRow__129 : decode cX12_readRow_ 129 = .ok (.iconst 4, 1) := by decide +kernel
theorem dX12_readRow__130 : decode cX12_readRow_ 130 = .ok (.if_icmp .ne 22, 3) := by decide +kernel
theorem dX12_readRow__133 : decode cX12_readRow_ 133 = .ok (.aload_n 0, 1) := by decide +kernel
theorem dX12_readRow__134 : decode cX12_readRow_ 134 = .ok (.aload_n 0, 1) := by decide +kernel
theorem dX12_readRow__135 : decode cX12_readRow_ 135 = .ok (.aload_n 0, 1) := by decide +kernel
theorem dX12_readRow__136 : decode cX12_readRow_ 136 = .ok (.invokevirtual 552, 3) := by decide +kernel
theorem dX12_readRow__139 : decode cX12_readRow_ 139 = .ok (.invokevirtual 555, 3) := by decide +kernel
theorem dX12_readRow__142 : decode cX12_readRow_ 142 = .ok (.aload_n 0, 1) := by decide +kernel
theorem dX12_readRow__143 : decode cX12_readRow_ 143 = .ok (.getfield 531, 3) := by decide +kernel
theorem dX12_readRow__146 : decode cX12_readRow_ 146 = .ok (.invokevirtual 652, 3) := by decide +kernel
theorem dX12_readRow__149 : decode cX12_readRow_ 149 = .ok (.goto 62, 3) := by decide +kernel
theorem dX12_readRow__152 : decode cX12_readRow_ 152 = .ok (.aload_n 0, 1) := by decide +kernel
theorem dX12_readRow__153 : decode cX12_readRow_ 153 = .ok (.invokevirtual 552, 3) := by decide +kernel
theorem dX12_readRow__156 : decode cX12_readRow_ 156 = .ok (.iload_n 1, 1) := by decide +kernel
theorem dX12_readRow__157 : decode cX12_readRow_ 157 = .ok (.iadd, 1) := by decide +kernel
theorem dX12_readRow__158 : decode cX12_readRow_ 158 = .ok (.istore_n 2, 1) := by decide +kernel
theorem dX12_readRow__159 : decode cX12_readRow_ 159 = .ok (.iload_n 2, 1) := by decide +kernel
theorem dX12_readRow__160 : decode cX12_readRow_ 160 = .ok (.aload_n 0, 1) := by decide +kernel
theorem dX12_readRow__161 : decode cX12_readRow_ 161 = .ok (.getfield 528, 3) := by decide +kernel
theorem dX12_readRow__164 : decode cX12_readRow_ 164 = .ok (.if_icmp .gt 26, 3) := by decide +kernel
theorem dX12_readRow__167 : decode cX12_readRow_ 167 = .ok (.iload_n 2, 1) := by decide +kernel
theorem dX12_readRow__168 : decode cX12_readRow_ 168 = .ok (.aload_n 0, 1) := by decide +kernel
theorem dX12_readRow__169 : decode cX12_readRow_ 169 = .ok (.getfield 525, 3) := by decide +kernel
theorem dX12_readRow__172 : decode cX12_readRow_ 172 = .ok (.if_icmp .lt 18, 3) := by decide +kernel
theorem dX12_readRow__175 : decode cX12_readRow_ 175 = .ok (.iload_n 2, 1) := by decide +kernel
theorem dX12_readRow__176 : decode cX12_readRow_ 176 = .ok (.aload_n 0, 1) := by decide +kernel
theorem dX12_readRow__177 : decode cX12_readRow_ 177 = .ok (.getfield 525, 3) := by decide +kernel
theorem dX12_readRow__180 : decode cX12_readRow_ 180 = .ok (.if_icmp .ne 12, 3) := by decide +kernel
theorem dX12_readRow__183 : decode cX12_readRow_ 183 = .ok (.aload_n 0, 1) := by decide +kernel
theorem dX12_readRow__184 : decode cX12_readRow_ 184 = .ok (.getfield 522, 3) := by decide +kernel
theorem dX12_readRow__187 : decode cX12_readRow_ 187 = .ok (.ifCond .ne 5, 3) := by decide +kernel
theorem dX12_readRow__190 : decode cX12_readRow_ 190 = .ok (.iconst 0, 1) := by decide +kernel
theorem dX12_readRow__191 : decode cX12_readRow_ 191 = .ok (.ireturn, 1) := by decide +kernel
theorem dX12_readRow__192 : decode cX12_readRow_ 192 = .ok (.aload_n 0, 1) := by decide +kernel
theorem dX12_readRow__193 : decode cX12_readRow_ 193 = .ok (.iload_n 2, 1) := by decide +kernel
theorem dX12_readRow__194 : decode cX12_readRow_ 194 = .ok (.aload_n 0, 1) := by decide +kernel
theorem dX12_readRow__195 : decode cX12_readRow_ 195 = .ok (.getfield 531, 3) := by decide +kernel
theorem dX12_readRow__198 : decode cX12_readRow_ 198 = .ok (.invokevirtual 652, 3) := by decide +kernel
theorem dX12_readRow__201 : decode cX12_readRow_ 201 = .ok (.aload_n 0, 1) := by decide +kernel
theorem dX12_readRow__202 : decode cX12_readRow_ 202 = .ok (.iconst 1, 1) := by decide +kernel
theorem dX12_readRow__203 : decode cX12_readRow_ 203 = .ok (.aload_n 0, 1) := by decide +kernel
theorem dX12_readRow__204 : decode cX12_readRow_ 204 = .ok (.getfield 531, 3) := by decide +kernel
theorem dX12_readRow__207 : decode cX12_readRow_ 207 = .ok (.isub, 1) := by decide +kernel
theorem dX12_readRow__208 : decode cX12_readRow_ 208 = .ok (.putfield 531, 3) := by decide +kernel
theorem dX12_readRow__211 : decode cX12_readRow_ 211 = .ok (.aload_n 0, 1) := by decide +kernel
theorem dX12_readRow__212 : decode cX12_readRow_ 212 = .ok (.iconst 0, 1) := by decide +kernel
theorem dX12_readRow__213 : decode cX12_readRow_ 213 = .ok (.putfield 522, 3) := by decide +kernel
theorem dX12_readRow__216 : decode cX12_readRow_ 216 = .ok (.goto (-201), 3) := by decide +kernel
theorem dX12_readRow__219 : decode cX12_readRow_ 219 = .ok (.iconst 1, 1) := by decide +kernel
theorem dX12_readRow__220 : decode cX12_readRow_ 220 = .ok (.ireturn, 1) := by decide +kernel
noncomputable def f_X12_readRow__192 (k15 : Mm → Option (Int32 × Mm)) (a2 : Int32) (T : Mm) : Option (Int32 × Mm) :=
  bd (f_X12_paint a2 (gI T 1263 133) T) fun _ T1 =>
  lb (uI T1 1263 133 ((1 : Int32) - (gI T1 1263 133))) fun T2 =>
  lb (uI T2 1262 133 0) fun T3 =>
  k15 T3
set_option maxRecDepth 100000 in
set_option maxHeartbeats 4000000 in
theorem s_X12_readRow__192 {x : JX} {ad : Nat → Nat} {U : Mm} {S0 : Hp} {q : Int32 × Mm}  {k15 : Mm → Option (Int32 × Mm)} (hn9 : x_n x = 4) (C : CB x RX12 cX12_readRow_) (M : CMr x 4 (some .boolean) S0 ad false U eI q) (hk15 : ∀ (T : Mm), k15  T = some q → Jr x ad false U T [(0, .ref (ad 133))] 15 []) (a2 : Int32) (T : Mm) (h : f_X12_readRow__192 k15 a2 T = some q) : Jr x ad false U T [(0, .ref (ad 133)), (2, .int a2)] 192 [] := by
  unfold f_X12_readRow__192 at h
  refine r_aload_n C dX12_readRow__192 rfl 0 rfl ?_
  refine r_iload_n C dX12_readRow__193 rfl 1 rfl ?_
  refine r_aload_n C dX12_readRow__194 rfl 0 rfl ?_
  refine r_geti (f := 1263) C flX12_531 dX12_readRow__195 kq_133 (by decide) (by decide) rfl ?_
  refine r_callVN C M h [.int a2, .int (gI T 1263 133)] [] mlX12_652 mcX12_paint (fun q9 e9 => s_X12_paint a2 (gI T 1263 133)  e9) kq_133 rfl (by decide) (by decide) rfl rfl (Nat.le_of_ble_eq_true rfl) dX12_readRow__198 (fun _ T1 h => ?_)
  show Jr _ _ _ _ _ _ 201 _
  refine r_aload_n C dX12_readRow__201 rfl 0 rfl ?_
  refine r_iconst (v := 1) C dX12_readRow__202 (by decide) ?_
  refine r_aload_n C dX12_readRow__203 rfl 0 rfl ?_
  refine r_geti (f := 1263) C flX12_531 dX12_readRow__204 kq_133 (by decide) (by decide) rfl ?_
  refine r_isub C dX12_readRow__207 rfl ?_
  refine r_puti (f := 1263) C flX12_531 (by decide) rfl rfl dX12_readRow__208 kq_133 rfl h (fun T2 h => ?_)
  show Jr _ _ _ _ _ _ 211 _
  refine r_aload_n C dX12_readRow__211 rfl 0 rfl ?_
  refine r_iconst (v := 0) C dX12_readRow__212 (by decide) ?_
  refine r_putz (f := 1262) C flX12_522 (by decide) rfl rfl (by decide) dX12_readRow__213 kq_133 rfl h (fun T3 h => ?_)
  refine r_goto (tgt := 15) C dX12_readRow__216 (by decide) ?_
  refine Jr.sub [0] (lv' := [(0, .ref (ad 133))]) rfl ?_
  exact hk15 T3 h
noncomputable def f_X12_readRow__72 (k15 : Mm → Option (Int32 × Mm)) (a2 : Int32) (b0 : Int32) (T : Mm) : Option (Int32 × Mm) :=
  if b0 = (-1) then (some (0, T))
  else (if (((gI T 1261 133) + a2) + b0) ≤ (gI T 1260 133) then (bd (f_X12_paint ((gI T 1261 133) + a2) (gI T 1263 133) T) fun _ T1 =>
  bd (f_X12_paint ((gI T1 1261 133) + b0) ((1 : Int32) - (gI T1 1263 133)) T1) fun _ T2 =>
  lb (uI T2 1262 133 0) fun T3 =>
  k15 T3)
  else (some (0, T)))
set_option maxRecDepth 100000 in
set_option maxHeartbeats 4000000 in
theorem s_X12_readRow__72 {x : JX} {ad : Nat → Nat} {U : Mm} {S0 : Hp} {q : Int32 × Mm}  {k15 : Mm → Option (Int32 × Mm)} (hn9 : x_n x = 4) (C : CB x RX12 cX12_readRow_) (M : CMr x 4 (some .boolean) S0 ad false U eI q) (hk15 : ∀ (T : Mm), k15  T = some q → Jr x ad false U T [(0, .ref (ad 133))] 15 []) (a2 : Int32) (b0 : Int32) (T : Mm) (h : f_X12_readRow__72 k15 a2 b0 T = some q) : Jr x ad false U T [(0, .ref (ad 133)), (2, .int a2)] 72 [.int b0] := by
  unfold f_X12_readRow__72 at h
  refine r_istore_n (lv' := [(3, .int b0), (0, .ref (ad 133)), (2, .int a2)]) C dX12_readRow__72 rfl (by rw [hn9]; decide) rfl ?_
  refine r_iload_n C dX12_readRow__73 rfl 0 rfl ?_
  refine r_iconst (v := (-1)) C dX12_readRow__74 (by decide) ?_
  refine r_ic_eq (tgt := 93) C dX12_readRow__75 (by decide) h (fun h => ?_) (fun h => ?_)
  · refine r_iconst (v := 0) C dX12_readRow__93 (by decide) ?_
    exact r_zret C M dX12_readRow__94 (by decide) h
  · refine r_aload_n C dX12_readRow__78 rfl 1 rfl ?_
    refine r_geti (f := 1261) C flX12_525 dX12_readRow__79 kq_133 (by decide) (by decide) rfl ?_
    refine r_iload_n C dX12_readRow__82 rfl 2 rfl ?_
    refine r_iadd C dX12_readRow__83 rfl ?_
    refine r_iload_n C dX12_readRow__84 rfl 0 rfl ?_
    show Jr _ _ _ _ _ _ 85 _
    refine r_iadd C dX12_readRow__85 rfl ?_
    refine r_aload_n C dX12_readRow__86 rfl 1 rfl ?_
    refine r_geti (f := 1260) C flX12_528 dX12_readRow__87 kq_133 (by decide) (by decide) rfl ?_
    refine r_ic_le (tgt := 95) C dX12_readRow__90 (by decide) h (fun h => ?_) (fun h => ?_)
    · refine r_aload_n C dX12_readRow__95 rfl 1 rfl ?_
      refine r_aload_n C dX12_readRow__96 rfl 1 rfl ?_
      refine r_geti (f := 1261) C flX12_525 dX12_readRow__97 kq_133 (by decide) (by decide) rfl ?_
      refine r_iload_n C dX12_readRow__100 rfl 2 rfl ?_
      refine r_iadd C dX12_readRow__101 rfl ?_
      show Jr _ _ _ _ _ _ 102 _
      refine r_aload_n C dX12_readRow__102 rfl 1 rfl ?_
      refine r_geti (f := 1263) C flX12_531 dX12_readRow__103 kq_133 (by decide) (by decide) rfl ?_
      refine r_callVN C M h [.int ((gI T 1261 133) + a2), .int (gI T 1263 133)] [] mlX12_652 mcX12_paint (fun q9 e9 => s_X12_paint ((gI T 1261 133) + a2) (gI T 1263 133)  e9) kq_133 rfl (by decide) (by decide) rfl rfl (Nat.le_of_ble_eq_true rfl) dX12_readRow__106 (fun _ T1 h => ?_)
      refine r_aload_n C dX12_readRow__109 rfl 1 rfl ?_
      refine r_aload_n C dX12_readRow__110 rfl 1 rfl ?_
      refine r_geti (f := 1261) C flX12_525 dX12_readRow__111 kq_133 (by decide) (by decide) rfl ?_
      show Jr _ _ _ _ _ _ 114 _
      refine r_iload_n C dX12_readRow__114 rfl 0 rfl ?_
      refine r_iadd C dX12_readRow__115 rfl ?_
      refine r_iconst (v := 1) C dX12_readRow__116 (by decide) ?_
      refine r_aload_n C dX12_readRow__117 rfl 1 rfl ?_
      refine r_geti (f := 1263) C flX12_531 dX12_readRow__118 kq_133 (by decide) (by decide) rfl ?_
      refine r_isub C dX12_readRow__121 rfl ?_
      show Jr _ _ _ _ _ _ 122 _
      refine r_callVN C M h [.int ((gI T1 1261 133) + b0), .int ((1 : Int32) - (gI T1 1263 133))] [] mlX12_652 mcX12_paint (fun q9 e9 => s_X12_paint ((gI T1 1261 133) + b0) ((1 : Int32) - (gI T1 1263 133))  e9) kq_133 rfl (by decide) (by decide) rfl rfl (Nat.le_of_ble_eq_true rfl) dX12_readRow__122 (fun _ T2 h => ?_)
      refine r_goto (tgt := 211) C dX12_readRow__125 (by decide) ?_
      refine r_aload_n C dX12_readRow__211 rfl 1 rfl ?_
      refine r_iconst (v := 0) C dX12_readRow__212 (by decide) ?_
      refine r_putz (f := 1262) C flX12_522 (by decide) rfl rfl (by decide) dX12_readRow__213 kq_133 rfl h (fun T3 h => ?_)
      refine r_goto (tgt := 15) C dX12_readRow__216 (by decide) ?_
      refine Jr.sub [1] (lv' := [(0, .ref (ad 133))]) rfl ?_
      exact hk15 T3 h
    · refine r_iconst (v := 0) C dX12_readRow__93 (by decide) ?_
      exact r_zret C M dX12_readRow__94 (by decide) h
noncomputable def f_X12_readRow__b15 (k15 : Mm → Option (Int32 × Mm)) (T : Mm) : Option (Int32 × Mm) :=
  if (gI T 1260 133) ≤ (gI T 1261 133) then (some (1, T))
  else (bd (f_X12_mode T) fun v1 T2 =>
  if v1 = 6 then (some (0, T2))
  else (if v1 = 5 then (bd (f_X12_readRun (gI T2 1263 133) T2) fun v12 T13 =>
  if v12 = (-1) then (f_X12_readRow__72 k15 v12 (-1) T13)
  else (bd (f_X12_readRun ((1 : Int32) - (gI T13 1263 133)) T13) fun v14 T15 =>
  f_X12_readRow__72 k15 v12 v14 T15))
  else (if v1 = 4 then (bd (f_X12_b1 T2) fun v6 T7 =>
  bd (f_X12_b2 v6 T7) fun v8 T9 =>
  bd (f_X12_paint v8 (gI T9 1263 133) T9) fun _ T10 =>
  lb (uI T10 1262 133 0) fun T11 =>
  k15 T11)
  else (bd (f_X12_b1 T2) fun v3 T4 =>
  lb ((v3 + v1)) fun v5 =>
  if (gI T4 1260 133) < v5 then (some (0, T4))
  else (if v5 < (gI T4 1261 133) then (some (0, T4))
  else (if v5 = (gI T4 1261 133) then (if (gI T4 1262 133) = 0 then (some (0, T4))
  else (f_X12_readRow__192 k15 v5 T4))
  else (f_X12_readRow__192 k15 v5 T4)))))))
set_option maxRecDepth 100000 in
set_option maxHeartbeats 4000000 in
theorem s_X12_readRow__b15 {x : JX} {ad : Nat → Nat} {U : Mm} {S0 : Hp} {q : Int32 × Mm}  {k15 : Mm → Option (Int32 × Mm)} (hn9 : x_n x = 4) (C : CB x RX12 cX12_readRow_) (M : CMr x 4 (some .boolean) S0 ad false U eI q) (hk15 : ∀ (T : Mm), k15  T = some q → Jr x ad false U T [(0, .ref (ad 133))] 15 []) (T : Mm) (h : f_X12_readRow__b15 k15  T = some q) : Jr x ad false U T [(0, .ref (ad 133))] 15 [] := by
  unfold f_X12_readRow__b15 at h
  refine r_aload_n C dX12_readRow__15 rfl 0 rfl ?_
  refine r_geti (f := 1261) C flX12_525 dX12_readRow__16 kq_133 (by decide) (by decide) rfl ?_
  refine r_aload_n C dX12_readRow__19 rfl 0 rfl ?_
  refine r_geti (f := 1260) C flX12_528 dX12_readRow__20 kq_133 (by decide) (by decide) rfl ?_
  refine r_ic_ge (tgt := 219) C dX12_readRow__23 (by decide) h (fun h => ?_) (fun h => ?_)
  · refine r_iconst (v := 1) C dX12_readRow__219 (by decide) ?_
    exact r_zret C M dX12_readRow__220 (by decide) h
  · refine r_aload_n C dX12_readRow__26 rfl 0 rfl ?_
    refine r_callVI C M h [] [] mlX12_646 mcX12_mode (fun q9 e9 => s_X12_mode   e9) kq_133 rfl (by decide) (by decide) rfl rfl (Nat.le_of_ble_eq_true rfl) dX12_readRow__27 (fun v1 T2 h => ?_)
    refine r_istore_n (lv' := [(1, .int v1), (0, .ref (ad 133))]) C dX12_readRow__30 rfl (by rw [hn9]; decide) rfl ?_
    refine r_iload_n C dX12_readRow__31 rfl 0 rfl ?_
    refine r_bipush (v := 6) C dX12_readRow__32 (by decide) ?_
    show Jr _ _ _ _ _ _ 34 _
    refine r_ic_ne (tgt := 39) C dX12_readRow__34 (by decide) h (fun h => ?_) (fun h => ?_)
    · refine r_iload_n C dX12_readRow__39 rfl 0 rfl ?_
      refine r_iconst (v := 5) C dX12_readRow__40 (by decide) ?_
      refine r_ic_ne (tgt := 128) C dX12_readRow__41 (by decide) h (fun h => ?_) (fun h => ?_)
      · refine r_iload_n C dX12_readRow__128 rfl 0 rfl ?_
        refine r_iconst (v := 4) C dX12_readRow__129 (by decide) ?_
        refine r_ic_ne (tgt := 152) C dX12_readRow__130 (by decide) h (fun h => ?_) (fun h => ?_)
        · refine r_aload_n C dX12_readRow__152 rfl 1 rfl ?_
          refine r_callVI C M h [] [] mlX12_552 mcX12_b1 (fun q9 e9 => s_X12_b1   e9) kq_133 rfl (by decide) (by decide) rfl rfl (Nat.le_of_ble_eq_true rfl) dX12_readRow__153 (fun v3 T4 h => ?_)
          refine r_iload_n C dX12_readRow__156 rfl 0 rfl ?_
          refine r_iadd C dX12_readRow__157 rfl ?_
          refine r_lbI h (fun v5 h => ?_)
          refine r_istore_n (lv' := [(2, .int v5), (1, .int v1), (0, .ref (ad 133))]) C dX12_readRow__158 rfl (by rw [hn9]; decide) rfl ?_
          show Jr _ _ _ _ _ _ 159 _
          refine r_iload_n C dX12_readRow__159 rfl 0 rfl ?_
          refine r_aload_n C dX12_readRow__160 rfl 2 rfl ?_
          refine r_geti (f := 1260) C flX12_528 dX12_readRow__161 kq_133 (by decide) (by decide) rfl ?_
          refine r_ic_gt (tgt := 190) C dX12_readRow__164 (by decide) h (fun h => ?_) (fun h => ?_)
          · refine r_iconst (v := 0) C dX12_readRow__190 (by decide) ?_
            exact r_zret C M dX12_readRow__191 (by decide) h
          · refine r_iload_n C dX12_readRow__167 rfl 0 rfl ?_
            refine r_aload_n C dX12_readRow__168 rfl 2 rfl ?_
            refine r_geti (f := 1261) C flX12_525 dX12_readRow__169 kq_133 (by decide) (by decide) rfl ?_
            refine r_ic_lt (tgt := 190) C dX12_readRow__172 (by decide) h (fun h => ?_) (fun h => ?_)
            · refine r_iconst (v := 0) C dX12_readRow__190 (by decide) ?_
              exact r_zret C M dX12_readRow__191 (by decide) h
            · refine r_iload_n C dX12_readRow__175 rfl 0 rfl ?_
              refine r_aload_n C dX12_readRow__176 rfl 2 rfl ?_
              refine r_geti (f := 1261) C flX12_525 dX12_readRow__177 kq_133 (by decide) (by decide) rfl ?_
              refine r_ic_ne (tgt := 192) C dX12_readRow__180 (by decide) h (fun h => ?_) (fun h => ?_)
              · refine Jr.sub [2, 0] (lv' := [(0, .ref (ad 133)), (2, .int v5)]) rfl ?_
                exact s_X12_readRow__192 hn9 C M hk15 v5 T4 h
              · refine r_aload_n C dX12_readRow__183 rfl 2 rfl ?_
                refine r_geti (f := 1262) C flX12_522 dX12_readRow__184 kq_133 (by decide) (by decide) rfl ?_
                refine r_if_ne (tgt := 192) C dX12_readRow__187 (by decide) h (fun h => ?_) (fun h => ?_)
                · refine Jr.sub [2, 0] (lv' := [(0, .ref (ad 133)), (2, .int v5)]) rfl ?_
                  exact s_X12_readRow__192 hn9 C M hk15 v5 T4 h
                · refine r_iconst (v := 0) C dX12_readRow__190 (by decide) ?_
                  exact r_zret C M dX12_readRow__191 (by decide) h
        · refine r_aload_n C dX12_readRow__133 rfl 1 rfl ?_
          refine r_aload_n C dX12_readRow__134 rfl 1 rfl ?_
          refine r_aload_n C dX12_readRow__135 rfl 1 rfl ?_
          refine r_callVI C M h [] [.ref (ad 133), .ref (ad 133)] mlX12_552 mcX12_b1 (fun q9 e9 => s_X12_b1   e9) kq_133 rfl (by decide) (by decide) rfl rfl (Nat.le_of_ble_eq_true rfl) dX12_readRow__136 (fun v6 T7 h => ?_)
          refine r_callVI C M h [.int v6] [.ref (ad 133)] mlX12_555 mcX12_b2 (fun q9 e9 => s_X12_b2 v6  e9) kq_133 rfl (by decide) (by decide) rfl rfl (Nat.le_of_ble_eq_true rfl) dX12_readRow__139 (fun v8 T9 h => ?_)
          show Jr _ _ _ _ _ _ 142 _
          refine r_aload_n C dX12_readRow__142 rfl 1 rfl ?_
          refine r_geti (f := 1263) C flX12_531 dX12_readRow__143 kq_133 (by decide) (by decide) rfl ?_
          refine r_callVN C M h [.int v8, .int (gI T9 1263 133)] [] mlX12_652 mcX12_paint (fun q9 e9 => s_X12_paint v8 (gI T9 1263 133)  e9) kq_133 rfl (by decide) (by decide) rfl rfl (Nat.le_of_ble_eq_true rfl) dX12_readRow__146 (fun _ T10 h => ?_)
          refine r_goto (tgt := 211) C dX12_readRow__149 (by decide) ?_
          refine r_aload_n C dX12_readRow__211 rfl 1 rfl ?_
          refine r_iconst (v := 0) C dX12_readRow__212 (by decide) ?_
          show Jr _ _ _ _ _ _ 213 _
          refine r_putz (f := 1262) C flX12_522 (by decide) rfl rfl (by decide) dX12_readRow__213 kq_133 rfl h (fun T11 h => ?_)
          refine r_goto (tgt := 15) C dX12_readRow__216 (by decide) ?_
          refine Jr.sub [1] (lv' := [(0, .ref (ad 133))]) rfl ?_
          exact hk15 T11 h
      · refine r_aload_n C dX12_readRow__44 rfl 1 rfl ?_
        refine r_aload_n C dX12_readRow__45 rfl 1 rfl ?_
        refine r_geti (f := 1263) C flX12_531 dX12_readRow__46 kq_133 (by decide) (by decide) rfl ?_
        refine r_callVI C M h [.int (gI T2 1263 133)] [] mlX12_649 mcX12_readRun (fun q9 e9 => s_X12_readRun (gI T2 1263 133)  e9) kq_133 rfl (by decide) (by decide) rfl rfl (Nat.le_of_ble_eq_true rfl) dX12_readRow__49 (fun v12 T13 h => ?_)
        refine r_istore_n (lv' := [(2, .int v12), (1, .int v1), (0, .ref (ad 133))]) C dX12_readRow__52 rfl (by rw [hn9]; decide) rfl ?_
        show Jr _ _ _ _ _ _ 53 _
        refine r_iload_n C dX12_readRow__53 rfl 0 rfl ?_
        refine r_iconst (v := (-1)) C dX12_readRow__54 (by decide) ?_
        refine r_ic_ne (tgt := 62) C dX12_readRow__55 (by decide) h (fun h => ?_) (fun h => ?_)
        · refine r_aload_n C dX12_readRow__62 rfl 2 rfl ?_
          refine r_iconst (v := 1) C dX12_readRow__63 (by decide) ?_
          refine r_aload_n C dX12_readRow__64 rfl 2 rfl ?_
          refine r_geti (f := 1263) C flX12_531 dX12_readRow__65 kq_133 (by decide) (by decide) rfl ?_
          refine r_isub C dX12_readRow__68 rfl ?_
          show Jr _ _ _ _ _ _ 69 _
          refine r_callVI C M h [.int ((1 : Int32) - (gI T13 1263 133))] [] mlX12_649 mcX12_readRun (fun q9 e9 => s_X12_readRun ((1 : Int32) - (gI T13 1263 133))  e9) kq_133 rfl (by decide) (by decide) rfl rfl (Nat.le_of_ble_eq_true rfl) dX12_readRow__69 (fun v14 T15 h => ?_)
          refine Jr.sub [2, 0] (lv' := [(0, .ref (ad 133)), (2, .int v12)]) rfl ?_
          exact s_X12_readRow__72 hn9 C M hk15 v12 v14 T15 h
        · refine r_iconst (v := (-1)) C dX12_readRow__58 (by decide) ?_
          refine r_goto (tgt := 72) C dX12_readRow__59 (by decide) ?_
          refine Jr.sub [2, 0] (lv' := [(0, .ref (ad 133)), (2, .int v12)]) rfl ?_
          exact s_X12_readRow__72 hn9 C M hk15 v12 (-1) T13 h
    · refine r_iconst (v := 0) C dX12_readRow__37 (by decide) ?_
      exact r_zret C M dX12_readRow__38 (by decide) h
noncomputable def f_X12_readRow__l15 (n : Nat) : Mm → Option (Int32 × Mm) := Nat.rec (fun  _ => none) (fun _ ih => f_X12_readRow__b15 ih) n
theorem s_X12_readRow__l15 {x : JX} {ad : Nat → Nat} {U : Mm} {S0 : Hp} {q : Int32 × Mm}  (hn9 : x_n x = 4) (C : CB x RX12 cX12_readRow_) (M : CMr x 4 (some .boolean) S0 ad false U eI q) : ∀ (n : Nat), ∀ (T : Mm), f_X12_readRow__l15  n  T = some q → Jr x ad false U T [(0, .ref (ad 133))] 15 [] := by
  intro n
  induction n with
  | zero => intro  T  h; exact absurd h (by intro h; cases h)
  | succ n ih => exact fun  T  h => s_X12_readRow__b15 hn9 C M (ih)  T  h
noncomputable def f_X12_readRow_ (T : Mm) : Option (Int32 × Mm) :=
  lb (uI T 1261 133 0) fun T1 =>
  lb (uI T1 1262 133 1) fun T2 =>
  lb (uI T2 1263 133 0) fun T3 =>
  f_X12_readRow__l15 FU T3
set_option maxRecDepth 100000 in
set_option maxHeartbeats 4000000 in
theorem s_X12_readRow_ {ad : Nat → Nat} {U T : Mm} {q : Int32 × Mm}  (h : f_X12_readRow_  T = some q) : Cr 4 yX12_readRow_ cX12_readRow_ 4 (some .boolean) [.ref (ad 133)] ad false U T eI q := by
  refine cr_of (by decide) (Nat.le_of_ble_eq_true rfl) fun x S0 hn9 C M => ?_
  have C : CB x RX12 cX12_readRow_ := C
  refine Jr.eq (lv' := [(0, .ref (ad 133))]) (st' := []) rfl rfl ?_
  unfold f_X12_readRow_ at h
  refine r_aload_n C dX12_readRow__0 rfl 0 rfl ?_
  refine r_iconst (v := 0) C dX12_readRow__1 (by decide) ?_
  refine r_puti (f := 1261) C flX12_525 (by decide) rfl rfl dX12_readRow__2 kq_133 rfl h (fun T1 h => ?_)
  refine r_aload_n C dX12_readRow__5 rfl 0 rfl ?_
  refine r_iconst (v := 1) C dX12_readRow__6 (by decide) ?_
  show Jr _ _ _ _ _ _ 7 _
  refine r_putz (f := 1262) C flX12_522 (by decide) rfl rfl (by decide) dX12_readRow__7 kq_133 rfl h (fun T2 h => ?_)
  refine r_aload_n C dX12_readRow__10 rfl 0 rfl ?_
  refine r_iconst (v := 0) C dX12_readRow__11 (by decide) ?_
  refine r_puti (f := 1263) C flX12_531 (by decide) rfl rfl dX12_readRow__12 kq_133 rfl h (fun T3 h => ?_)
  exact s_X12_readRow__l15 hn9 C M  FU T3 h
theorem dX12_directory_0 : decode cX12_directory 0 = .ok (.iconst 0, 1) := by decide +kernel
theorem dX12_directory_1 : decode cX12_directory 1 = .ok (.istore_n 3, 1) := by decide +kernel
theorem dX12_directory_2 : decode cX12_directory 2 = .ok (.iload_n 3, 1) := by decide +kernel
theorem dX12_directory_3 : decode cX12_directory 3 = .ok (.sipush 400, 3) := by decide +kernel
theorem dX12_directory_6 : decode cX12_directory 6 = .ok (.if_icmp .ge 23, 3) := by decide +kernel
theorem dX12_directory_9 : decode cX12_directory 9 = .ok (.aload_n 0, 1) := by decide +kernel
theorem dX12_directory_10 : decode cX12_directory 10 = .ok (.getfield 123, 3) := by decide +kernel
theorem dX12_directory_13 : decode cX12_directory 13 = .ok (.iload_n 3, 1) := by decide +kernel
theorem dX12_directory_14 : decode cX12_directory 14 = .ok (.iconst (-1), 1) := by decide +kernel
theorem dX12_directory_15 : decode cX12_directory 15 = .ok (.iastore, 1) := by decide +kernel
theorem dX12_directory_16 : decode cX12_directory 16 = .ok (.aload_n 0, 1) := by decide +kernel
theorem dX12_directory_17 : decode cX12_directory 17 = .ok (.getfield 126, 3) := by decide +kernel
theorem dX12_directory_20 : decode cX12_directory 20 = .ok (.iload_n 3, 1) := by decide +kernel
theorem dX12_directory_21 : decode cX12_directory 21 = .ok (.lconst 0, 1) := by decide +kernel
theorem dX12_directory_22 : decode cX12_directory 22 = .ok (.lastore, 1) := by decide +kernel
theorem dX12_directory_23 : decode cX12_directory 23 = .ok (.iinc 3 1, 3) := by decide +kernel
theorem dX12_directory_26 : decode cX12_directory 26 = .ok (.goto (-24), 3) := by decide +kernel
theorem dX12_directory_29 : decode cX12_directory 29 = .ok (.iconst 0, 1) := by decide +kernel
theorem dX12_directory_30 : decode cX12_directory 30 = .ok (.istore_n 3, 1) := by decide +kernel
theorem dX12_directory_31 : decode cX12_directory 31 = .ok (.iload_n 3, 1) := by decide +kernel
theorem dX12_directory_32 : decode cX12_directory 32 = .ok (.iload_n 2, 1) := by decide +kernel
theorem dX12_directory_33 : decode cX12_directory 33 = .ok (.if_icmp .ge 150, 3) := by decide +kernel
theorem dX12_directory_36 : decode cX12_directory 36 = .ok (.iload_n 1, 1) := by decide +kernel
theorem dX12_directory_37 : decode cX12_directory 37 = .ok (.iconst 2, 1) := by decide +kernel
theorem dX12_directory_38 : decode cX12_directory 38 = .ok (.iadd, 1) := by decide +kernel
theorem dX12_directory_39 : decode cX12_directory 39 = .ok (.bipush 12, 2) := by decide +kernel
theorem dX12_directory_41 : decode cX12_directory 41 = .ok (.iload_n 3, 1) := by decide +kernel
theorem dX12_directory_42 : decode cX12_directory 42 = .ok (.imul, 1) := by decide +kernel
theorem dX12_directory_43 : decode cX12_directory 43 = .ok (.iadd, 1) := by decide +kernel
theorem dX12_directory_44 : decode cX12_directory 44 = .ok (.istore 4, 2) := by decide +kernel
theorem dX12_directory_46 : decode cX12_directory 46 = .ok (.aload_n 0, 1) := by decide +kernel
theorem dX12_directory_47 : decode cX12_directory 47 = .ok (.iload 4, 2) := by decide +kernel
theorem dX12_directory_49 : decode cX12_directory 49 = .ok (.iconst 2, 1) := by decide +kernel
theorem dX12_directory_50 : decode cX12_directory 50 = .ok (.invokevirtual 595, 3) := by decide +kernel
theorem dX12_directory_53 : decode cX12_directory 53 = .ok (.l2i, 1) := by decide +kernel
theorem dX12_directory_54 : decode cX12_directory 54 = .ok (.istore 5, 2) := by decide +kernel
theorem dX12_directory_56 : decode cX12_directory 56 = .ok (.iload 5, 2) := by decide +kernel
theorem dX12_directory_58 : decode cX12_directory 58 = .ok (.invokestatic 616, 3) := by decide +kernel
theorem dX12_directory_61 : decode cX12_directory 61 = .ok (.ifCond .eq 116, 3) := by decide +kernel
theorem dX12_directory_64 : decode cX12_directory 64 = .ok (.aload_n 0, 1) := by decide +kernel
theorem dX12_directory_65 : decode cX12_directory 65 = .ok (.getfield 123, 3) := by decide +kernel
theorem dX12_directory_68 : decode cX12_directory 68 = .ok (.iload 5, 2) := by decide +kernel
theorem dX12_directory_70 : decode cX12_directory 70 = .ok (.iload 4, 2) := by decide +kernel
theorem dX12_directory_72 : decode cX12_directory 72 = .ok (.iastore, 1) := by decide +kernel
theorem dX12_directory_73 : decode cX12_directory 73 = .ok (.iload 5, 2) := by decide +kernel
theorem dX12_directory_75 : decode cX12_directory 75 = .ok (.sipush 273, 3) := by decide +kernel
theorem dX12_directory_78 : decode cX12_directory 78 = .ok (.if_icmp .eq 99, 3) := by decide +kernel
theorem dX12_directory_81 : decode cX12_directory 81 = .ok (.iload 5, 2) := by decide +kernel
theorem dX12_directory_83 : decode cX12_directory 83 = .ok (.sipush 279, 3) := by decide +kernel
theorem dX12_directory_86 : decode cX12_directory 86 = .ok (.if_icmp .eq 91, 3) := by decide +kernel
theorem dX12_directory_89 : decode cX12_directory 89 = .ok (.aload_n 0, 1) := by decide +kernel
theorem dX12_directory_90 : decode cX12_directory 90 = .ok (.iload 4, 2) := by decide +kernel
theorem dX12_directory_92 : decode cX12_directory 92 = .ok (.iconst 2, 1) := by decide +kernel
theorem dX12_directory_93 : decode cX12_directory 93 = .ok (.iadd, 1) := by decide +kernel
theorem dX12_directory_94 : decode cX12_directory 94 = .ok (.iconst 2, 1) := by decide +kernel
theorem dX12_directory_95 : decode cX12_directory 95 = .ok (.invokevirtual 595, 3) := by decide +kernel
theorem dX12_directory_98 : decode cX12_directory 98 = .ok (.lstore 6, 2) := by decide +kernel
theorem dX12_directory_100 : decode cX12_directory 100 = .ok (.lload 6, 2) := by decide +kernel
theorem dX12_directory_102 : decode cX12_directory 102 = .ok (.ldc2_w 610, 3) := by decide +kernel
theorem dX12_directory_105 : decode cX12_directory 105 = .ok (.lcmp, 1) := by decide +kernel
theorem dX12_directory_106 : decode cX12_directory 106 = .ok (.ifCond .eq 12, 3) := by decide +kernel
theorem dX12_directory_109 : decode cX12_directory 109 = .ok (.lload 6, 2) := by decide +kernel
theorem dX12_directory_111 : decode cX12_directory 111 = .ok (.ldc2_w 603, 3) := by decide +kernel
theorem dX12_directory_114 : decode cX12_directory 114 = .ok (.lcmp, 1) := by decide +kernel
theorem dX12_directory_115 : decode cX12_directory 115 = .ok (.ifCond .ne 17, 3) := by decide +kernel
theorem dX12_directory_118 : decode cX12_directory 118 = .ok (.aload_n 0, 1) := by decide +kernel
theorem dX12_directory_119 : decode cX12_directory 119 = .ok (.iload 4, 2) := by decide +kernel
theorem dX12_directory_121 : decode cX12_directory 121 = .ok (.iconst 4, 1) := by decide +kernel
theorem dX12_directory_122 : decode cX12_directory 122 = .ok (.iadd, 1) := by decide +kernel
theorem dX12_directory_123 : decode cX12_directory 123 = .ok (.iconst 4, 1) := by decide +kernel
theorem dX12_directory_124 : decode cX12_directory 124 = .ok (.invokevirtual 595, 3) := by decide +kernel
theorem dX12_directory_127 : decode cX12_directory 127 = .ok (.lconst 1, 1) := by decide +kernel
theorem dX12_directory_128 : decode cX12_directory 128 = .ok (.lcmp, 1) := by decide +kernel
theorem dX12_directory_129 : decode cX12_directory 129 = .ok (.ifCond .eq 11, 3) := by decide +kernel
theorem dX12_directory_132 : decode cX12_directory 132 = .ok (.aload_n 0, 1) := by decide +kernel
theorem dX12_directory_133 : decode cX12_directory 133 = .ok (.iconst 4, 1) := by decide +kernel
theorem dX12_directory_134 : decode cX12_directory 134 = .ok (.iload 4, 2) := by decide +kernel
theorem dX12_directory_136 : decode cX12_directory 136 = .ok (.invokevirtual 592, 3) := by decide +kernel
theorem dX12_directory_139 : decode cX12_directory 139 = .ok (.ireturn, 1) := by decide +kernel
theorem dX12_directory_140 : decode cX12_directory 140 = .ok (.aload_n 0, 1) := by decide +kernel
theorem dX12_directory_141 : decode cX12_directory 141 = .ok (.getfield 126, 3) := by decide +kernel
theorem dX12_directory_144 : decode cX12_directory 144 = .ok (.iload 5, 2) := by decide +kernel
theorem dX12_directory_146 : decode cX12_directory 146 = .ok (.aload_n 0, 1) := by decide +kernel
theorem dX12_directory_147 : decode cX12_directory 147 = .ok (.iload 4, 2) := by decide +kernel
theorem dX12_directory_149 : decode cX12_directory 149 = .ok (.iconst 0, 1) := by decide +kernel
theorem dX12_directory_150 : decode cX12_directory 150 = .ok (.invokevirtual 619, 3) := by decide +kernel
theorem dX12_directory_153 : decode cX12_directory 153 = .ok (.lastore, 1) := by decide +kernel
theorem dX12_directory_154 : decode cX12_directory 154 = .ok (.iload 5, 2) := by decide +kernel
theorem dX12_directory_156 : decode cX12_directory 156 = .ok (.aload_n 0, 1) := by decide +kernel
theorem dX12_directory_157 : decode cX12_directory 157 = .ok (.getfield 126, 3) := by decide +kernel
theorem dX12_directory_160 : decode cX12_directory 160 = .ok (.iload 5, 2) := by decide +kernel
theorem dX12_directory_162 : decode cX12_directory 162 = .ok (.laload, 1) := by decide +kernel
theorem dX12_directory_163 : decode cX12_directory 163 = .ok (.invokestatic 622, 3) := by decide +kernel
theorem dX12_directory_166 : decode cX12_directory 166 = .ok (.ifCond .ne 11, 3) := by decide +kernel
theorem dX12_directory_169 : decode cX12_directory 169 = .ok (.aload_n 0, 1) := by decide +kernel
theorem dX12_directory_170 : decode cX12_directory 170 = .ok (.iconst 4, 1) := by decide +kernel
theorem dX12_directory_171 : decode cX12_directory 171 = .ok (.iload 4, 2) := by decide +kernel
theorem dX12_directory_173 : decode cX12_directory 173 = .ok (.invokevirtual 592, 3) := by decide +kernel
theorem dX12_directory_176 : decode cX12_directory 176 = .ok (.ireturn, 1) := by decide +kernel
theorem dX12_directory_177 : decode cX12_directory 177 = .ok (.iinc 3 1, 3) := by decide +kernel
theorem dX12_directory_180 : decode cX12_directory 180 = .ok (.goto (-149), 3) := by decide +kernel
theorem dX12_directory_183 : decode cX12_directory 183 = .ok (.aload_n 0, 1) := by decide +kernel
theorem dX12_directory_184 : decode cX12_directory 184 = .ok (.getfield 123, 3) := by decide +kernel
theorem dX12_directory_187 : decode cX12_directory 187 = .ok (.sipush 256, 3) := by decide +kernel
theorem dX12_directory_190 : decode cX12_directory 190 = .ok (.iaload, 1) := by decide +kernel
theorem dX12_directory_191 : decode cX12_directory 191 = .ok (.iconst (-1), 1) := by decide +kernel
theorem dX12_directory_192 : decode cX12_directory 192 = .ok (.if_icmp .eq 63, 3) := by decide +kernel
theorem dX12_directory_195 : decode cX12_directory 195 = .ok (.aload_n 0, 1) := by decide +kernel
theorem dX12_directory_196 : decode cX12_directory 196 = .ok (.getfield 123, 3) := by decide +kernel
theorem dX12_directory_199 : decode cX12_directory 199 = .ok (.sipush 257, 3) := by decide +kernel
theorem dX12_directory_202 : decode cX12_directory 202 = .ok (.iaload, 1) := by decide +kernel
theorem dX12_directory_203 : decode cX12_directory 203 = .ok (.iconst (-1), 1) := by decide +kernel
theorem dX12_directory_204 : decode cX12_directory 204 = .ok (.if_icmp .eq 51, 3) := by decide +kernel
theorem dX12_directory_207 : decode cX12_directory 207 = .ok (.aload_n 0, 1) := by decide +kernel
theorem dX12_directory_208 : decode cX12_directory 208 = .ok (.getfield 123, 3) := by decide +kernel
theorem dX12_directory_211 : decode cX12_directory 211 = .ok (.sipush 259, 3) := by decide +kernel
theorem dX12_directory_214 : decode cX12_directory 214 = .ok (.iaload, 1) := by decide +kernel
theorem dX12_directory_215 : decode cX12_directory 215 = .ok (.iconst (-1), 1) := by decide +kernel
theorem dX12_directory_216 : decode cX12_directory 216 = .ok (.if_icmp .eq 39, 3) := by decide +kernel
theorem dX12_directory_219 : decode cX12_directory 219 = .ok (.aload_n 0, 1) := by decide +kernel
theorem dX12_directory_220 : decode cX12_directory 220 = .ok (.getfield 123, 3) := by decide +kernel
theorem dX12_directory_223 : decode cX12_directory 223 = .ok (.sipush 262, 3) := by decide +kernel
theorem dX12_directory_226 : decode cX12_directory 226 = .ok (.iaload, 1) := by decide +kernel
theorem dX12_directory_227 : decode cX12_directory 227 = .ok (.iconst (-1), 1) := by decide +kernel
theorem dX12_directory_228 : decode cX12_directory 228 = .ok (.if_icmp .eq 27, 3) := by decide +kernel
theorem dX12_directory_231 : decode cX12_directory 231 = .ok (.aload_n 0, 1) := by decide +kernel
theorem dX12_directory_232 : decode cX12_directory 232 = .ok (.getfield 123, 3) := by decide +kernel
theorem dX12_directory_235 : decode cX12_directory 235 = .ok (.sipush 273, 3) := by decide +kernel
theorem dX12_directory_238 : decode cX12_directory 238 = .ok (.iaload, 1) := by decide +kernel
theorem dX12_directory_239 : decode cX12_directory 239 = .ok (.iconst (-1), 1) := by decide +kernel
theorem dX12_directory_240 : decode cX12_directory 240 = .ok (.if_icmp .eq 15, 3) := by decide +kernel
theorem dX12_directory_243 : decode cX12_directory 243 = .ok (.aload_n 0, 1) := by decide +kernel
theorem dX12_directory_244 : decode cX12_directory 244 = .ok (.getfield 123, 3) := by decide +kernel
theorem dX12_directory_247 : decode cX12_directory 247 = .ok (.sipush 279, 3) := by decide +kernel
theorem dX12_directory_250 : decode cX12_directory 250 = .ok (.iaload, 1) := by decide +kernel
theorem dX12_directory_251 : decode cX12_directory 251 = .ok (.iconst (-1), 1) := by decide +kernel
theorem dX12_directory_252 : decode cX12_directory 252 = .ok (.if_icmp .ne 10, 3) := by decide +kernel
theorem dX12_directory_255 : decode cX12_directory 255 = .ok (.aload_n 0, 1) := by decide +kernel
theorem dX12_directory_256 : decode cX12_directory 256 = .ok (.iconst 4, 1) := by decide +kernel
theorem dX12_directory_257 : decode cX12_directory 257 = .ok (.iload_n 1, 1) := by decide +kernel
theorem dX12_directory_258 : decode cX12_directory 258 = .ok (.invokevirtual 592, 3) := by decide +kernel
theorem dX12_directory_261 : decode cX12_directory 261 = .ok (.ireturn, 1) := by decide +kernel
theorem dX12_directory_262 : decode cX12_directory 262 = .ok (.aload_n 0, 1) := by decide +kernel
theorem dX12_directory_263 : decode cX12_directory 263 = .ok (.getfield 126, 3) := by decide +kernel
theorem dX12_directory_266 : decode cX12_directory 266 = .ok (.sipush 256, 3) := by decide +kernel
theorem dX12_directory_269 : decode cX12_directory 269 = .ok (.laload, 1) := by decide +kernel
theorem dX12_directory_270 : decode cX12_directory 270 = .ok (.l2i, 1) := by decide +kernel
theorem dX12_directory_271 : decode cX12_directory 271 = .ok (.istore_n 3, 1) := by decide +kernel
theorem dX12_directory_272 : decode cX12_directory 272 = .ok (.aload_n 0, 1) := by decide +kernel
theorem dX12_directory_273 : decode cX12_directory 273 = .ok (.getfield 126, 3) := by decide +kernel
theorem dX12_directory_276 : decode cX12_directory 276 = .ok (.sipush 257, 3) := by decide +kernel
theorem dX12_directory_279 : decode cX12_directory 279 = .ok (.laload, 1) := by decide +kernel
theorem dX12_directory_280 : decode cX12_directory 280 = .ok (.l2i, 1) := by decide +kernel
theorem dX12_directory_281 : decode cX12_directory 281 = .ok (.istore 4, 2) := by decide +kernel
theorem dX12_directory_283 : decode cX12_directory 283 = .ok (.aload_n 0, 1) := by decide +kernel
theorem dX12_directory_284 : decode cX12_directory 284 = .ok (.getfield 123, 3) := by decide +kernel
theorem dX12_directory_287 : decode cX12_directory 287 = .ok (.sipush 278, 3) := by decide +kernel
theorem dX12_directory_290 : decode cX12_directory 290 = .ok (.iaload, 1) := by decide +kernel
theorem dX12_directory_291 : decode cX12_directory 291 = .ok (.iconst (-1), 1) := by decide +kernel
theorem dX12_directory_292 : decode cX12_directory 292 = .ok (.if_icmp .ne 9, 3) := by decide +kernel
theorem dX12_directory_295 : decode cX12_directory 295 = .ok (.iload 4, 2) := by decide +kernel
theorem dX12_directory_297 : decode cX12_directory 297 = .ok (.i2l, 1) := by decide +kernel
theorem dX12_directory_298 : decode cX12_directory 298 = .ok (.goto 11, 3) := by decide +kernel
theorem dX12_directory_301 : decode cX12_directory 301 = .ok (.aload_n 0, 1) := by decide +kernel
theorem dX12_directory_302 : decode cX12_directory 302 = .ok (.getfield 126, 3) := by decide +kernel
theorem dX12_directory_305 : decode cX12_directory 305 = .ok (.sipush 278, 3) := by decide +kernel
theorem dX12_directory_308 : decode cX12_directory 308 = .ok (.laload, 1) := by decide +kernel
theorem dX12_directory_309 : decode cX12_directory 309 = .ok (.lstore 5, 2) := by decide +kernel
theorem dX12_directory_311 : decode cX12_directory 311 = .ok (.lload 5, 2) := by decide +kernel
theorem dX12_directory_313 : decode cX12_directory 313 = .ok (.iload 4, 2) := by decide +kernel
theorem dX12_directory_315 : decode cX12_directory 315 = .ok (.i2l, 1) := by decide +kernel
theorem dX12_directory_316 : decode cX12_directory 316 = .ok (.lcmp, 1) := by decide +kernel
theorem dX12_directory_317 : decode cX12_directory 317 = .ok (.ifCond .lt 7, 3) := by decide +kernel
theorem dX12_directory_320 : decode cX12_directory 320 = .ok (.iconst 1, 1) := by decide +kernel
theorem dX12_directory_321 : decode cX12_directory 321 = .ok (.goto 15, 3) := by decide +kernel
theorem dX12_directory_324 : decode cX12_directory 324 = .ok (.iload 4, 2) := by decide +kernel
theorem dX12_directory_326 : decode cX12_directory 326 = .ok (.i2l, 1) := by decide +kernel
theorem dX12_directory_327 : decode cX12_directory 327 = .ok (.lload 5, 2) := by decide +kernel
theorem dX12_directory_329 : decode cX12_directory 329 = .ok (.ladd, 1) := by decide +kernel
theorem dX12_directory_330 : decode cX12_directory 330 = .ok (.lconst 1, 1) := by decide +kernel
theorem dX12_directory_331 : decode cX12_directory 331 = .ok (.lsub, 1) := by decide +kernel
theorem dX12_directory_332 : decode cX12_directory 332 = .ok (.lload 5, 2) := by decide +kernel
theorem dX12_directory_334 : decode cX12_directory 334 = .ok (.ldiv, 1) := by decide +kernel
theorem dX12_directory_335 : decode cX12_directory 335 = .ok (.l2i, 1) := by decide +kernel
theorem dX12_directory_336 : decode cX12_directory 336 = .ok (.istore 7, 2) := by decide +kernel
theorem dX12_directory_338 : decode cX12_directory 338 = .ok (.sipush 273, 3) := by decide +kernel
theorem dX12_directory_341 : decode cX12_directory 341 = .ok (.istore 8, 2) := by decide +kernel
theorem dX12_directory_343 : decode cX12_directory 343 = .ok (.iload 8, 2) := by decide +kernel
theorem dX12_directory_345 : decode cX12_directory 345 = .ok (.sipush 279, 3) := by decide +kernel
theorem dX12_directory_348 : decode cX12_directory 348 = .ok (.if_icmp .gt 194, 3) := by decide +kernel
theorem dX12_directory_351 : decode cX12_directory 351 = .ok (.aload_n 0, 1) := by decide +kernel
theorem dX12_directory_352 : decode cX12_directory 352 = .ok (.getfield 123, 3) := by decide +kernel
theorem dX12_directory_355 : decode cX12_directory 355 = .ok (.iload 8, 2) := by decide +kernel
theorem dX12_directory_357 : decode cX12_directory 357 = .ok (.iaload, 1) := by decide +kernel
theorem dX12_directory_358 : decode cX12_directory 358 = .ok (.istore 9, 2) := by decide +kernel
theorem dX12_directory_360 : decode cX12_directory 360 = .ok (.aload_n 0, 1) := by decide +kernel
theorem dX12_directory_361 : decode cX12_directory 361 = .ok (.iload 9, 2) := by decide +kernel
theorem dX12_directory_363 : decode cX12_directory 363 = .ok (.iconst 2, 1) := by decide +kernel
theorem dX12_directory_364 : decode cX12_directory 364 = .ok (.iadd, 1) := by decide +kernel
theorem dX12_directory_365 : decode cX12_directory 365 = .ok (.iconst 2, 1) := by decide +kernel
theorem dX12_directory_366 : decode cX12_directory 366 = .ok (.invokevirtual 595, 3) := by decide +kernel
theorem dX12_directory_369 : decode cX12_directory 369 = .ok (.lstore 10, 2) := by decide +kernel
theorem dX12_directory_371 : decode cX12_directory 371 = .ok (.aload_n 0, 1) := by decide +kernel
theorem dX12_directory_372 : decode cX12_directory 372 = .ok (.iload 9, 2) := by decide +kernel
theorem dX12_directory_374 : decode cX12_directory 374 = .ok (.iconst 4, 1) := by decide +kernel
theorem dX12_directory_375 : decode cX12_directory 375 = .ok (.iadd, 1) := by decide +kernel
theorem dX12_directory_376 : decode cX12_directory 376 = .ok (.iconst 4, 1) := by decide +kernel
theorem dX12_directory_377 : decode cX12_directory 377 = .ok (.invokevirtual 595, 3) := by decide +kernel
theorem dX12_directory_380 : decode cX12_directory 380 = .ok (.lstore 12, 2) := by decide +kernel
theorem dX12_directory_382 : decode cX12_directory 382 = .ok (.lload 10, 2) := by decide +kernel
theorem dX12_directory_384 : decode cX12_directory 384 = .ok (.ldc2_w 610, 3) := by decide +kernel
theorem dX12_directory_387 : decode cX12_directory 387 = .ok (.lcmp, 1) := by decide +kernel
theorem dX12_directory_388 : decode cX12_directory 388 = .ok (.ifCond .ne 7, 3) := by decide +kernel
theorem dX12_directory_391 : decode cX12_directory 391 = .ok (.iconst 2, 1) := by decide +kernel
theorem dX12_directory_392 : decode cX12_directory 392 = .ok (.goto 4, 3) := by decide +kernel
theorem dX12_directory_395 : decode cX12_directory 395 = .ok (.iconst 4, 1) := by decide +kernel
theorem dX12_directory_396 : decode cX12_directory 396 = .ok (.istore 14, 2) := by decide +kernel
theorem dX12_directory_398 : decode cX12_directory 398 = .ok (.lload 10, 2) := by decide +kernel
theorem dX12_directory_400 : decode cX12_directory 400 = .ok (.ldc2_w 610, 3) := by decide +kernel
theorem dX12_directory_403 : decode cX12_directory 403 = .ok (.lcmp, 1) := by decide +kernel
theorem dX12_directory_404 : decode cX12_directory 404 = .ok (.ifCond .eq 12, 3) := by decide +kernel
theorem dX12_directory_407 : decode cX12_directory 407 = .ok (.lload 10, 2) := by decide +kernel
theorem dX12_directory_409 : decode cX12_directory 409 = .ok (.ldc2_w 603, 3) := by decide +kernel
theorem dX12_directory_412 : decode cX12_directory 412 = .ok (.lcmp, 1) := by decide +kernel
theorem dX12_directory_413 : decode cX12_directory 413 = .ok (.ifCond .ne 58, 3) := by decide +kernel
theorem dX12_directory_416 : decode cX12_directory 416 = .ok (.lload 12, 2) := by decide +kernel
theorem dX12_directory_418 : decode cX12_directory 418 = .ok (.iload 7, 2) := by decide +kernel
theorem dX12_directory_420 : decode cX12_directory 420 = .ok (.i2l, 1) := by decide +kernel
theorem dX12_directory_421 : decode cX12_directory 421 = .ok (.lcmp, 1) := by decide +kernel
theorem dX12_directory_422 : decode cX12_directory 422 = .ok (.ifCond .ne 49, 3) := by decide +kernel
theorem dX12_directory_425 : decode cX12_directory 425 = .ok (.iload 7, 2) := by decide +kernel
theorem dX12_directory_427 : decode cX12_directory 427 = .ok (.bipush 40, 2) := by decide +kernel
theorem dX12_directory_429 : decode cX12_directory 429 = .ok (.if_icmp .gt 42, 3) := by decide +kernel
theorem dX12_directory_432 : decode cX12_directory 432 = .ok (.lload 12, 2) := by decide +kernel
theorem dX12_directory_434 : decode cX12_directory 434 = .ok (.iload 14, 2) := by decide +kernel
theorem dX12_directory_436 : decode cX12_directory 436 = .ok (.i2l, 1) := by decide +kernel
theorem dX12_directory_437 : decode cX12_directory 437 = .ok (.lmul, 1) := by decide +kernel
theorem dX12_directory_438 : decode cX12_directory 438 = .ok (.ldc2_w 603, 3) := by decide +kernel
theorem dX12_directory_441 : decode cX12_directory 441 = .ok (.lcmp, 1) := by decide +kernel
theorem dX12_directory_442 : decode cX12_directory 442 = .ok (.ifCond .le 37, 3) := by decide +kernel
theorem dX12_directory_445 : decode cX12_directory 445 = .ok (.aload_n 0, 1) := by decide +kernel
theorem dX12_directory_446 : decode cX12_directory 446 = .ok (.iload 9, 2) := by decide +kernel
theorem dX12_directory_448 : decode cX12_directory 448 = .ok (.bipush 8, 2) := by decide +kernel
theorem dX12_directory_450 : decode cX12_directory 450 = .ok (.iadd, 1) := by decide +kernel
theorem dX12_directory_451 : decode cX12_directory 451 = .ok (.iconst 4, 1) := by decide +kernel
theorem dX12_directory_452 : decode cX12_directory 452 = .ok (.invokevirtual 595, 3) := by decide +kernel
theorem dX12_directory_455 : decode cX12_directory 455 = .ok (.lload 12, 2) := by decide +kernel
theorem dX12_directory_457 : decode cX12_directory 457 = .ok (.iload 14, 2) := by decide +kernel
theorem dX12_directory_459 : decode cX12_directory 459 = .ok (.i2l, 1) := by decide +kernel
theorem dX12_directory_460 : decode cX12_directory 460 = .ok (.lmul, 1) := by decide +kernel
theorem dX12_directory_461 : decode cX12_directory 461 = .ok (.ladd, 1) := by decide +kernel
theorem dX12_directory_462 : decode cX12_directory 462 = .ok (.aload_n 0, 1) := by decide +kernel
theorem dX12_directory_463 : decode cX12_directory 463 = .ok (.getfield 589, 3) := by decide +kernel
theorem dX12_directory_466 : decode cX12_directory 466 = .ok (.i2l, 1) := by decide +kernel
theorem dX12_directory_467 : decode cX12_directory 467 = .ok (.lcmp, 1) := by decide +kernel
theorem dX12_directory_468 : decode cX12_directory 468 = .ok (.ifCond .le 11, 3) := by decide +kernel
theorem dX12_directory_471 : decode cX12_directory 471 = .ok (.aload_n 0, 1) := by decide +kernel
theorem dX12_directory_472 : decode cX12_directory 472 = .ok (.iconst 4, 1) := by decide +kernel
theorem dX12_directory_473 : decode cX12_directory 473 = .ok (.iload 9, 2) := by decide +kernel
theorem dX12_directory_475 : decode cX12_directory 475 = .ok (.invokevirtual 592, 3) := by decide +kernel
theorem dX12_directory_478 : decode cX12_directory 478 = .ok (.ireturn, 1) := by decide +kernel
theorem dX12_directory_479 : decode cX12_directory 479 = .ok (.iconst 0, 1) := by decide +kernel
theorem dX12_directory_480 : decode cX12_directory 480 = .ok (.istore 15, 2) := by decide +kernel
theorem dX12_directory_482 : decode cX12_directory 482 = .ok (.iload 15, 2) := by decide +kernel
theorem dX12_directory_484 : decode cX12_directory 484 = .ok (.iload 7, 2) := by decide +kernel
theorem dX12_directory_486 : decode cX12_directory 486 = .ok (.if_icmp .ge 50, 3) := by decide +kernel
theorem dX12_directory_489 : decode cX12_directory 489 = .ok (.iload 8, 2) := by decide +kernel
theorem dX12_directory_491 : decode cX12_directory 491 = .ok (.sipush 273, 3) := by decide +kernel
theorem dX12_directory_494 : decode cX12_directory 494 = .ok (.if_icmp .ne 21, 3) := by decide +kernel
theorem dX12_directory_497 : decode cX12_directory 497 = .ok (.aload_n 0, 1) := by decide +kernel
theorem dX12_directory_498 : decode cX12_directory 498 = .ok (.getfield 130, 3) := by decide +kernel
theorem dX12_directory_501 : decode cX12_directory 501 = .ok (.iload 15, 2) := by decide +kernel
theorem dX12_directory_503 : decode cX12_directory 503 = .ok (.aload_n 0, 1) := by decide +kernel
theorem dX12_directory_504 : decode cX12_directory 504 = .ok (.iload 9, 2) := by decide +kernel
theorem dX12_directory_506 : decode cX12_directory 506 = .ok (.iload 15, 2) := by decide +kernel
theorem dX12_directory_508 : decode cX12_directory 508 = .ok (.invokevirtual 619, 3) := by decide +kernel
theorem dX12_directory_511 : decode cX12_directory 511 = .ok (.lastore, 1) := by decide +kernel
theorem dX12_directory_512 : decode cX12_directory 512 = .ok (.goto 18, 3) := by decide +kernel
theorem dX12_directory_515 : decode cX12_directory 515 = .ok (.aload_n 0, 1) := by decide +kernel
theorem dX12_directory_516 : decode cX12_directory 516 = .ok (.getfield 133, 3) := by decide +kernel
theorem dX12_directory_519 : decode cX12_directory 519 = .ok (.iload 15, 2) := by decide +kernel
theorem dX12_directory_521 : decode cX12_directory 521 = .ok (.aload_n 0, 1) := by decide +kernel
theorem dX12_directory_522 : decode cX12_directory 522 = .ok (.iload 9, 2) := by decide +kernel
theorem dX12_directory_524 : decode cX12_directory 524 = .ok (.iload 15, 2) := by decide +kernel
theorem dX12_directory_526 : decode cX12_directory 526 = .ok (.invokevirtual 619, 3) := by decide +kernel
theorem dX12_directory_529 : decode cX12_directory 529 = .ok (.lastore, 1) := by decide +kernel
theorem dX12_directory_530 : decode cX12_directory 530 = .ok (.iinc 15 1, 3) := by decide +kernel
theorem dX12_directory_533 : decode cX12_directory 533 = .ok (.goto (-51), 3) := by decide +kernel
theorem dX12_directory_536 : decode cX12_directory 536 = .ok (.iinc 8 6, 3) := by decide +kernel
theorem dX12_directory_539 : decode cX12_directory 539 = .ok (.goto (-196), 3) := by decide +kernel
theorem dX12_directory_542 : decode cX12_directory 542 = .ok (.aload_n 0, 1) := by decide +kernel
theorem dX12_directory_543 : decode cX12_directory 543 = .ok (.invokevirtual 241, 3) := by decide +kernel
theorem dX12_directory_546 : decode cX12_directory 546 = .ok (.iconst 0, 1) := by decide +kernel
theorem dX12_directory_547 : decode cX12_directory 547 = .ok (.istore 8, 2) := by decide +kernel
theorem dX12_directory_549 : decode cX12_directory 549 = .ok (.iconst 0, 1) := by decide +kernel
theorem dX12_directory_550 : decode cX12_directory 550 = .ok (.istore 9, 2) := by decide +kernel
theorem dX12_directory_552 : decode cX12_directory 552 = .ok (.iload 9, 2) := by decide +kernel
theorem dX12_directory_554 : decode cX12_directory 554 = .ok (.iload 7, 2) := by decide +kernel
theorem dX12_directory_556 : decode cX12_directory 556 = .ok (.if_icmp .ge 301, 3) := by decide +kernel
theorem dX12_directory_559 : decode cX12_directory 559 = .ok (.aload_n 0, 1) := by decide +kernel
theorem dX12_directory_560 : decode cX12_directory 560 = .ok (.getfield 130, 3) := by decide +kernel
theorem dX12_directory_563 : decode cX12_directory 563 = .ok (.iload 9, 2) := by decide +kernel
theorem dX12_directory_565 : decode cX12_directory 565 = .ok (.laload, 1) := by decide +kernel
theorem dX12_directory_566 : decode cX12_directory 566 = .ok (.aload_n 0, 1) := by decide +kernel
theorem dX12_directory_567 : decode cX12_directory 567 = .ok (.getfield 133, 3) := by decide +kernel
theorem dX12_directory_570 : decode cX12_directory 570 = .ok (.iload 9, 2) := by decide +kernel
theorem dX12_directory_572 : decode cX12_directory 572 = .ok (.laload, 1) := by decide +kernel
theorem dX12_directory_573 : decode cX12_directory 573 = .ok (.ladd, 1) := by decide +kernel
theorem dX12_directory_574 : decode cX12_directory 574 = .ok (.aload_n 0, 1) := by decide +kernel
theorem dX12_directory_575 : decode cX12_directory 575 = .ok (.getfield 589, 3) := by decide +kernel
theorem dX12_directory_578 : decode cX12_directory 578 = .ok (.i2l, 1) := by decide +kernel
theorem dX12_directory_579 : decode cX12_directory 579 = .ok (.lcmp, 1) := by decide +kernel
theorem dX12_directory_580 : decode cX12_directory 580 = .ok (.ifCond .le 40, 3) := by decide +kernel
theorem dX12_directory_583 : decode cX12_directory 583 = .ok (.aload_n 0, 1) := by decide +kernel
theorem dX12_directory_584 : decode cX12_directory 584 = .ok (.iconst 5, 1) := by decide +kernel
theorem dX12_directory_585 : decode cX12_directory 585 = .ok (.aload_n 0, 1) := by decide +kernel
theorem dX12_directory_586 : decode cX12_directory 586 = .ok (.getfield 130, 3) := by decide +kernel
theorem dX12_directory_589 : decode cX12_directory 589 = .ok (.iload 9, 2) := by decide +kernel
theorem dX12_directory_591 : decode cX12_directory 591 = .ok (.laload, 1) := by decide +kernel
theorem dX12_directory_592 : decode cX12_directory 592 = .ok (.aload_n 0, 1) := by decide +kernel
theorem dX12_directory_593 : decode cX12_directory 593 = .ok (.getfield 589, 3) := by decide +kernel
theorem dX12_directory_596 : decode cX12_directory 596 = .ok (.i2l, 1) := by decide +kernel
theorem dX12_directory_597 : decode cX12_directory 597 = .ok (.lcmp, 1) := by decide +kernel
theorem dX12_directory_598 : decode cX12_directory 598 = .ok (.ifCond .le 10, 3) := by decide +kernel
theorem dX12_directory_601 : decode cX12_directory 601 = .ok (.aload_n 0, 1) := by decide +kernel
theorem dX12_directory_602 : decode cX12_directory 602 = .ok (.getfield 589, 3) := by decide +kernel
theorem dX12_directory_605 : decode cX12_directory 605 = .ok (.goto 11, 3) := by decide +kernel
theorem dX12_directory_608 : decode cX12_directory 608 = .ok (.aload_n 0, 1) := by decide +kernel
theorem dX12_directory_609 : decode cX12_directory 609 = .ok (.getfield 130, 3) := by decide +kernel
theorem dX12_directory_612 : decode cX12_directory 612 = .ok (.iload 9, 2) := by decide +kernel
theorem dX12_directory_614 : decode cX12_directory 614 = .ok (.laload, 1) := by decide +kernel
theorem dX12_directory_615 : decode cX12_directory 615 = .ok (.l2i, 1) := by decide +kernel
theorem dX12_directory_616 : decode cX12_directory 616 = .ok (.invokevirtual 592, 3) := by decide +kernel
theorem dX12_directory_619 : decode cX12_directory 619 = .ok (.ireturn, 1) := by decide +kernel
theorem dX12_directory_620 : decode cX12_directory 620 = .ok (.iconst 0, 1) := by decide +kernel
theorem dX12_directory_621 : decode cX12_directory 621 = .ok (.istore 10, 2) := by decide +kernel
theorem dX12_directory_623 : decode cX12_directory 623 = .ok (.iload 10, 2) := by decide +kernel
theorem dX12_directory_625 : decode cX12_directory 625 = .ok (.iload_n 3, 1) := by decide +kernel
theorem dX12_directory_626 : decode cX12_directory 626 = .ok (.if_icmp .ge 17, 3) := by decide +kernel
theorem dX12_directory_629 : decode cX12_directory 629 = .ok (.aload_n 0, 1) := by decide +kernel
theorem dX12_directory_630 : decode cX12_directory 630 = .ok (.getfield 114, 3) := by decide +kernel
theorem dX12_directory_633 : decode cX12_directory 633 = .ok (.iload 10, 2) := by decide +kernel
theorem dX12_directory_635 : decode cX12_directory 635 = .ok (.iconst 0, 1) := by decide +kernel
theorem dX12_directory_636 : decode cX12_directory 636 = .ok (.iastore, 1) := by decide +kernel
theorem dX12_directory_637 : decode cX12_directory 637 = .ok (.iinc 10 1, 3) := by decide +kernel
theorem dX12_directory_640 : decode cX12_directory 640 = .ok (.goto (-17), 3) := by decide +kernel
theorem dX12_directory_643 : decode cX12_directory 643 = .ok (.aload_n 0, 1) := by decide +kernel
theorem dX12_directory_644 : decode cX12_directory 644 = .ok (.aload_n 0, 1) := by decide +kernel
theorem dX12_directory_645 : decode cX12_directory 645 = .ok (.getfield 130, 3) := by decide +kernel
theorem dX12_directory_648 : decode cX12_directory 648 = .ok (.iload 9, 2) := by decide +kernel
theorem dX12_directory_650 : decode cX12_directory 650 = .ok (.laload, 1) := by decide +kernel
theorem dX12_directory_651 : decode cX12_directory 651 = .ok (.l2i, 1) := by decide +kernel
theorem dX12_directory_652 : decode cX12_directory 652 = .ok (.putfield 626, 3) := by decide +kernel
theorem dX12_directory_655 : decode cX12_directory 655 = .ok (.aload_n 0, 1) := by decide +kernel
theorem dX12_directory_656 : decode cX12_directory 656 = .ok (.ldc2_w 313, 3) := by decide +kernel
theorem dX12_directory_659 : decode cX12_directory 659 = .ok (.aload_n 0, 1) := by decide +kernel
theorem dX12_directory_660 : decode cX12_directory 660 = .ok (.getfield 133, 3) := by decide +kernel
theorem dX12_directory_663 : decode cX12_directory 663 = .ok (.iload 9, 2) := by decide +kernel
theorem dX12_directory_665 : decode cX12_directory 665 = .ok (.laload, 1) := by decide +kernel
theorem dX12_directory_666 : decode cX12_directory 666 = .ok (.lmul, 1) := by decide +kernel
theorem dX12_directory_667 : decode cX12_directory 667 = .ok (.putfield 629, 3) := by decide +kernel
theorem dX12_directory_670 : decode cX12_directory 670 = .ok (.aload_n 0, 1) := by decide +kernel
theorem dX12_directory_671 : decode cX12_directory 671 = .ok (.lconst 0, 1) := by decide +kernel
theorem dX12_directory_672 : decode cX12_directory 672 = .ok (.putfield 632, 3) := by decide +kernel
theorem dX12_directory_675 : decode cX12_directory 675 = .ok (.aload_n 0, 1) := by decide +kernel
theorem dX12_directory_676 : decode cX12_directory 676 = .ok (.aload_n 0, 1) := by decide +kernel
theorem dX12_directory_677 : decode cX12_directory 677 = .ok (.getfield 126, 3) := by decide +kernel
theorem dX12_directory_680 : decode cX12_directory 680 = .ok (.sipush 266, 3) := by decide +kernel
theorem dX12_directory_683 : decode cX12_directory 683 = .ok (.laload, 1) := by decide +kernel
theorem dX12_directory_684 : decode cX12_directory 684 = .ok (.ldc2_w 356, 3) := by decide +kernel
theorem dX12_directory_687 : decode cX12_directory 687 = .ok (.lcmp, 1) := by decide +kernel
theorem dX12_directory_688 : decode cX12_directory 688 = .ok (.ifCond .ne 7, 3) := by decide +kernel
theorem dX12_directory_691 : decode cX12_directory 691 = .ok (.iconst 1, 1) := by decide +kernel
theorem dX12_directory_692 : decode cX12_directory 692 = .ok (.goto 4, 3) := by decide +kernel
theorem dX12_directory_695 : decode cX12_directory 695 = .ok (.iconst 0, 1) := by decide +kernel
theorem dX12_directory_696 : decode cX12_directory 696 = .ok (.putfield 635, 3) := by decide +kernel
theorem dX12_directory_699 : decode cX12_directory 699 = .ok (.aload_n 0, 1) := by decide +kernel
theorem dX12_directory_700 : decode cX12_directory 700 = .ok (.iload_n 3, 1) := by decide +kernel
theorem dX12_directory_701 : decode cX12_directory 701 = .ok (.putfield 528, 3) := by decide +kernel
theorem dX12_directory_704 : decode cX12_directory 704 = .ok (.lconst 0, 1) := by decide +kernel
theorem dX12_directory_705 : decode cX12_directory 705 = .ok (.lstore 10, 2) := by decide +kernel
theorem dX12_directory_707 : decode cX12_directory 707 = .ok (.lload 10, 2) := by decide +kernel
theorem dX12_directory_709 : decode cX12_directory 709 = .ok (.lload 5, 2) := by decide +kernel
theorem dX12_directory_711 : decode cX12_directory 711 = .ok (.lcmp, 1) := by decide +kernel
theorem dX12_directory_712 : decode cX12_directory 712 = .ok (.ifCond .ge 139, 3) := by decide +kernel
theorem dX12_directory_715 : decode cX12_directory 715 = .ok (.iload 8, 2) := by decide +kernel
theorem dX12_directory_717 : decode cX12_directory 717 = .ok (.iload 4, 2) := by decide +kernel
theorem dX12_directory_719 : decode cX12_directory 719 = .ok (.if_icmp .ge 132, 3) := by decide +kernel
theorem dX12_directory_722 : decode cX12_directory 722 = .ok (.aload_n 0, 1) := by decide +kernel
theorem dX12_directory_723 : decode cX12_directory 723 = .ok (.invokevirtual 638, 3) := by decide +kernel
theorem dX12_directory_726 : decode cX12_directory 726 = .ok (.ifCond .ne 13, 3) := by decide +kernel
theorem dX12_directory_729 : decode cX12_directory 729 = .ok (.aload_n 0, 1) := by decide +kernel
theorem dX12_directory_730 : decode cX12_directory 730 = .ok (.iconst 5, 1) := by decide +kernel
theorem dX12_directory_731 : decode cX12_directory 731 = .ok (.aload_n 0, 1) := by decide +kernel
theorem dX12_directory_732 : decode cX12_directory 732 = .ok (.getfield 626, 3) := by decide +kernel
theorem dX12_directory_735 : decode cX12_directory 735 = .ok (.invokevirtual 592, 3) := by decide +kernel
theorem dX12_directory_738 : decode cX12_directory 738 = .ok (.ireturn, 1) := by decide +kernel
theorem dX12_directory_739 : decode cX12_directory 739 = .ok (.iconst 0, 1) := by decide +kernel
theorem dX12_directory_740 : decode cX12_directory 740 = .ok (.istore 12, 2) := by decide +kernel
theorem dX12_directory_742 : decode cX12_directory 742 = .ok (.iload 12, 2) := by decide +kernel
theorem dX12_directory_744 : decode cX12_directory 744 = .ok (.iload_n 3, 1) := by decide +kernel
theorem dX12_directory_745 : decode cX12_directory 745 = .ok (.if_icmp .ge 94, 3) := by decide +kernel
theorem dX12_directory_748 : decode cX12_directory 748 = .ok (.aload_n 0, 1) := by decide +kernel
theorem dX12_directory_749 : decode cX12_directory 749 = .ok (.getfield 114, 3) := by decide +kernel
theorem dX12_directory_752 : decode cX12_directory 752 = .ok (.iload 12, 2) := by decide +kernel
theorem dX12_directory_754 : decode cX12_directory 754 = .ok (.aload_n 0, 1) := by decide +kernel
theorem dX12_directory_755 : decode cX12_directory 755 = .ok (.getfield 117, 3) := by decide +kernel
theorem dX12_directory_758 : decode cX12_directory 758 = .ok (.iload 12, 2) := by decide +kernel
theorem dX12_directory_760 : decode cX12_directory 760 = .ok (.iaload, 1) := by decide +kernel
theorem dX12_directory_761 : decode cX12_directory 761 = .ok (.iastore, 1) := by decide +kernel
theorem dX12_directory_762 : decode cX12_directory 762 = .ok (.aload_n 0, 1) := by decide +kernel
theorem dX12_directory_763 : decode cX12_directory 763 = .ok (.getfield 117, 3) := by decide +kernel
theorem dX12_directory_766 : decode cX12_directory 766 = .ok (.iload 12, 2) := by decide +kernel
theorem dX12_directory_768 : decode cX12_directory 768 = .ok (.iaload, 1) := by decide +kernel
theorem dX12_directory_769 : decode cX12_directory 769 = .ok (.aload_n 0, 1) := by decide +kernel
theorem dX12_directory_770 : decode cX12_directory 770 = .ok (.getfield 126, 3) := by decide +kernel
theorem dX12_directory_773 : decode cX12_directory 773 = .ok (.sipush 262, 3) := by decide +kernel
theorem dX12_directory_776 : decode cX12_directory 776 = .ok (.laload, 1) := by decide +kernel
theorem dX12_directory_777 : decode cX12_directory 777 = .ok (.lconst 0, 1) := by decide +kernel
theorem dX12_directory_778 : decode cX12_directory 778 = .ok (.lcmp, 1) := by decide +kernel
theorem dX12_directory_779 : decode cX12_directory 779 = .ok (.ifCond .ne 7, 3) := by decide +kernel
theorem dX12_directory_782 : decode cX12_directory 782 = .ok (.iconst 1, 1) := by decide +kernel
theorem dX12_directory_783 : decode cX12_directory 783 = .ok (.goto 4, 3) := by decide +kernel
theorem dX12_directory_786 : decode cX12_directory 786 = .ok (.iconst 0, 1) := by decide +kernel
theorem dX12_directory_787 : decode cX12_directory 787 = .ok (.if_icmp .ne 46, 3) := by decide +kernel
theorem dX12_directory_790 : decode cX12_directory 790 = .ok (.aload_n 0, 1) := by decide +kernel
theorem dX12_directory_791 : decode cX12_directory 791 = .ok (.getfield 82, 3) := by decide +kernel
theorem dX12_directory_794 : decode cX12_directory 794 = .ok (.bipush 80, 2) := by decide +kernel
theorem dX12_directory_796 : decode cX12_directory 796 = .ok (.iload 8, 2) := by decide +kernel
theorem dX12_directory_798 : decode cX12_directory 798 = .ok (.imul, 1) := by decide +kernel
theorem dX12_directory_799 : decode cX12_directory 799 = .ok (.iload 12, 2) := by decide +kernel
theorem dX12_directory_801 : decode cX12_directory 801 = .ok (.bipush 8, 2) := by decide +kernel
theorem dX12_directory_803 : decode cX12_directory 803 = .ok (.idiv, 1) := by decide +kernel
theorem dX12_directory_804 : decode cX12_directory 804 = .ok (.iadd, 1) := by decide +kernel
theorem dX12_directory_805 : decode cX12_directory 805 = .ok (.aload_n 0, 1) := by decide +kernel
theorem dX12_directory_806 : decode cX12_directory 806 = .ok (.getfield 82, 3) := by decide +kernel
theorem dX12_directory_809 : decode cX12_directory 809 = .ok (.bipush 80, 2) := by decide +kernel
theorem dX12_directory_811 : decode cX12_directory 811 = .ok (.iload 8, 2) := by decide +kernel
theorem dX12_directory_813 : decode cX12_directory 813 = .ok (.imul, 1) := by decide +kernel
theorem dX12_directory_814 : decode cX12_directory 814 = .ok (.iload 12, 2) := by decide +kernel
theorem dX12_directory_816 : decode cX12_directory 816 = .ok (.bipush 8, 2) := by decide +kernel
theorem dX12_directory_818 : decode cX12_directory 818 = .ok (.idiv, 1) := by decide +kernel
theorem dX12_directory_819 : decode cX12_directory 819 = .ok (.iadd, 1) := by decide +kernel
theorem dX12_directory_820 : decode cX12_directory 820 = .ok (.baload, 1) := by decide +kernel
theorem dX12_directory_821 : decode cX12_directory 821 = .ok (.sipush 128, 3) := by decide +kernel
theorem dX12_directory_824 : decode cX12_directory 824 = .ok (.iload 12, 2) := by decide +kernel
theorem dX12_directory_826 : decode cX12_directory 826 = .ok (.bipush 8, 2) := by decide +kernel
theorem dX12_directory_828 : decode cX12_directory 828 = .ok (.irem, 1) := by decide +kernel
theorem dX12_directory_829 : decode cX12_directory 829 = .ok (.ishr, 1) := by decide +kernel
theorem dX12_directory_830 : decode cX12_directory 830 = .ok (.ior, 1) := by decide +kernel
theorem dX12_directory_831 : decode cX12_directory 831 = .ok (.i2b, 1) := by decide +kernel
theorem dX12_directory_832 : decode cX12_directory 832 = .ok (.bastore, 1) := by decide +kernel
theorem dX12_directory_833 : decode cX12_directory 833 = .ok (.iinc 12 1, 3) := by decide +kernel
theorem dX12_directory_836 : decode cX12_directory 836 = .ok (.goto (-94), 3) := by decide +kernel
theorem dX12_directory_839 : decode cX12_directory 839 = .ok (.iinc 8 1, 3) := by decide +kernel
theorem dX12_directory_842 : decode cX12_directory 842 = .ok (.lload 10, 2) := by decide +kernel
theorem dX12_directory_844 : decode cX12_directory 844 = .ok (.lconst 1, 1) := by decide +kernel
theorem dX12_directory_845 : decode cX12_directory 845 = .ok (.ladd, 1) := by decide +kernel
theorem dX12_directory_846 : decode cX12_directory 846 = .ok (.lstore 10, 2) := by decide +kernel
theorem dX12_directory_848 : decode cX12_directory 848 = .ok (.goto (-141), 3) := by decide +kernel
theorem dX12_directory_851 : decode cX12_directory 851 = .ok (.iinc 9 1, 3) := by decide +kernel
theorem dX12_directory_854 : decode cX12_directory 854 = .ok (.goto (-302), 3) := by decide +kernel
theorem dX12_directory_857 : decode cX12_directory 857 = .ok (.aload_n 0, 1) := by decide +kernel
theorem dX12_directory_858 : decode cX12_directory 858 = .ok (.iload_n 3, 1) := by decide +kernel
theorem dX12_directory_859 : decode cX12_directory 859 = .ok (.iload 4, 2) := by decide +kernel
theorem dX12_directory_861 : decode cX12_directory 861 = .ok (.invokevirtual 238, 3) := by decide +kernel
theorem dX12_directory_864 : decode cX12_directory 864 = .ok (.aload_n 0, 1) := by decide +kernel
theorem dX12_directory_865 : decode cX12_directory 865 = .ok (.invokevirtual 241, 3) := by decide +kernel
theorem dX12_directory_868 : decode cX12_directory 868 = .ok (.iconst 1, 1) := by decide +kernel
theorem dX12_directory_869 : decode cX12_directory 869 = .ok (.ireturn, 1) := by decide +kernel
noncomputable def f_X12_directory_787 (k742 : Int32 → Int32 → Int64 → Int32 → Int32 → Int32 → Int64 → Int32 → Mm → Option (Int32 × Mm)) (a3 : Int32) (a4 : Int32) (a5 : Int64) (a7 : Int32) (a8 : Int32) (a9 : Int32) (a10 : Int64) (a12 : Int32) (b0 : Int32) (b1 : Int32) (T : Mm) : Option (Int32 × Mm) :=
  if b1 = b0 then (ix (((80 : Int32) * a8) + (a12 / 8)) 64000 fun j1 =>
  ix (((80 : Int32) * a8) + (a12 / 8)) 64000 fun j3 => lb (uA T 157 j3 (((((gA T 157 j1) ||| ((128 : Int32) >>> ((a12 - a12 / 8 * 8) &&& 31)))).toInt8.toInt32).toInt8.toInt32)) fun T5 =>
  k742 a3 a4 a5 a7 a8 a9 a10 (a12 + 1) T5)
  else (k742 a3 a4 a5 a7 a8 a9 a10 (a12 + 1) T)
set_option maxRecDepth 100000 in
set_option maxHeartbeats 4000000 in
theorem s_X12_directory_787 {x : JX} {ad : Nat → Nat} {U : Mm} {S0 : Hp} {q : Int32 × Mm}  {k742 : Int32 → Int32 → Int64 → Int32 → Int32 → Int32 → Int64 → Int32 → Mm → Option (Int32 × Mm)} (hn9 : x_n x = 16) (C : CB x RX12 cX12_directory) (M : CMr x 7 (some .boolean) S0 ad false U eI q) (hk742 : ∀ (a3 : Int32) (a4 : Int32) (a5 : Int64) (a7 : Int32) (a8 : Int32) (a9 : Int32) (a10 : Int64) (a12 : Int32) (T : Mm), k742 a3 a4 a5 a7 a8 a9 a10 a12 T = some q → Jr x ad false U T [(0, .ref (ad 133)), (3, .int a3), (4, .int a4), (5, .long a5), (7, .int a7), (8, .int a8), (9, .int a9), (10, .long a10), (12, .int a12)] 742 []) (a3 : Int32) (a4 : Int32) (a5 : Int64) (a7 : Int32) (a8 : Int32) (a9 : Int32) (a10 : Int64) (a12 : Int32) (b0 : Int32) (b1 : Int32) (T : Mm) (h : f_X12_directory_787 k742 a3 a4 a5 a7 a8 a9 a10 a12 b0 b1 T = some q) : Jr x ad false U T [(0, .ref (ad 133)), (3, .int a3), (4, .int a4), (5, .long a5), (7, .int a7), (8, .int a8), (9, .int a9), (10, .long a10), (12, .int a12)] 787 [.int b0, .int b1] := by
  unfold f_X12_directory_787 at h
  refine r_ic_ne (tgt := 833) C dX12_directory_787 (by decide) h (fun h => ?_) (fun h => ?_)
  · refine r_iinc (q := 8) (v := (a12 + 1)) (lv' := [(12, .int (a12 + 1)), (0, .ref (ad 133)), (3, .int a3), (4, .int a4), (5, .long a5), (7, .int a7), (8, .int a8), (9, .int a9), (10, .long a10)]) C dX12_directory_833 rfl (by rw [show Int32.ofInt (1) = 1 by decide]) (by rw [hn9]; decide) rfl ?_
    refine r_goto (tgt := 742) C dX12_directory_836 (by decide) ?_
    refine Jr.sub [1, 2, 3, 4, 5, 6, 7, 8, 0] (lv' := [(0, .ref (ad 133)), (3, .int a3), (4, .int a4), (5, .long a5), (7, .int a7), (8, .int a8), (9, .int a9), (10, .long a10), (12, .int (a12 + 1))]) rfl ?_
    exact hk742 a3 a4 a5 a7 a8 a9 a10 (a12 + 1) T h
  · refine r_aload_n C dX12_directory_790 rfl 0 rfl ?_
    refine r_getp (f := 1234) (j := 157) C flX12_82 dX12_directory_791 kq_133 (by decide) rfl (fun W => pt_1234 kq_133 W) ?_
    refine r_bipush (v := 80) C dX12_directory_794 (by decide) ?_
    refine r_iload C dX12_directory_796 5 rfl ?_
    refine r_imul C dX12_directory_798 rfl ?_
    show Jr _ _ _ _ _ _ 799 _
    refine r_iload C dX12_directory_799 8 rfl ?_
    refine r_bipush (v := 8) C dX12_directory_801 (by decide) ?_
    refine r_idiv C dX12_directory_803 (by decide) rfl ?_
    refine r_iadd C dX12_directory_804 rfl ?_
    refine r_aload_n C dX12_directory_805 rfl 0 rfl ?_
    refine r_getp (f := 1234) (j := 157) C flX12_82 dX12_directory_806 kq_133 (by decide) rfl (fun W => pt_1234 kq_133 W) ?_
    show Jr _ _ _ _ _ _ 809 _
    refine r_bipush (v := 80) C dX12_directory_809 (by decide) ?_
    refine r_iload C dX12_directory_811 5 rfl ?_
    refine r_imul C dX12_directory_813 rfl ?_
    refine r_iload C dX12_directory_814 8 rfl ?_
    refine r_bipush (v := 8) C dX12_directory_816 (by decide) ?_
    refine r_idiv C dX12_directory_818 (by decide) rfl ?_
    show Jr _ _ _ _ _ _ 819 _
    refine r_iadd C dX12_directory_819 rfl ?_
    refine r_bald (n := 64000) C dX12_directory_820 kq_157 lq_157 h (fun j1 hj2 h => ?_)
    refine r_sipush (v := 128) C dX12_directory_821 (by decide) ?_
    refine r_iload C dX12_directory_824 8 rfl ?_
    refine r_bipush (v := 8) C dX12_directory_826 (by decide) ?_
    refine r_irem C dX12_directory_828 (by decide) rfl ?_
    show Jr _ _ _ _ _ _ 829 _
    refine r_ishr C dX12_directory_829 rfl ?_
    refine r_ior C dX12_directory_830 rfl ?_
    refine r_i2b C dX12_directory_831 rfl ?_
    refine r_bast (n := 64000) C dX12_directory_832 kq_157 lq_157 h (fun j3 T5 hj4 h => ?_)
    refine r_iinc (q := 8) (v := (a12 + 1)) (lv' := [(12, .int (a12 + 1)), (0, .ref (ad 133)), (3, .int a3), (4, .int a4), (5, .long a5), (7, .int a7), (8, .int a8), (9, .int a9), (10, .long a10)]) C dX12_directory_833 rfl (by rw [show Int32.ofInt (1) = 1 by decide]) (by rw [hn9]; decide) rfl ?_
    refine r_goto (tgt := 742) C dX12_directory_836 (by decide) ?_
    refine Jr.sub [1, 2, 3, 4, 5, 6, 7, 8, 0] (lv' := [(0, .ref (ad 133)), (3, .int a3), (4, .int a4), (5, .long a5), (7, .int a7), (8, .int a8), (9, .int a9), (10, .long a10), (12, .int (a12 + 1))]) rfl ?_
    exact hk742 a3 a4 a5 a7 a8 a9 a10 (a12 + 1) T5 h
noncomputable def f_X12_directory_b742 (k707 : Int32 → Int32 → Int64 → Int32 → Int32 → Int32 → Int64 → Mm → Option (Int32 × Mm)) (k742 : Int32 → Int32 → Int64 → Int32 → Int32 → Int32 → Int64 → Int32 → Mm → Option (Int32 × Mm)) (a3 : Int32) (a4 : Int32) (a5 : Int64) (a7 : Int32) (a8 : Int32) (a9 : Int32) (a10 : Int64) (a12 : Int32) (T : Mm) : Option (Int32 × Mm) :=
  if a3 ≤ a12 then (lb ((a10 + 1)) fun v1 =>
  k707 a3 a4 a5 a7 (a8 + 1) a9 v1 T)
  else (ix a12 640 fun j2 =>
  ix a12 640 fun j4 => lb (uA T 167 j4 ((gA T 168 j2))) fun T6 =>
  ix a12 640 fun j7 =>
  if (lg_cmp (gB T6 171 262) 0) = 0 then (f_X12_directory_787 k742 a3 a4 a5 a7 a8 a9 a10 a12 1 (gA T6 168 j7) T6)
  else (f_X12_directory_787 k742 a3 a4 a5 a7 a8 a9 a10 a12 0 (gA T6 168 j7) T6))
set_option maxRecDepth 100000 in
set_option maxHeartbeats 4000000 in
theorem s_X12_directory_b742 {x : JX} {ad : Nat → Nat} {U : Mm} {S0 : Hp} {q : Int32 × Mm}  {k707 : Int32 → Int32 → Int64 → Int32 → Int32 → Int32 → Int64 → Mm → Option (Int32 × Mm)} {k742 : Int32 → Int32 → Int64 → Int32 → Int32 → Int32 → Int64 → Int32 → Mm → Option (Int32 × Mm)} (hn9 : x_n x = 16) (C : CB x RX12 cX12_directory) (M : CMr x 7 (some .boolean) S0 ad false U eI q) (hk707 : ∀ (a3 : Int32) (a4 : Int32) (a5 : Int64) (a7 : Int32) (a8 : Int32) (a9 : Int32) (a10 : Int64) (T : Mm), k707 a3 a4 a5 a7 a8 a9 a10 T = some q → Jr x ad false U T [(0, .ref (ad 133)), (3, .int a3), (4, .int a4), (5, .long a5), (7, .int a7), (8, .int a8), (9, .int a9), (10, .long a10)] 707 []) (hk742 : ∀ (a3 : Int32) (a4 : Int32) (a5 : Int64) (a7 : Int32) (a8 : Int32) (a9 : Int32) (a10 : Int64) (a12 : Int32) (T : Mm), k742 a3 a4 a5 a7 a8 a9 a10 a12 T = some q → Jr x ad false U T [(0, .ref (ad 133)), (3, .int a3), (4, .int a4), (5, .long a5), (7, .int a7), (8, .int a8), (9, .int a9), (10, .long a10), (12, .int a12)] 742 []) (a3 : Int32) (a4 : Int32) (a5 : Int64) (a7 : Int32) (a8 : Int32) (a9 : Int32) (a10 : Int64) (a12 : Int32) (T : Mm) (h : f_X12_directory_b742 k707 k742 a3 a4 a5 a7 a8 a9 a10 a12 T = some q) : Jr x ad false U T [(0, .ref (ad 133)), (3, .int a3), (4, .int a4), (5, .long a5), (7, .int a7), (8, .int a8), (9, .int a9), (10, .long a10), (12, .int a12)] 742 [] := by
  unfold f_X12_directory_b742 at h
  refine r_iload C dX12_directory_742 8 rfl ?_
  refine r_iload_n C dX12_directory_744 rfl 1 rfl ?_
  refine r_ic_ge (tgt := 839) C dX12_directory_745 (by decide) h (fun h => ?_) (fun h => ?_)
  · refine r_iinc (q := 5) (v := (a8 + 1)) (lv' := [(8, .int (a8 + 1)), (0, .ref (ad 133)), (3, .int a3), (4, .int a4), (5, .long a5), (7, .int a7), (9, .int a9), (10, .long a10), (12, .int a12)]) C dX12_directory_839 rfl (by rw [show Int32.ofInt (1) = 1 by decide]) (by rw [hn9]; decide) rfl ?_
    refine r_lload C dX12_directory_842 7 rfl ?_
    refine r_lconst (v := 1) C dX12_directory_844 (by decide) ?_
    refine r_ladd C dX12_directory_845 rfl ?_
    refine r_lbJ h (fun v1 h => ?_)
    refine r_lstore (lv' := [(10, .long v1), (8, .int (a8 + 1)), (0, .ref (ad 133)), (3, .int a3), (4, .int a4), (5, .long a5), (7, .int a7), (9, .int a9), (12, .int a12)]) C dX12_directory_846 (by rw [hn9]; decide) rfl ?_
    show Jr _ _ _ _ _ _ 848 _
    refine r_goto (tgt := 707) C dX12_directory_848 (by decide) ?_
    refine Jr.sub [2, 3, 4, 5, 6, 1, 7, 0] (lv' := [(0, .ref (ad 133)), (3, .int a3), (4, .int a4), (5, .long a5), (7, .int a7), (8, .int (a8 + 1)), (9, .int a9), (10, .long v1)]) rfl ?_
    exact hk707 a3 a4 a5 a7 (a8 + 1) a9 v1 T h
  · refine r_aload_n C dX12_directory_748 rfl 0 rfl ?_
    refine r_getp (f := 1258) (j := 167) C flX12_114 dX12_directory_749 kq_133 (by decide) rfl (fun W => pt_1258 kq_133 W) ?_
    refine r_iload C dX12_directory_752 8 rfl ?_
    refine r_aload_n C dX12_directory_754 rfl 0 rfl ?_
    refine r_getp (f := 1259) (j := 168) C flX12_117 dX12_directory_755 kq_133 (by decide) rfl (fun W => pt_1259 kq_133 W) ?_
    show Jr _ _ _ _ _ _ 758 _
    refine r_iload C dX12_directory_758 8 rfl ?_
    refine r_iald (n := 640) C dX12_directory_760 kq_168 lq_168 h (fun j2 hj3 h => ?_)
    refine r_iast (n := 640) C dX12_directory_761 kq_167 lq_167 h (fun j4 T6 hj5 h => ?_)
    refine r_aload_n C dX12_directory_762 rfl 0 rfl ?_
    refine r_getp (f := 1259) (j := 168) C flX12_117 dX12_directory_763 kq_133 (by decide) rfl (fun W => pt_1259 kq_133 W) ?_
    refine r_iload C dX12_directory_766 8 rfl ?_
    show Jr _ _ _ _ _ _ 768 _
    refine r_iald (n := 640) C dX12_directory_768 kq_168 lq_168 h (fun j7 hj8 h => ?_)
    refine r_aload_n C dX12_directory_769 rfl 0 rfl ?_
    refine r_getp (f := 1273) (j := 171) C flX12_126 dX12_directory_770 kq_133 (by decide) rfl (fun W => pt_1273 kq_133 W) ?_
    refine r_sipush (v := 262) C dX12_directory_773 (by decide) ?_
    refine r_laldc (n := 400) C 262 dX12_directory_776 kq_171 lq_171 (vp_lit (by decide)) (by decide) ?_
    refine r_lconst (v := 0) C dX12_directory_777 (by decide) ?_
    show Jr _ _ _ _ _ _ 778 _
    refine r_lcmp C dX12_directory_778 ?_
    refine r_if_ne (tgt := 786) C dX12_directory_779 (by decide) h (fun h => ?_) (fun h => ?_)
    · refine r_iconst (v := 0) C dX12_directory_786 (by decide) ?_
      exact s_X12_directory_787 hn9 C M hk742 a3 a4 a5 a7 a8 a9 a10 a12 0 (gA T6 168 j7) T6 h
    · refine r_iconst (v := 1) C dX12_directory_782 (by decide) ?_
      refine r_goto (tgt := 787) C dX12_directory_783 (by decide) ?_
      exact s_X12_directory_787 hn9 C M hk742 a3 a4 a5 a7 a8 a9 a10 a12 1 (gA T6 168 j7) T6 h
noncomputable def f_X12_directory_l742 (k707 : Int32 → Int32 → Int64 → Int32 → Int32 → Int32 → Int64 → Mm → Option (Int32 × Mm)) (n : Nat) : Int32 → Int32 → Int64 → Int32 → Int32 → Int32 → Int64 → Int32 → Mm → Option (Int32 × Mm) := Nat.rec (fun _ _ _ _ _ _ _ _ _ => none) (fun _ ih => f_X12_directory_b742 k707 ih) n
theorem s_X12_directory_l742 {x : JX} {ad : Nat → Nat} {U : Mm} {S0 : Hp} {q : Int32 × Mm}  {k707 : Int32 → Int32 → Int64 → Int32 → Int32 → Int32 → Int64 → Mm → Option (Int32 × Mm)} (hn9 : x_n x = 16) (C : CB x RX12 cX12_directory) (M : CMr x 7 (some .boolean) S0 ad false U eI q) (hk707 : ∀ (a3 : Int32) (a4 : Int32) (a5 : Int64) (a7 : Int32) (a8 : Int32) (a9 : Int32) (a10 : Int64) (T : Mm), k707 a3 a4 a5 a7 a8 a9 a10 T = some q → Jr x ad false U T [(0, .ref (ad 133)), (3, .int a3), (4, .int a4), (5, .long a5), (7, .int a7), (8, .int a8), (9, .int a9), (10, .long a10)] 707 []) : ∀ (n : Nat), ∀ (a3 : Int32) (a4 : Int32) (a5 : Int64) (a7 : Int32) (a8 : Int32) (a9 : Int32) (a10 : Int64) (a12 : Int32) (T : Mm), f_X12_directory_l742 k707 n a3 a4 a5 a7 a8 a9 a10 a12 T = some q → Jr x ad false U T [(0, .ref (ad 133)), (3, .int a3), (4, .int a4), (5, .long a5), (7, .int a7), (8, .int a8), (9, .int a9), (10, .long a10), (12, .int a12)] 742 [] := by
  intro n
  induction n with
  | zero => intro a3 a4 a5 a7 a8 a9 a10 a12 T  h; exact absurd h (by intro h; cases h)
  | succ n ih => exact fun a3 a4 a5 a7 a8 a9 a10 a12 T  h => s_X12_directory_b742 hn9 C M hk707 (ih) a3 a4 a5 a7 a8 a9 a10 a12 T  h
noncomputable def f_X12_directory_b707 (k552 : Int32 → Int32 → Int64 → Int32 → Int32 → Int32 → Mm → Option (Int32 × Mm)) (k707 : Int32 → Int32 → Int64 → Int32 → Int32 → Int32 → Int64 → Mm → Option (Int32 × Mm)) (a3 : Int32) (a4 : Int32) (a5 : Int64) (a7 : Int32) (a8 : Int32) (a9 : Int32) (a10 : Int64) (T : Mm) : Option (Int32 × Mm) :=
  if 0 ≤ (lg_cmp a10 a5) then (k552 a3 a4 a5 a7 a8 (a9 + 1) T)
  else (if a4 ≤ a8 then (k552 a3 a4 a5 a7 a8 (a9 + 1) T)
  else (bd (f_X12_readRow_ T) fun v1 T2 =>
  if v1 = 0 then (bd (f_X12_wrong 5 (gI T2 1276 133) T2) fun v3 T4 =>
  gd (v3 = 0 ∨ v3 = 1) <|
  some (v3, T4))
  else (f_X12_directory_l742 k707 FU a3 a4 a5 a7 a8 a9 a10 0 T2)))
set_option maxRecDepth 100000 in
set_option maxHeartbeats 4000000 in
theorem s_X12_directory_b707 {x : JX} {ad : Nat → Nat} {U : Mm} {S0 : Hp} {q : Int32 × Mm}  {k552 : Int32 → Int32 → Int64 → Int32 → Int32 → Int32 → Mm → Option (Int32 × Mm)} {k707 : Int32 → Int32 → Int64 → Int32 → Int32 → Int32 → Int64 → Mm → Option (Int32 × Mm)} (hn9 : x_n x = 16) (C : CB x RX12 cX12_directory) (M : CMr x 7 (some .boolean) S0 ad false U eI q) (hk552 : ∀ (a3 : Int32) (a4 : Int32) (a5 : Int64) (a7 : Int32) (a8 : Int32) (a9 : Int32) (T : Mm), k552 a3 a4 a5 a7 a8 a9 T = some q → Jr x ad false U T [(0, .ref (ad 133)), (3, .int a3), (4, .int a4), (5, .long a5), (7, .int a7), (8, .int a8), (9, .int a9)] 552 []) (hk707 : ∀ (a3 : Int32) (a4 : Int32) (a5 : Int64) (a7 : Int32) (a8 : Int32) (a9 : Int32) (a10 : Int64) (T : Mm), k707 a3 a4 a5 a7 a8 a9 a10 T = some q → Jr x ad false U T [(0, .ref (ad 133)), (3, .int a3), (4, .int a4), (5, .long a5), (7, .int a7), (8, .int a8), (9, .int a9), (10, .long a10)] 707 []) (a3 : Int32) (a4 : Int32) (a5 : Int64) (a7 : Int32) (a8 : Int32) (a9 : Int32) (a10 : Int64) (T : Mm) (h : f_X12_directory_b707 k552 k707 a3 a4 a5 a7 a8 a9 a10 T = some q) : Jr x ad false U T [(0, .ref (ad 133)), (3, .int a3), (4, .int a4), (5, .long a5), (7, .int a7), (8, .int a8), (9, .int a9), (10, .long a10)] 707 [] := by
  unfold f_X12_directory_b707 at h
  refine r_lload C dX12_directory_707 7 rfl ?_
  refine r_lload C dX12_directory_709 3 rfl ?_
  refine r_lcmp C dX12_directory_711 ?_
  refine r_if_ge (tgt := 851) C dX12_directory_712 (by decide) h (fun h => ?_) (fun h => ?_)
  · refine r_iinc (q := 6) (v := (a9 + 1)) (lv' := [(9, .int (a9 + 1)), (0, .ref (ad 133)), (3, .int a3), (4, .int a4), (5, .long a5), (7, .int a7), (8, .int a8), (10, .long a10)]) C dX12_directory_851 rfl (by rw [show Int32.ofInt (1) = 1 by decide]) (by rw [hn9]; decide) rfl ?_
    refine r_goto (tgt := 552) C dX12_directory_854 (by decide) ?_
    refine Jr.sub [1, 2, 3, 4, 5, 6, 0] (lv' := [(0, .ref (ad 133)), (3, .int a3), (4, .int a4), (5, .long a5), (7, .int a7), (8, .int a8), (9, .int (a9 + 1))]) rfl ?_
    exact hk552 a3 a4 a5 a7 a8 (a9 + 1) T h
  · refine r_iload C dX12_directory_715 5 rfl ?_
    refine r_iload C dX12_directory_717 2 rfl ?_
    refine r_ic_ge (tgt := 851) C dX12_directory_719 (by decide) h (fun h => ?_) (fun h => ?_)
    · refine r_iinc (q := 6) (v := (a9 + 1)) (lv' := [(9, .int (a9 + 1)), (0, .ref (ad 133)), (3, .int a3), (4, .int a4), (5, .long a5), (7, .int a7), (8, .int a8), (10, .long a10)]) C dX12_directory_851 rfl (by rw [show Int32.ofInt (1) = 1 by decide]) (by rw [hn9]; decide) rfl ?_
      refine r_goto (tgt := 552) C dX12_directory_854 (by decide) ?_
      refine Jr.sub [1, 2, 3, 4, 5, 6, 0] (lv' := [(0, .ref (ad 133)), (3, .int a3), (4, .int a4), (5, .long a5), (7, .int a7), (8, .int a8), (9, .int (a9 + 1))]) rfl ?_
      exact hk552 a3 a4 a5 a7 a8 (a9 + 1) T h
    · refine r_aload_n C dX12_directory_722 rfl 0 rfl ?_
      refine r_callVI C M h [] [] mlX12_638 mcX12_readRow_ (fun q9 e9 => s_X12_readRow_   e9) kq_133 rfl (by decide) (by decide) rfl rfl (Nat.le_of_ble_eq_true rfl) dX12_directory_723 (fun v1 T2 h => ?_)
      refine r_if_ne (tgt := 739) C dX12_directory_726 (by decide) h (fun h => ?_) (fun h => ?_)
      · refine r_iconst (v := 0) C dX12_directory_739 (by decide) ?_
        refine r_istore (lv' := [(12, .int 0), (0, .ref (ad 133)), (3, .int a3), (4, .int a4), (5, .long a5), (7, .int a7), (8, .int a8), (9, .int a9), (10, .long a10)]) C dX12_directory_740 (by rw [hn9]; decide) rfl ?_
        refine Jr.sub [1, 2, 3, 4, 5, 6, 7, 8, 0] (lv' := [(0, .ref (ad 133)), (3, .int a3), (4, .int a4), (5, .long a5), (7, .int a7), (8, .int a8), (9, .int a9), (10, .long a10), (12, .int 0)]) rfl ?_
        exact s_X12_directory_l742 hn9 C M hk707 FU a3 a4 a5 a7 a8 a9 a10 0 T2 h
      · refine r_aload_n C dX12_directory_729 rfl 0 rfl ?_
        refine r_iconst (v := 5) C dX12_directory_730 (by decide) ?_
        refine r_aload_n C dX12_directory_731 rfl 0 rfl ?_
        refine r_geti (f := 1276) C flX12_626 dX12_directory_732 kq_133 (by decide) (by decide) rfl ?_
        refine r_callVI C M h [.int 5, .int (gI T2 1276 133)] [] mlX12_592 mcX12_wrong (fun q9 e9 => s_X12_wrong 5 (gI T2 1276 133)  e9) kq_133 rfl (by decide) (by decide) rfl rfl (Nat.le_of_ble_eq_true rfl) dX12_directory_735 (fun v3 T4 h => ?_)
        show Jr _ _ _ _ _ _ 738 _
        refine r_gd h (fun hz5 h => ?_)
        exact r_zret C M dX12_directory_738 hz5 h
noncomputable def f_X12_directory_l707 (k552 : Int32 → Int32 → Int64 → Int32 → Int32 → Int32 → Mm → Option (Int32 × Mm)) (n : Nat) : Int32 → Int32 → Int64 → Int32 → Int32 → Int32 → Int64 → Mm → Option (Int32 × Mm) := Nat.rec (fun _ _ _ _ _ _ _ _ => none) (fun _ ih => f_X12_directory_b707 k552 ih) n
theorem s_X12_directory_l707 {x : JX} {ad : Nat → Nat} {U : Mm} {S0 : Hp} {q : Int32 × Mm}  {k552 : Int32 → Int32 → Int64 → Int32 → Int32 → Int32 → Mm → Option (Int32 × Mm)} (hn9 : x_n x = 16) (C : CB x RX12 cX12_directory) (M : CMr x 7 (some .boolean) S0 ad false U eI q) (hk552 : ∀ (a3 : Int32) (a4 : Int32) (a5 : Int64) (a7 : Int32) (a8 : Int32) (a9 : Int32) (T : Mm), k552 a3 a4 a5 a7 a8 a9 T = some q → Jr x ad false U T [(0, .ref (ad 133)), (3, .int a3), (4, .int a4), (5, .long a5), (7, .int a7), (8, .int a8), (9, .int a9)] 552 []) : ∀ (n : Nat), ∀ (a3 : Int32) (a4 : Int32) (a5 : Int64) (a7 : Int32) (a8 : Int32) (a9 : Int32) (a10 : Int64) (T : Mm), f_X12_directory_l707 k552 n a3 a4 a5 a7 a8 a9 a10 T = some q → Jr x ad false U T [(0, .ref (ad 133)), (3, .int a3), (4, .int a4), (5, .long a5), (7, .int a7), (8, .int a8), (9, .int a9), (10, .long a10)] 707 [] := by
  intro n
  induction n with
  | zero => intro a3 a4 a5 a7 a8 a9 a10 T  h; exact absurd h (by intro h; cases h)
  | succ n ih => exact fun a3 a4 a5 a7 a8 a9 a10 T  h => s_X12_directory_b707 hn9 C M hk552 (ih) a3 a4 a5 a7 a8 a9 a10 T  h
noncomputable def f_X12_directory_b623 (k552 : Int32 → Int32 → Int64 → Int32 → Int32 → Int32 → Mm → Option (Int32 × Mm)) (k623 : Int32 → Int32 → Int64 → Int32 → Int32 → Int32 → Int32 → Mm → Option (Int32 × Mm)) (a3 : Int32) (a4 : Int32) (a5 : Int64) (a7 : Int32) (a8 : Int32) (a9 : Int32) (a10 : Int32) (T : Mm) : Option (Int32 × Mm) :=
  if a3 ≤ a10 then (ix a9 40 fun j1 =>
  lb (uI T 1276 133 (((gB T 172 j1)).toInt32)) fun T3 =>
  ix a9 40 fun j4 =>
  lb (uJ T3 1277 133 ((8 : Int64) * (gB T3 173 j4))) fun T6 =>
  lb (uJ T6 1278 133 0) fun T7 =>
  if (lg_cmp (gB T7 171 266) 2) = 0 then (lb (uI T7 1279 133 1) fun T10 =>
  lb (uI T10 1260 133 a3) fun T11 =>
  f_X12_directory_l707 k552 FU a3 a4 a5 a7 a8 a9 0 T11)
  else (lb (uI T7 1279 133 0) fun T8 =>
  lb (uI T8 1260 133 a3) fun T9 =>
  f_X12_directory_l707 k552 FU a3 a4 a5 a7 a8 a9 0 T9))
  else (ix a10 640 fun j12 => lb (uA T 167 j12 (0)) fun T14 =>
  k623 a3 a4 a5 a7 a8 a9 (a10 + 1) T14)
set_option maxRecDepth 100000 in
set_option maxHeartbeats 4000000 in
theorem s_X12_directory_b623 {x : JX} {ad : Nat → Nat} {U : Mm} {S0 : Hp} {q : Int32 × Mm}  {k552 : Int32 → Int32 → Int64 → Int32 → Int32 → Int32 → Mm → Option (Int32 × Mm)} {k623 : Int32 → Int32 → Int64 → Int32 → Int32 → Int32 → Int32 → Mm → Option (Int32 × Mm)} (hn9 : x_n x = 16) (C : CB x RX12 cX12_directory) (M : CMr x 7 (some .boolean) S0 ad false U eI q) (hk552 : ∀ (a3 : Int32) (a4 : Int32) (a5 : Int64) (a7 : Int32) (a8 : Int32) (a9 : Int32) (T : Mm), k552 a3 a4 a5 a7 a8 a9 T = some q → Jr x ad false U T [(0, .ref (ad 133)), (3, .int a3), (4, .int a4), (5, .long a5), (7, .int a7), (8, .int a8), (9, .int a9)] 552 []) (hk623 : ∀ (a3 : Int32) (a4 : Int32) (a5 : Int64) (a7 : Int32) (a8 : Int32) (a9 : Int32) (a10 : Int32) (T : Mm), k623 a3 a4 a5 a7 a8 a9 a10 T = some q → Jr x ad false U T [(0, .ref (ad 133)), (3, .int a3), (4, .int a4), (5, .long a5), (7, .int a7), (8, .int a8), (9, .int a9), (10, .int a10)] 623 []) (a3 : Int32) (a4 : Int32) (a5 : Int64) (a7 : Int32) (a8 : Int32) (a9 : Int32) (a10 : Int32) (T : Mm) (h : f_X12_directory_b623 k552 k623 a3 a4 a5 a7 a8 a9 a10 T = some q) : Jr x ad false U T [(0, .ref (ad 133)), (3, .int a3), (4, .int a4), (5, .long a5), (7, .int a7), (8, .int a8), (9, .int a9), (10, .int a10)] 623 [] := by
  unfold f_X12_directory_b623 at h
  refine r_iload C dX12_directory_623 7 rfl ?_
  refine r_iload_n C dX12_directory_625 rfl 1 rfl ?_
  refine r_ic_ge (tgt := 643) C dX12_directory_626 (by decide) h (fun h => ?_) (fun h => ?_)
  · refine r_aload_n C dX12_directory_643 rfl 0 rfl ?_
    refine r_aload_n C dX12_directory_644 rfl 0 rfl ?_
    refine r_getp (f := 1274) (j := 172) C flX12_130 dX12_directory_645 kq_133 (by decide) rfl (fun W => pt_1274 kq_133 W) ?_
    refine r_iload C dX12_directory_648 6 rfl ?_
    refine r_lald (n := 40) C dX12_directory_650 kq_172 lq_172 h (fun j1 hj2 h => ?_)
    show Jr _ _ _ _ _ _ 651 _
    refine r_l2i C dX12_directory_651 rfl ?_
    refine r_puti (f := 1276) C flX12_626 (by decide) rfl rfl dX12_directory_652 kq_133 rfl h (fun T3 h => ?_)
    refine r_aload_n C dX12_directory_655 rfl 0 rfl ?_
    refine r_ldc2 (v := 8) C dX12_directory_656 kcX12_313 ?_
    refine r_aload_n C dX12_directory_659 rfl 0 rfl ?_
    refine r_getp (f := 1275) (j := 173) C flX12_133 dX12_directory_660 kq_133 (by decide) rfl (fun W => pt_1275 kq_133 W) ?_
    show Jr _ _ _ _ _ _ 663 _
    refine r_iload C dX12_directory_663 6 rfl ?_
    refine r_lald (n := 40) C dX12_directory_665 kq_173 lq_173 h (fun j4 hj5 h => ?_)
    refine r_lmul C dX12_directory_666 rfl ?_
    refine r_putl (f := 1277) C flX12_629 (by decide) rfl rfl dX12_directory_667 kq_133 rfl h (fun T6 h => ?_)
    refine r_aload_n C dX12_directory_670 rfl 0 rfl ?_
    refine r_lconst (v := 0) C dX12_directory_671 (by decide) ?_
    show Jr _ _ _ _ _ _ 672 _
    refine r_putl (f := 1278) C flX12_632 (by decide) rfl rfl dX12_directory_672 kq_133 rfl h (fun T7 h => ?_)
    refine r_aload_n C dX12_directory_675 rfl 0 rfl ?_
    refine r_aload_n C dX12_directory_676 rfl 0 rfl ?_
    refine r_getp (f := 1273) (j := 171) C flX12_126 dX12_directory_677 kq_133 (by decide) rfl (fun W => pt_1273 kq_133 W) ?_
    refine r_sipush (v := 266) C dX12_directory_680 (by decide) ?_
    refine r_laldc (n := 400) C 266 dX12_directory_683 kq_171 lq_171 (vp_lit (by decide)) (by decide) ?_
    show Jr _ _ _ _ _ _ 684 _
    refine r_ldc2 (v := 2) C dX12_directory_684 kcX12_356 ?_
    refine r_lcmp C dX12_directory_687 ?_
    refine r_if_ne (tgt := 695) C dX12_directory_688 (by decide) h (fun h => ?_) (fun h => ?_)
    · refine r_iconst (v := 0) C dX12_directory_695 (by decide) ?_
      refine r_putz (f := 1279) C flX12_635 (by decide) rfl rfl (by decide) dX12_directory_696 kq_133 rfl h (fun T8 h => ?_)
      refine r_aload_n C dX12_directory_699 rfl 0 rfl ?_
      refine r_iload_n C dX12_directory_700 rfl 1 rfl ?_
      refine r_puti (f := 1260) C flX12_528 (by decide) rfl rfl dX12_directory_701 kq_133 rfl h (fun T9 h => ?_)
      show Jr _ _ _ _ _ _ 704 _
      refine r_lconst (v := 0) C dX12_directory_704 (by decide) ?_
      refine r_lstore (lv' := [(10, .long 0), (0, .ref (ad 133)), (3, .int a3), (4, .int a4), (5, .long a5), (7, .int a7), (8, .int a8), (9, .int a9)]) C dX12_directory_705 (by rw [hn9]; decide) rfl ?_
      refine Jr.sub [1, 2, 3, 4, 5, 6, 7, 0] (lv' := [(0, .ref (ad 133)), (3, .int a3), (4, .int a4), (5, .long a5), (7, .int a7), (8, .int a8), (9, .int a9), (10, .long 0)]) rfl ?_
      exact s_X12_directory_l707 hn9 C M hk552 FU a3 a4 a5 a7 a8 a9 0 T9 h
    · refine r_iconst (v := 1) C dX12_directory_691 (by decide) ?_
      refine r_goto (tgt := 696) C dX12_directory_692 (by decide) ?_
      refine r_putz (f := 1279) C flX12_635 (by decide) rfl rfl (by decide) dX12_directory_696 kq_133 rfl h (fun T10 h => ?_)
      refine r_aload_n C dX12_directory_699 rfl 0 rfl ?_
      refine r_iload_n C dX12_directory_700 rfl 1 rfl ?_
      show Jr _ _ _ _ _ _ 701 _
      refine r_puti (f := 1260) C flX12_528 (by decide) rfl rfl dX12_directory_701 kq_133 rfl h (fun T11 h => ?_)
      refine r_lconst (v := 0) C dX12_directory_704 (by decide) ?_
      refine r_lstore (lv' := [(10, .long 0), (0, .ref (ad 133)), (3, .int a3), (4, .int a4), (5, .long a5), (7, .int a7), (8, .int a8), (9, .int a9)]) C dX12_directory_705 (by rw [hn9]; decide) rfl ?_
      refine Jr.sub [1, 2, 3, 4, 5, 6, 7, 0] (lv' := [(0, .ref (ad 133)), (3, .int a3), (4, .int a4), (5, .long a5), (7, .int a7), (8, .int a8), (9, .int a9), (10, .long 0)]) rfl ?_
      exact s_X12_directory_l707 hn9 C M hk552 FU a3 a4 a5 a7 a8 a9 0 T11 h
  · refine r_aload_n C dX12_directory_629 rfl 0 rfl ?_
    refine r_getp (f := 1258) (j := 167) C flX12_114 dX12_directory_630 kq_133 (by decide) rfl (fun W => pt_1258 kq_133 W) ?_
    refine r_iload C dX12_directory_633 7 rfl ?_
    refine r_iconst (v := 0) C dX12_directory_635 (by decide) ?_
    refine r_iast (n := 640) C dX12_directory_636 kq_167 lq_167 h (fun j12 T14 hj13 h => ?_)
    show Jr _ _ _ _ _ _ 637 _
    refine r_iinc (q := 7) (v := (a10 + 1)) (lv' := [(10, .int (a10 + 1)), (0, .ref (ad 133)), (3, .int a3), (4, .int a4), (5, .long a5), (7, .int a7), (8, .int a8), (9, .int a9)]) C dX12_directory_637 rfl (by rw [show Int32.ofInt (1) = 1 by decide]) (by rw [hn9]; decide) rfl ?_
    refine r_goto (tgt := 623) C dX12_directory_640 (by decide) ?_
    refine Jr.sub [1, 2, 3, 4, 5, 6, 7, 0] (lv' := [(0, .ref (ad 133)), (3, .int a3), (4, .int a4), (5, .long a5), (7, .int a7), (8, .int a8), (9, .int a9), (10, .int (a10 + 1))]) rfl ?_
    exact hk623 a3 a4 a5 a7 a8 a9 (a10 + 1) T14 h
noncomputable def f_X12_directory_l623 (k552 : Int32 → Int32 → Int64 → Int32 → Int32 → Int32 → Mm → Option (Int32 × Mm)) (n : Nat) : Int32 → Int32 → Int64 → Int32 → Int32 → Int32 → Int32 → Mm → Option (Int32 × Mm) := Nat.rec (fun _ _ _ _ _ _ _ _ => none) (fun _ ih => f_X12_directory_b623 k552 ih) n
theorem s_X12_directory_l623 {x : JX} {ad : Nat → Nat} {U : Mm} {S0 : Hp} {q : Int32 × Mm}  {k552 : Int32 → Int32 → Int64 → Int32 → Int32 → Int32 → Mm → Option (Int32 × Mm)} (hn9 : x_n x = 16) (C : CB x RX12 cX12_directory) (M : CMr x 7 (some .boolean) S0 ad false U eI q) (hk552 : ∀ (a3 : Int32) (a4 : Int32) (a5 : Int64) (a7 : Int32) (a8 : Int32) (a9 : Int32) (T : Mm), k552 a3 a4 a5 a7 a8 a9 T = some q → Jr x ad false U T [(0, .ref (ad 133)), (3, .int a3), (4, .int a4), (5, .long a5), (7, .int a7), (8, .int a8), (9, .int a9)] 552 []) : ∀ (n : Nat), ∀ (a3 : Int32) (a4 : Int32) (a5 : Int64) (a7 : Int32) (a8 : Int32) (a9 : Int32) (a10 : Int32) (T : Mm), f_X12_directory_l623 k552 n a3 a4 a5 a7 a8 a9 a10 T = some q → Jr x ad false U T [(0, .ref (ad 133)), (3, .int a3), (4, .int a4), (5, .long a5), (7, .int a7), (8, .int a8), (9, .int a9), (10, .int a10)] 623 [] := by
  intro n
  induction n with
  | zero => intro a3 a4 a5 a7 a8 a9 a10 T  h; exact absurd h (by intro h; cases h)
  | succ n ih => exact fun a3 a4 a5 a7 a8 a9 a10 T  h => s_X12_directory_b623 hn9 C M hk552 (ih) a3 a4 a5 a7 a8 a9 a10 T  h
noncomputable def f_X12_directory_b552 (k552 : Int32 → Int32 → Int64 → Int32 → Int32 → Int32 → Mm → Option (Int32 × Mm)) (a3 : Int32) (a4 : Int32) (a5 : Int64) (a7 : Int32) (a8 : Int32) (a9 : Int32) (T : Mm) : Option (Int32 × Mm) :=
  if a7 ≤ a9 then (bd (f_X12_comes a3 a4 T) fun _ T1 =>
  bd (f_X12_white T1) fun _ T2 =>
  some (1, T2))
  else (ix a9 40 fun j3 =>
  ix a9 40 fun j5 =>
  if (lg_cmp ((gB T 172 j3) + (gB T 173 j5)) (((gI T 1268 133)).toInt64)) ≤ 0 then (f_X12_directory_l623 k552 FU a3 a4 a5 a7 a8 a9 0 T)
  else (ix a9 40 fun j7 =>
  if (lg_cmp (gB T 172 j7) (((gI T 1268 133)).toInt64)) ≤ 0 then (ix a9 40 fun j9 =>
  bd (f_X12_wrong 5 (((gB T 172 j9)).toInt32) T) fun v11 T12 =>
  gd (v11 = 0 ∨ v11 = 1) <|
  some (v11, T12))
  else (bd (f_X12_wrong 5 (gI T 1268 133) T) fun v14 T15 =>
  gd (v14 = 0 ∨ v14 = 1) <|
  some (v14, T15))))
set_option maxRecDepth 100000 in
set_option maxHeartbeats 4000000 in
theorem s_X12_directory_b552 {x : JX} {ad : Nat → Nat} {U : Mm} {S0 : Hp} {q : Int32 × Mm}  {k552 : Int32 → Int32 → Int64 → Int32 → Int32 → Int32 → Mm → Option (Int32 × Mm)} (hn9 : x_n x = 16) (C : CB x RX12 cX12_directory) (M : CMr x 7 (some .boolean) S0 ad false U eI q) (hk552 : ∀ (a3 : Int32) (a4 : Int32) (a5 : Int64) (a7 : Int32) (a8 : Int32) (a9 : Int32) (T : Mm), k552 a3 a4 a5 a7 a8 a9 T = some q → Jr x ad false U T [(0, .ref (ad 133)), (3, .int a3), (4, .int a4), (5, .long a5), (7, .int a7), (8, .int a8), (9, .int a9)] 552 []) (a3 : Int32) (a4 : Int32) (a5 : Int64) (a7 : Int32) (a8 : Int32) (a9 : Int32) (T : Mm) (h : f_X12_directory_b552 k552 a3 a4 a5 a7 a8 a9 T = some q) : Jr x ad false U T [(0, .ref (ad 133)), (3, .int a3), (4, .int a4), (5, .long a5), (7, .int a7), (8, .int a8), (9, .int a9)] 552 [] := by
  unfold f_X12_directory_b552 at h
  refine r_iload C dX12_directory_552 6 rfl ?_
  refine r_iload C dX12_directory_554 4 rfl ?_
  refine r_ic_ge (tgt := 857) C dX12_directory_556 (by decide) h (fun h => ?_) (fun h => ?_)
  · refine r_aload_n C dX12_directory_857 rfl 0 rfl ?_
    refine r_iload_n C dX12_directory_858 rfl 1 rfl ?_
    refine r_iload C dX12_directory_859 2 rfl ?_
    refine r_callVN C M h [.int a3, .int a4] [] mlX12_238 mcX12_comes (fun q9 e9 => s_X12_comes a3 a4  e9) kq_133 rfl (by decide) (by decide) rfl rfl (Nat.le_of_ble_eq_true rfl) dX12_directory_861 (fun _ T1 h => ?_)
    refine r_aload_n C dX12_directory_864 rfl 0 rfl ?_
    show Jr _ _ _ _ _ _ 865 _
    refine r_callVN C M h [] [] mlX12_241 mcX12_white (fun q9 e9 => s_X12_white   e9) kq_133 rfl (by decide) (by decide) rfl rfl (Nat.le_of_ble_eq_true rfl) dX12_directory_865 (fun _ T2 h => ?_)
    refine r_iconst (v := 1) C dX12_directory_868 (by decide) ?_
    exact r_zret C M dX12_directory_869 (by decide) h
  · refine r_aload_n C dX12_directory_559 rfl 0 rfl ?_
    refine r_getp (f := 1274) (j := 172) C flX12_130 dX12_directory_560 kq_133 (by decide) rfl (fun W => pt_1274 kq_133 W) ?_
    refine r_iload C dX12_directory_563 6 rfl ?_
    refine r_lald (n := 40) C dX12_directory_565 kq_172 lq_172 h (fun j3 hj4 h => ?_)
    refine r_aload_n C dX12_directory_566 rfl 0 rfl ?_
    show Jr _ _ _ _ _ _ 567 _
    refine r_getp (f := 1275) (j := 173) C flX12_133 dX12_directory_567 kq_133 (by decide) rfl (fun W => pt_1275 kq_133 W) ?_
    refine r_iload C dX12_directory_570 6 rfl ?_
    refine r_lald (n := 40) C dX12_directory_572 kq_173 lq_173 h (fun j5 hj6 h => ?_)
    refine r_ladd C dX12_directory_573 rfl ?_
    refine r_aload_n C dX12_directory_574 rfl 0 rfl ?_
    refine r_geti (f := 1268) C flX12_589 dX12_directory_575 kq_133 (by decide) (by decide) rfl ?_
    show Jr _ _ _ _ _ _ 578 _
    refine r_i2l C dX12_directory_578 rfl ?_
    refine r_lcmp C dX12_directory_579 ?_
    refine r_if_le (tgt := 620) C dX12_directory_580 (by decide) h (fun h => ?_) (fun h => ?_)
    · refine r_iconst (v := 0) C dX12_directory_620 (by decide) ?_
      refine r_istore (lv' := [(10, .int 0), (0, .ref (ad 133)), (3, .int a3), (4, .int a4), (5, .long a5), (7, .int a7), (8, .int a8), (9, .int a9)]) C dX12_directory_621 (by rw [hn9]; decide) rfl ?_
      refine Jr.sub [1, 2, 3, 4, 5, 6, 7, 0] (lv' := [(0, .ref (ad 133)), (3, .int a3), (4, .int a4), (5, .long a5), (7, .int a7), (8, .int a8), (9, .int a9), (10, .int 0)]) rfl ?_
      exact s_X12_directory_l623 hn9 C M hk552 FU a3 a4 a5 a7 a8 a9 0 T h
    · refine r_aload_n C dX12_directory_583 rfl 0 rfl ?_
      refine r_iconst (v := 5) C dX12_directory_584 (by decide) ?_
      refine r_aload_n C dX12_directory_585 rfl 0 rfl ?_
      refine r_getp (f := 1274) (j := 172) C flX12_130 dX12_directory_586 kq_133 (by decide) rfl (fun W => pt_1274 kq_133 W) ?_
      refine r_iload C dX12_directory_589 6 rfl ?_
      show Jr _ _ _ _ _ _ 591 _
      refine r_lald (n := 40) C dX12_directory_591 kq_172 lq_172 h (fun j7 hj8 h => ?_)
      refine r_aload_n C dX12_directory_592 rfl 0 rfl ?_
      refine r_geti (f := 1268) C flX12_589 dX12_directory_593 kq_133 (by decide) (by decide) rfl ?_
      refine r_i2l C dX12_directory_596 rfl ?_
      refine r_lcmp C dX12_directory_597 ?_
      refine r_if_le (tgt := 608) C dX12_directory_598 (by decide) h (fun h => ?_) (fun h => ?_)
      · refine r_aload_n C dX12_directory_608 rfl 0 rfl ?_
        refine r_getp (f := 1274) (j := 172) C flX12_130 dX12_directory_609 kq_133 (by decide) rfl (fun W => pt_1274 kq_133 W) ?_
        refine r_iload C dX12_directory_612 6 rfl ?_
        refine r_lald (n := 40) C dX12_directory_614 kq_172 lq_172 h (fun j9 hj10 h => ?_)
        refine r_l2i C dX12_directory_615 rfl ?_
        show Jr _ _ _ _ _ _ 616 _
        refine r_callVI C M h [.int 5, .int (((gB T 172 j9)).toInt32)] [] mlX12_592 mcX12_wrong (fun q9 e9 => s_X12_wrong 5 (((gB T 172 j9)).toInt32)  e9) kq_133 rfl (by decide) (by decide) rfl rfl (Nat.le_of_ble_eq_true rfl) dX12_directory_616 (fun v11 T12 h => ?_)
        refine r_gd h (fun hz13 h => ?_)
        exact r_zret C M dX12_directory_619 hz13 h
      · refine r_aload_n C dX12_directory_601 rfl 0 rfl ?_
        refine r_geti (f := 1268) C flX12_589 dX12_directory_602 kq_133 (by decide) (by decide) rfl ?_
        refine r_goto (tgt := 616) C dX12_directory_605 (by decide) ?_
        refine r_callVI C M h [.int 5, .int (gI T 1268 133)] [] mlX12_592 mcX12_wrong (fun q9 e9 => s_X12_wrong 5 (gI T 1268 133)  e9) kq_133 rfl (by decide) (by decide) rfl rfl (Nat.le_of_ble_eq_true rfl) dX12_directory_616 (fun v14 T15 h => ?_)
        refine r_gd h (fun hz16 h => ?_)
        exact r_zret C M dX12_directory_619 hz16 h
noncomputable def f_X12_directory_l552 (n : Nat) : Int32 → Int32 → Int64 → Int32 → Int32 → Int32 → Mm → Option (Int32 × Mm) := Nat.rec (fun _ _ _ _ _ _ _ => none) (fun _ ih => f_X12_directory_b552 ih) n
theorem s_X12_directory_l552 {x : JX} {ad : Nat → Nat} {U : Mm} {S0 : Hp} {q : Int32 × Mm}  (hn9 : x_n x = 16) (C : CB x RX12 cX12_directory) (M : CMr x 7 (some .boolean) S0 ad false U eI q) : ∀ (n : Nat), ∀ (a3 : Int32) (a4 : Int32) (a5 : Int64) (a7 : Int32) (a8 : Int32) (a9 : Int32) (T : Mm), f_X12_directory_l552  n a3 a4 a5 a7 a8 a9 T = some q → Jr x ad false U T [(0, .ref (ad 133)), (3, .int a3), (4, .int a4), (5, .long a5), (7, .int a7), (8, .int a8), (9, .int a9)] 552 [] := by
  intro n
  induction n with
  | zero => intro a3 a4 a5 a7 a8 a9 T  h; exact absurd h (by intro h; cases h)
  | succ n ih => exact fun a3 a4 a5 a7 a8 a9 T  h => s_X12_directory_b552 hn9 C M (ih) a3 a4 a5 a7 a8 a9 T  h
noncomputable def f_X12_directory_b482 (k343 : Int32 → Int32 → Int64 → Int32 → Int32 → Mm → Option (Int32 × Mm)) (k482 : Int32 → Int32 → Int64 → Int32 → Int32 → Int32 → Int32 → Mm → Option (Int32 × Mm)) (a3 : Int32) (a4 : Int32) (a5 : Int64) (a7 : Int32) (a8 : Int32) (a9 : Int32) (a15 : Int32) (T : Mm) : Option (Int32 × Mm) :=
  if a7 ≤ a15 then (k343 a3 a4 a5 a7 (a8 + 6) T)
  else (if a8 = 273 then (bd (f_X12_valueOf a9 a15 T) fun v6 T7 =>
  ix a15 40 fun j8 => lb (uB T7 172 j8 (v6)) fun T10 =>
  k482 a3 a4 a5 a7 a8 a9 (a15 + 1) T10)
  else (bd (f_X12_valueOf a9 a15 T) fun v1 T2 =>
  ix a15 40 fun j3 => lb (uB T2 173 j3 (v1)) fun T5 =>
  k482 a3 a4 a5 a7 a8 a9 (a15 + 1) T5))
set_option maxRecDepth 100000 in
set_option maxHeartbeats 4000000 in
theorem s_X12_directory_b482 {x : JX} {ad : Nat → Nat} {U : Mm} {S0 : Hp} {q : Int32 × Mm}  {k343 : Int32 → Int32 → Int64 → Int32 → Int32 → Mm → Option (Int32 × Mm)} {k482 : Int32 → Int32 → Int64 → Int32 → Int32 → Int32 → Int32 → Mm → Option (Int32 × Mm)} (hn9 : x_n x = 16) (C : CB x RX12 cX12_directory) (M : CMr x 7 (some .boolean) S0 ad false U eI q) (hk343 : ∀ (a3 : Int32) (a4 : Int32) (a5 : Int64) (a7 : Int32) (a8 : Int32) (T : Mm), k343 a3 a4 a5 a7 a8 T = some q → Jr x ad false U T [(0, .ref (ad 133)), (3, .int a3), (4, .int a4), (5, .long a5), (7, .int a7), (8, .int a8)] 343 []) (hk482 : ∀ (a3 : Int32) (a4 : Int32) (a5 : Int64) (a7 : Int32) (a8 : Int32) (a9 : Int32) (a15 : Int32) (T : Mm), k482 a3 a4 a5 a7 a8 a9 a15 T = some q → Jr x ad false U T [(0, .ref (ad 133)), (3, .int a3), (4, .int a4), (5, .long a5), (7, .int a7), (8, .int a8), (9, .int a9), (15, .int a15)] 482 []) (a3 : Int32) (a4 : Int32) (a5 : Int64) (a7 : Int32) (a8 : Int32) (a9 : Int32) (a15 : Int32) (T : Mm) (h : f_X12_directory_b482 k343 k482 a3 a4 a5 a7 a8 a9 a15 T = some q) : Jr x ad false U T [(0, .ref (ad 133)), (3, .int a3), (4, .int a4), (5, .long a5), (7, .int a7), (8, .int a8), (9, .int a9), (15, .int a15)] 482 [] := by
  unfold f_X12_directory_b482 at h
  refine r_iload C dX12_directory_482 7 rfl ?_
  refine r_iload C dX12_directory_484 4 rfl ?_
  refine r_ic_ge (tgt := 536) C dX12_directory_486 (by decide) h (fun h => ?_) (fun h => ?_)
  · refine r_iinc (q := 5) (v := (a8 + 6)) (lv' := [(8, .int (a8 + 6)), (0, .ref (ad 133)), (3, .int a3), (4, .int a4), (5, .long a5), (7, .int a7), (9, .int a9), (15, .int a15)]) C dX12_directory_536 rfl (by rw [show Int32.ofInt (6) = 6 by decide]) (by rw [hn9]; decide) rfl ?_
    refine r_goto (tgt := 343) C dX12_directory_539 (by decide) ?_
    refine Jr.sub [1, 2, 3, 4, 5, 0] (lv' := [(0, .ref (ad 133)), (3, .int a3), (4, .int a4), (5, .long a5), (7, .int a7), (8, .int (a8 + 6))]) rfl ?_
    exact hk343 a3 a4 a5 a7 (a8 + 6) T h
  · refine r_iload C dX12_directory_489 5 rfl ?_
    refine r_sipush (v := 273) C dX12_directory_491 (by decide) ?_
    refine r_ic_ne (tgt := 515) C dX12_directory_494 (by decide) h (fun h => ?_) (fun h => ?_)
    · refine r_aload_n C dX12_directory_515 rfl 0 rfl ?_
      refine r_getp (f := 1275) (j := 173) C flX12_133 dX12_directory_516 kq_133 (by decide) rfl (fun W => pt_1275 kq_133 W) ?_
      refine r_iload C dX12_directory_519 7 rfl ?_
      refine r_aload_n C dX12_directory_521 rfl 0 rfl ?_
      refine r_iload C dX12_directory_522 6 rfl ?_
      show Jr _ _ _ _ _ _ 524 _
      refine r_iload C dX12_directory_524 7 rfl ?_
      refine r_callVJ C M h [.int a9, .int a15] [.int a15, .ref (ad 173)] mlX12_619 mcX12_valueOf (fun q9 e9 => s_X12_valueOf a9 a15  e9) kq_133 rfl (by decide) (by decide) rfl rfl (Nat.le_of_ble_eq_true rfl) dX12_directory_526 (fun v1 T2 h => ?_)
      refine r_last (n := 40) C dX12_directory_529 kq_173 lq_173 h (fun j3 T5 hj4 h => ?_)
      refine r_iinc (q := 7) (v := (a15 + 1)) (lv' := [(15, .int (a15 + 1)), (0, .ref (ad 133)), (3, .int a3), (4, .int a4), (5, .long a5), (7, .int a7), (8, .int a8), (9, .int a9)]) C dX12_directory_530 rfl (by rw [show Int32.ofInt (1) = 1 by decide]) (by rw [hn9]; decide) rfl ?_
      refine r_goto (tgt := 482) C dX12_directory_533 (by decide) ?_
      refine Jr.sub [1, 2, 3, 4, 5, 6, 7, 0] (lv' := [(0, .ref (ad 133)), (3, .int a3), (4, .int a4), (5, .long a5), (7, .int a7), (8, .int a8), (9, .int a9), (15, .int (a15 + 1))]) rfl ?_
      exact hk482 a3 a4 a5 a7 a8 a9 (a15 + 1) T5 h
    · refine r_aload_n C dX12_directory_497 rfl 0 rfl ?_
      refine r_getp (f := 1274) (j := 172) C flX12_130 dX12_directory_498 kq_133 (by decide) rfl (fun W => pt_1274 kq_133 W) ?_
      refine r_iload C dX12_directory_501 7 rfl ?_
      refine r_aload_n C dX12_directory_503 rfl 0 rfl ?_
      refine r_iload C dX12_directory_504 6 rfl ?_
      show Jr _ _ _ _ _ _ 506 _
      refine r_iload C dX12_directory_506 7 rfl ?_
      refine r_callVJ C M h [.int a9, .int a15] [.int a15, .ref (ad 172)] mlX12_619 mcX12_valueOf (fun q9 e9 => s_X12_valueOf a9 a15  e9) kq_133 rfl (by decide) (by decide) rfl rfl (Nat.le_of_ble_eq_true rfl) dX12_directory_508 (fun v6 T7 h => ?_)
      refine r_last (n := 40) C dX12_directory_511 kq_172 lq_172 h (fun j8 T10 hj9 h => ?_)
      refine r_goto (tgt := 530) C dX12_directory_512 (by decide) ?_
      refine r_iinc (q := 7) (v := (a15 + 1)) (lv' := [(15, .int (a15 + 1)), (0, .ref (ad 133)), (3, .int a3), (4, .int a4), (5, .long a5), (7, .int a7), (8, .int a8), (9, .int a9)]) C dX12_directory_530 rfl (by rw [show Int32.ofInt (1) = 1 by decide]) (by rw [hn9]; decide) rfl ?_
      refine r_goto (tgt := 482) C dX12_directory_533 (by decide) ?_
      refine Jr.sub [1, 2, 3, 4, 5, 6, 7, 0] (lv' := [(0, .ref (ad 133)), (3, .int a3), (4, .int a4), (5, .long a5), (7, .int a7), (8, .int a8), (9, .int a9), (15, .int (a15 + 1))]) rfl ?_
      exact hk482 a3 a4 a5 a7 a8 a9 (a15 + 1) T10 h
noncomputable def f_X12_directory_l482 (k343 : Int32 → Int32 → Int64 → Int32 → Int32 → Mm → Option (Int32 × Mm)) (n : Nat) : Int32 → Int32 → Int64 → Int32 → Int32 → Int32 → Int32 → Mm → Option (Int32 × Mm) := Nat.rec (fun _ _ _ _ _ _ _ _ => none) (fun _ ih => f_X12_directory_b482 k343 ih) n
theorem s_X12_directory_l482 {x : JX} {ad : Nat → Nat} {U : Mm} {S0 : Hp} {q : Int32 × Mm}  {k343 : Int32 → Int32 → Int64 → Int32 → Int32 → Mm → Option (Int32 × Mm)} (hn9 : x_n x = 16) (C : CB x RX12 cX12_directory) (M : CMr x 7 (some .boolean) S0 ad false U eI q) (hk343 : ∀ (a3 : Int32) (a4 : Int32) (a5 : Int64) (a7 : Int32) (a8 : Int32) (T : Mm), k343 a3 a4 a5 a7 a8 T = some q → Jr x ad false U T [(0, .ref (ad 133)), (3, .int a3), (4, .int a4), (5, .long a5), (7, .int a7), (8, .int a8)] 343 []) : ∀ (n : Nat), ∀ (a3 : Int32) (a4 : Int32) (a5 : Int64) (a7 : Int32) (a8 : Int32) (a9 : Int32) (a15 : Int32) (T : Mm), f_X12_directory_l482 k343 n a3 a4 a5 a7 a8 a9 a15 T = some q → Jr x ad false U T [(0, .ref (ad 133)), (3, .int a3), (4, .int a4), (5, .long a5), (7, .int a7), (8, .int a8), (9, .int a9), (15, .int a15)] 482 [] := by
  intro n
  induction n with
  | zero => intro a3 a4 a5 a7 a8 a9 a15 T  h; exact absurd h (by intro h; cases h)
  | succ n ih => exact fun a3 a4 a5 a7 a8 a9 a15 T  h => s_X12_directory_b482 hn9 C M hk343 (ih) a3 a4 a5 a7 a8 a9 a15 T  h
noncomputable def f_X12_directory_416 (k343 : Int32 → Int32 → Int64 → Int32 → Int32 → Mm → Option (Int32 × Mm)) (a3 : Int32) (a4 : Int32) (a5 : Int64) (a7 : Int32) (a8 : Int32) (a9 : Int32) (a12 : Int64) (a14 : Int32) (T : Mm) : Option (Int32 × Mm) :=
  if (lg_cmp a12 ((a7).toInt64)) = 0 then (if 40 < a7 then (bd (f_X12_wrong 4 a9 T) fun v4 T5 =>
  gd (v4 = 0 ∨ v4 = 1) <|
  some (v4, T5))
  else (if (lg_cmp (a12 * ((a14).toInt64)) 4) ≤ 0 then (f_X12_directory_l482 k343 FU a3 a4 a5 a7 a8 a9 0 T)
  else (bd (f_X12_picture (a9 + 8) 4 T) fun v7 T8 =>
  if (lg_cmp (v7 + (a12 * ((a14).toInt64))) (((gI T8 1268 133)).toInt64)) ≤ 0 then (f_X12_directory_l482 k343 FU a3 a4 a5 a7 a8 a9 0 T8)
  else (bd (f_X12_wrong 4 a9 T8) fun v9 T10 =>
  gd (v9 = 0 ∨ v9 = 1) <|
  some (v9, T10)))))
  else (bd (f_X12_wrong 4 a9 T) fun v1 T2 =>
  gd (v1 = 0 ∨ v1 = 1) <|
  some (v1, T2))
set_option maxRecDepth 100000 in
set_option maxHeartbeats 4000000 in
theorem s_X12_directory_416 {x : JX} {ad : Nat → Nat} {U : Mm} {S0 : Hp} {q : Int32 × Mm}  {k343 : Int32 → Int32 → Int64 → Int32 → Int32 → Mm → Option (Int32 × Mm)} (hn9 : x_n x = 16) (C : CB x RX12 cX12_directory) (M : CMr x 7 (some .boolean) S0 ad false U eI q) (hk343 : ∀ (a3 : Int32) (a4 : Int32) (a5 : Int64) (a7 : Int32) (a8 : Int32) (T : Mm), k343 a3 a4 a5 a7 a8 T = some q → Jr x ad false U T [(0, .ref (ad 133)), (3, .int a3), (4, .int a4), (5, .long a5), (7, .int a7), (8, .int a8)] 343 []) (a3 : Int32) (a4 : Int32) (a5 : Int64) (a7 : Int32) (a8 : Int32) (a9 : Int32) (a12 : Int64) (a14 : Int32) (T : Mm) (h : f_X12_directory_416 k343 a3 a4 a5 a7 a8 a9 a12 a14 T = some q) : Jr x ad false U T [(0, .ref (ad 133)), (3, .int a3), (4, .int a4), (5, .long a5), (7, .int a7), (8, .int a8), (9, .int a9), (12, .long a12), (14, .int a14)] 416 [] := by
  unfold f_X12_directory_416 at h
  refine r_lload C dX12_directory_416 7 rfl ?_
  refine r_iload C dX12_directory_418 4 rfl ?_
  refine r_i2l C dX12_directory_420 rfl ?_
  refine r_lcmp C dX12_directory_421 ?_
  refine r_if_ne (tgt := 471) C dX12_directory_422 (by decide) h (fun h => ?_) (fun h => ?_)
  · refine r_aload_n C dX12_directory_471 rfl 0 rfl ?_
    refine r_iconst (v := 4) C dX12_directory_472 (by decide) ?_
    refine r_iload C dX12_directory_473 6 rfl ?_
    refine r_callVI C M h [.int 4, .int a9] [] mlX12_592 mcX12_wrong (fun q9 e9 => s_X12_wrong 4 a9  e9) kq_133 rfl (by decide) (by decide) rfl rfl (Nat.le_of_ble_eq_true rfl) dX12_directory_475 (fun v1 T2 h => ?_)
    refine r_gd h (fun hz3 h => ?_)
    exact r_zret C M dX12_directory_478 hz3 h
  · refine r_iload C dX12_directory_425 4 rfl ?_
    refine r_bipush (v := 40) C dX12_directory_427 (by decide) ?_
    refine r_ic_gt (tgt := 471) C dX12_directory_429 (by decide) h (fun h => ?_) (fun h => ?_)
    · refine r_aload_n C dX12_directory_471 rfl 0 rfl ?_
      refine r_iconst (v := 4) C dX12_directory_472 (by decide) ?_
      refine r_iload C dX12_directory_473 6 rfl ?_
      refine r_callVI C M h [.int 4, .int a9] [] mlX12_592 mcX12_wrong (fun q9 e9 => s_X12_wrong 4 a9  e9) kq_133 rfl (by decide) (by decide) rfl rfl (Nat.le_of_ble_eq_true rfl) dX12_directory_475 (fun v4 T5 h => ?_)
      refine r_gd h (fun hz6 h => ?_)
      exact r_zret C M dX12_directory_478 hz6 h
    · refine r_lload C dX12_directory_432 7 rfl ?_
      refine r_iload C dX12_directory_434 8 rfl ?_
      refine r_i2l C dX12_directory_436 rfl ?_
      refine r_lmul C dX12_directory_437 rfl ?_
      refine r_ldc2 (v := 4) C dX12_directory_438 kcX12_603 ?_
      show Jr _ _ _ _ _ _ 441 _
      refine r_lcmp C dX12_directory_441 ?_
      refine r_if_le (tgt := 479) C dX12_directory_442 (by decide) h (fun h => ?_) (fun h => ?_)
      · refine r_iconst (v := 0) C dX12_directory_479 (by decide) ?_
        refine r_istore (lv' := [(15, .int 0), (0, .ref (ad 133)), (3, .int a3), (4, .int a4), (5, .long a5), (7, .int a7), (8, .int a8), (9, .int a9), (12, .long a12), (14, .int a14)]) C dX12_directory_480 (by rw [hn9]; decide) rfl ?_
        refine Jr.sub [1, 2, 3, 4, 5, 6, 7, 0] (lv' := [(0, .ref (ad 133)), (3, .int a3), (4, .int a4), (5, .long a5), (7, .int a7), (8, .int a8), (9, .int a9), (15, .int 0)]) rfl ?_
        exact s_X12_directory_l482 hn9 C M hk343 FU a3 a4 a5 a7 a8 a9 0 T h
      · refine r_aload_n C dX12_directory_445 rfl 0 rfl ?_
        refine r_iload C dX12_directory_446 6 rfl ?_
        refine r_bipush (v := 8) C dX12_directory_448 (by decide) ?_
        refine r_iadd C dX12_directory_450 rfl ?_
        refine r_iconst (v := 4) C dX12_directory_451 (by decide) ?_
        show Jr _ _ _ _ _ _ 452 _
        refine r_callVJ C M h [.int (a9 + 8), .int 4] [] mlX12_595 mcX12_picture (fun q9 e9 => s_X12_picture (a9 + 8) 4  e9) kq_133 rfl (by decide) (by decide) rfl rfl (Nat.le_of_ble_eq_true rfl) dX12_directory_452 (fun v7 T8 h => ?_)
        refine r_lload C dX12_directory_455 7 rfl ?_
        refine r_iload C dX12_directory_457 8 rfl ?_
        refine r_i2l C dX12_directory_459 rfl ?_
        refine r_lmul C dX12_directory_460 rfl ?_
        refine r_ladd C dX12_directory_461 rfl ?_
        show Jr _ _ _ _ _ _ 462 _
        refine r_aload_n C dX12_directory_462 rfl 0 rfl ?_
        refine r_geti (f := 1268) C flX12_589 dX12_directory_463 kq_133 (by decide) (by decide) rfl ?_
        refine r_i2l C dX12_directory_466 rfl ?_
        refine r_lcmp C dX12_directory_467 ?_
        refine r_if_le (tgt := 479) C dX12_directory_468 (by decide) h (fun h => ?_) (fun h => ?_)
        · refine r_iconst (v := 0) C dX12_directory_479 (by decide) ?_
          refine r_istore (lv' := [(15, .int 0), (0, .ref (ad 133)), (3, .int a3), (4, .int a4), (5, .long a5), (7, .int a7), (8, .int a8), (9, .int a9), (12, .long a12), (14, .int a14)]) C dX12_directory_480 (by rw [hn9]; decide) rfl ?_
          refine Jr.sub [1, 2, 3, 4, 5, 6, 7, 0] (lv' := [(0, .ref (ad 133)), (3, .int a3), (4, .int a4), (5, .long a5), (7, .int a7), (8, .int a8), (9, .int a9), (15, .int 0)]) rfl ?_
          exact s_X12_directory_l482 hn9 C M hk343 FU a3 a4 a5 a7 a8 a9 0 T8 h
        · refine r_aload_n C dX12_directory_471 rfl 0 rfl ?_
          refine r_iconst (v := 4) C dX12_directory_472 (by decide) ?_
          refine r_iload C dX12_directory_473 6 rfl ?_
          refine r_callVI C M h [.int 4, .int a9] [] mlX12_592 mcX12_wrong (fun q9 e9 => s_X12_wrong 4 a9  e9) kq_133 rfl (by decide) (by decide) rfl rfl (Nat.le_of_ble_eq_true rfl) dX12_directory_475 (fun v9 T10 h => ?_)
          refine r_gd h (fun hz11 h => ?_)
          exact r_zret C M dX12_directory_478 hz11 h
noncomputable def f_X12_directory_396 (k343 : Int32 → Int32 → Int64 → Int32 → Int32 → Mm → Option (Int32 × Mm)) (a3 : Int32) (a4 : Int32) (a5 : Int64) (a7 : Int32) (a8 : Int32) (a9 : Int32) (a10 : Int64) (a12 : Int64) (b0 : Int32) (T : Mm) : Option (Int32 × Mm) :=
  if (lg_cmp a10 3) = 0 then (f_X12_directory_416 k343 a3 a4 a5 a7 a8 a9 a12 b0 T)
  else (if (lg_cmp a10 4) = 0 then (f_X12_directory_416 k343 a3 a4 a5 a7 a8 a9 a12 b0 T)
  else (bd (f_X12_wrong 4 a9 T) fun v1 T2 =>
  gd (v1 = 0 ∨ v1 = 1) <|
  some (v1, T2)))
set_option maxRecDepth 100000 in
set_option maxHeartbeats 4000000 in
theorem s_X12_directory_396 {x : JX} {ad : Nat → Nat} {U : Mm} {S0 : Hp} {q : Int32 × Mm}  {k343 : Int32 → Int32 → Int64 → Int32 → Int32 → Mm → Option (Int32 × Mm)} (hn9 : x_n x = 16) (C : CB x RX12 cX12_directory) (M : CMr x 7 (some .boolean) S0 ad false U eI q) (hk343 : ∀ (a3 : Int32) (a4 : Int32) (a5 : Int64) (a7 : Int32) (a8 : Int32) (T : Mm), k343 a3 a4 a5 a7 a8 T = some q → Jr x ad false U T [(0, .ref (ad 133)), (3, .int a3), (4, .int a4), (5, .long a5), (7, .int a7), (8, .int a8)] 343 []) (a3 : Int32) (a4 : Int32) (a5 : Int64) (a7 : Int32) (a8 : Int32) (a9 : Int32) (a10 : Int64) (a12 : Int64) (b0 : Int32) (T : Mm) (h : f_X12_directory_396 k343 a3 a4 a5 a7 a8 a9 a10 a12 b0 T = some q) : Jr x ad false U T [(0, .ref (ad 133)), (3, .int a3), (4, .int a4), (5, .long a5), (7, .int a7), (8, .int a8), (9, .int a9), (10, .long a10), (12, .long a12)] 396 [.int b0] := by
  unfold f_X12_directory_396 at h
  refine r_istore (lv' := [(14, .int b0), (0, .ref (ad 133)), (3, .int a3), (4, .int a4), (5, .long a5), (7, .int a7), (8, .int a8), (9, .int a9), (10, .long a10), (12, .long a12)]) C dX12_directory_396 (by rw [hn9]; decide) rfl ?_
  refine r_lload C dX12_directory_398 8 rfl ?_
  refine r_ldc2 (v := 3) C dX12_directory_400 kcX12_610 ?_
  refine r_lcmp C dX12_directory_403 ?_
  refine r_if_eq (tgt := 416) C dX12_directory_404 (by decide) h (fun h => ?_) (fun h => ?_)
  · refine Jr.sub [1, 2, 3, 4, 5, 6, 7, 9, 0] (lv' := [(0, .ref (ad 133)), (3, .int a3), (4, .int a4), (5, .long a5), (7, .int a7), (8, .int a8), (9, .int a9), (12, .long a12), (14, .int b0)]) rfl ?_
    exact s_X12_directory_416 hn9 C M hk343 a3 a4 a5 a7 a8 a9 a12 b0 T h
  · refine r_lload C dX12_directory_407 8 rfl ?_
    refine r_ldc2 (v := 4) C dX12_directory_409 kcX12_603 ?_
    refine r_lcmp C dX12_directory_412 ?_
    refine r_if_ne (tgt := 471) C dX12_directory_413 (by decide) h (fun h => ?_) (fun h => ?_)
    · refine r_aload_n C dX12_directory_471 rfl 1 rfl ?_
      refine r_iconst (v := 4) C dX12_directory_472 (by decide) ?_
      refine r_iload C dX12_directory_473 7 rfl ?_
      refine r_callVI C M h [.int 4, .int a9] [] mlX12_592 mcX12_wrong (fun q9 e9 => s_X12_wrong 4 a9  e9) kq_133 rfl (by decide) (by decide) rfl rfl (Nat.le_of_ble_eq_true rfl) dX12_directory_475 (fun v1 T2 h => ?_)
      refine r_gd h (fun hz3 h => ?_)
      exact r_zret C M dX12_directory_478 hz3 h
    · refine Jr.sub [1, 2, 3, 4, 5, 6, 7, 9, 0] (lv' := [(0, .ref (ad 133)), (3, .int a3), (4, .int a4), (5, .long a5), (7, .int a7), (8, .int a8), (9, .int a9), (12, .long a12), (14, .int b0)]) rfl ?_
      exact s_X12_directory_416 hn9 C M hk343 a3 a4 a5 a7 a8 a9 a12 b0 T h
noncomputable def f_X12_directory_b343 (k343 : Int32 → Int32 → Int64 → Int32 → Int32 → Mm → Option (Int32 × Mm)) (a3 : Int32) (a4 : Int32) (a5 : Int64) (a7 : Int32) (a8 : Int32) (T : Mm) : Option (Int32 × Mm) :=
  if 279 < a8 then (bd (f_X12_white T) fun _ T1 =>
  f_X12_directory_l552 FU a3 a4 a5 a7 0 0 T1)
  else (ix a8 400 fun j2 =>
  lb ((gA T 170 j2)) fun v4 =>
  bd (f_X12_picture (v4 + 2) 2 T) fun v5 T6 =>
  bd (f_X12_picture (v4 + 4) 4 T6) fun v7 T8 =>
  if (lg_cmp v5 3) = 0 then (f_X12_directory_396 k343 a3 a4 a5 a7 a8 v4 v5 v7 2 T8)
  else (f_X12_directory_396 k343 a3 a4 a5 a7 a8 v4 v5 v7 4 T8))
set_option maxRecDepth 100000 in
set_option maxHeartbeats 4000000 in
theorem s_X12_directory_b343 {x : JX} {ad : Nat → Nat} {U : Mm} {S0 : Hp} {q : Int32 × Mm}  {k343 : Int32 → Int32 → Int64 → Int32 → Int32 → Mm → Option (Int32 × Mm)} (hn9 : x_n x = 16) (C : CB x RX12 cX12_directory) (M : CMr x 7 (some .boolean) S0 ad false U eI q) (hk343 : ∀ (a3 : Int32) (a4 : Int32) (a5 : Int64) (a7 : Int32) (a8 : Int32) (T : Mm), k343 a3 a4 a5 a7 a8 T = some q → Jr x ad false U T [(0, .ref (ad 133)), (3, .int a3), (4, .int a4), (5, .long a5), (7, .int a7), (8, .int a8)] 343 []) (a3 : Int32) (a4 : Int32) (a5 : Int64) (a7 : Int32) (a8 : Int32) (T : Mm) (h : f_X12_directory_b343 k343 a3 a4 a5 a7 a8 T = some q) : Jr x ad false U T [(0, .ref (ad 133)), (3, .int a3), (4, .int a4), (5, .long a5), (7, .int a7), (8, .int a8)] 343 [] := by
  unfold f_X12_directory_b343 at h
  refine r_iload C dX12_directory_343 5 rfl ?_
  refine r_sipush (v := 279) C dX12_directory_345 (by decide) ?_
  refine r_ic_gt (tgt := 542) C dX12_directory_348 (by decide) h (fun h => ?_) (fun h => ?_)
  · refine r_aload_n C dX12_directory_542 rfl 0 rfl ?_
    refine r_callVN C M h [] [] mlX12_241 mcX12_white (fun q9 e9 => s_X12_white   e9) kq_133 rfl (by decide) (by decide) rfl rfl (Nat.le_of_ble_eq_true rfl) dX12_directory_543 (fun _ T1 h => ?_)
    refine r_iconst (v := 0) C dX12_directory_546 (by decide) ?_
    refine r_istore (lv' := [(8, .int 0), (0, .ref (ad 133)), (3, .int a3), (4, .int a4), (5, .long a5), (7, .int a7)]) C dX12_directory_547 (by rw [hn9]; decide) rfl ?_
    refine r_iconst (v := 0) C dX12_directory_549 (by decide) ?_
    show Jr _ _ _ _ _ _ 550 _
    refine r_istore (lv' := [(9, .int 0), (8, .int 0), (0, .ref (ad 133)), (3, .int a3), (4, .int a4), (5, .long a5), (7, .int a7)]) C dX12_directory_550 (by rw [hn9]; decide) rfl ?_
    refine Jr.sub [2, 3, 4, 5, 6, 1, 0] (lv' := [(0, .ref (ad 133)), (3, .int a3), (4, .int a4), (5, .long a5), (7, .int a7), (8, .int 0), (9, .int 0)]) rfl ?_
    exact s_X12_directory_l552 hn9 C M  FU a3 a4 a5 a7 0 0 T1 h
  · refine r_aload_n C dX12_directory_351 rfl 0 rfl ?_
    refine r_getp (f := 1272) (j := 170) C flX12_123 dX12_directory_352 kq_133 (by decide) rfl (fun W => pt_1272 kq_133 W) ?_
    refine r_iload C dX12_directory_355 5 rfl ?_
    refine r_iald (n := 400) C dX12_directory_357 kq_170 lq_170 h (fun j2 hj3 h => ?_)
    refine r_lbI h (fun v4 h => ?_)
    refine r_istore (lv' := [(9, .int v4), (0, .ref (ad 133)), (3, .int a3), (4, .int a4), (5, .long a5), (7, .int a7), (8, .int a8)]) C dX12_directory_358 (by rw [hn9]; decide) rfl ?_
    show Jr _ _ _ _ _ _ 360 _
    refine r_aload_n C dX12_directory_360 rfl 1 rfl ?_
    refine r_iload C dX12_directory_361 0 rfl ?_
    refine r_iconst (v := 2) C dX12_directory_363 (by decide) ?_
    refine r_iadd C dX12_directory_364 rfl ?_
    refine r_iconst (v := 2) C dX12_directory_365 (by decide) ?_
    refine r_callVJ C M h [.int (v4 + 2), .int 2] [] mlX12_595 mcX12_picture (fun q9 e9 => s_X12_picture (v4 + 2) 2  e9) kq_133 rfl (by decide) (by decide) rfl rfl (Nat.le_of_ble_eq_true rfl) dX12_directory_366 (fun v5 T6 h => ?_)
    show Jr _ _ _ _ _ _ 369 _
    refine r_lstore (lv' := [(10, .long v5), (9, .int v4), (0, .ref (ad 133)), (3, .int a3), (4, .int a4), (5, .long a5), (7, .int a7), (8, .int a8)]) C dX12_directory_369 (by rw [hn9]; decide) rfl ?_
    refine r_aload_n C dX12_directory_371 rfl 2 rfl ?_
    refine r_iload C dX12_directory_372 1 rfl ?_
    refine r_iconst (v := 4) C dX12_directory_374 (by decide) ?_
    refine r_iadd C dX12_directory_375 rfl ?_
    refine r_iconst (v := 4) C dX12_directory_376 (by decide) ?_
    show Jr _ _ _ _ _ _ 377 _
    refine r_callVJ C M h [.int (v4 + 4), .int 4] [] mlX12_595 mcX12_picture (fun q9 e9 => s_X12_picture (v4 + 4) 4  e9) kq_133 rfl (by decide) (by decide) rfl rfl (Nat.le_of_ble_eq_true rfl) dX12_directory_377 (fun v7 T8 h => ?_)
    refine r_lstore (lv' := [(12, .long v7), (10, .long v5), (9, .int v4), (0, .ref (ad 133)), (3, .int a3), (4, .int a4), (5, .long a5), (7, .int a7), (8, .int a8)]) C dX12_directory_380 (by rw [hn9]; decide) rfl ?_
    refine r_lload C dX12_directory_382 1 rfl ?_
    refine r_ldc2 (v := 3) C dX12_directory_384 kcX12_610 ?_
    refine r_lcmp C dX12_directory_387 ?_
    refine r_if_ne (tgt := 395) C dX12_directory_388 (by decide) h (fun h => ?_) (fun h => ?_)
    · refine r_iconst (v := 4) C dX12_directory_395 (by decide) ?_
      refine Jr.sub [3, 4, 5, 6, 7, 8, 2, 1, 0] (lv' := [(0, .ref (ad 133)), (3, .int a3), (4, .int a4), (5, .long a5), (7, .int a7), (8, .int a8), (9, .int v4), (10, .long v5), (12, .long v7)]) rfl ?_
      exact s_X12_directory_396 hn9 C M hk343 a3 a4 a5 a7 a8 v4 v5 v7 4 T8 h
    · refine r_iconst (v := 2) C dX12_directory_391 (by decide) ?_
      refine r_goto (tgt := 396) C dX12_directory_392 (by decide) ?_
      refine Jr.sub [3, 4, 5, 6, 7, 8, 2, 1, 0] (lv' := [(0, .ref (ad 133)), (3, .int a3), (4, .int a4), (5, .long a5), (7, .int a7), (8, .int a8), (9, .int v4), (10, .long v5), (12, .long v7)]) rfl ?_
      exact s_X12_directory_396 hn9 C M hk343 a3 a4 a5 a7 a8 v4 v5 v7 2 T8 h
noncomputable def f_X12_directory_l343 (n : Nat) : Int32 → Int32 → Int64 → Int32 → Int32 → Mm → Option (Int32 × Mm) := Nat.rec (fun _ _ _ _ _ _ => none) (fun _ ih => f_X12_directory_b343 ih) n
theorem s_X12_directory_l343 {x : JX} {ad : Nat → Nat} {U : Mm} {S0 : Hp} {q : Int32 × Mm}  (hn9 : x_n x = 16) (C : CB x RX12 cX12_directory) (M : CMr x 7 (some .boolean) S0 ad false U eI q) : ∀ (n : Nat), ∀ (a3 : Int32) (a4 : Int32) (a5 : Int64) (a7 : Int32) (a8 : Int32) (T : Mm), f_X12_directory_l343  n a3 a4 a5 a7 a8 T = some q → Jr x ad false U T [(0, .ref (ad 133)), (3, .int a3), (4, .int a4), (5, .long a5), (7, .int a7), (8, .int a8)] 343 [] := by
  intro n
  induction n with
  | zero => intro a3 a4 a5 a7 a8 T  h; exact absurd h (by intro h; cases h)
  | succ n ih => exact fun a3 a4 a5 a7 a8 T  h => s_X12_directory_b343 hn9 C M (ih) a3 a4 a5 a7 a8 T  h
noncomputable def f_X12_directory_309 (a3 : Int32) (a4 : Int32) (b0 : Int64) (T : Mm) : Option (Int32 × Mm) :=
  if (lg_cmp b0 ((a4).toInt64)) < 0 then (gd (¬ b0 = 0) <|
  lb (((((((a4).toInt64) + b0) - 1) / b0)).toInt32) fun v2 =>
  f_X12_directory_l343 FU a3 a4 b0 v2 273 T)
  else (f_X12_directory_l343 FU a3 a4 b0 1 273 T)
set_option maxRecDepth 100000 in
set_option maxHeartbeats 4000000 in
theorem s_X12_directory_309 {x : JX} {ad : Nat → Nat} {U : Mm} {S0 : Hp} {q : Int32 × Mm}  (hn9 : x_n x = 16) (C : CB x RX12 cX12_directory) (M : CMr x 7 (some .boolean) S0 ad false U eI q) (a3 : Int32) (a4 : Int32) (b0 : Int64) (T : Mm) (h : f_X12_directory_309  a3 a4 b0 T = some q) : Jr x ad false U T [(0, .ref (ad 133)), (3, .int a3), (4, .int a4)] 309 [.long b0] := by
  unfold f_X12_directory_309 at h
  refine r_lstore (lv' := [(5, .long b0), (0, .ref (ad 133)), (3, .int a3), (4, .int a4)]) C dX12_directory_309 (by rw [hn9]; decide) rfl ?_
  refine r_lload C dX12_directory_311 0 rfl ?_
  refine r_iload C dX12_directory_313 3 rfl ?_
  refine r_i2l C dX12_directory_315 rfl ?_
  refine r_lcmp C dX12_directory_316 ?_
  show Jr _ _ _ _ _ _ 317 _
  refine r_if_lt (tgt := 324) C dX12_directory_317 (by decide) h (fun h => ?_) (fun h => ?_)
  · refine r_iload C dX12_directory_324 3 rfl ?_
    refine r_i2l C dX12_directory_326 rfl ?_
    refine r_lload C dX12_directory_327 0 rfl ?_
    refine r_ladd C dX12_directory_329 rfl ?_
    refine r_lconst (v := 1) C dX12_directory_330 (by decide) ?_
    show Jr _ _ _ _ _ _ 331 _
    refine r_lsub C dX12_directory_331 rfl ?_
    refine r_lload C dX12_directory_332 0 rfl ?_
    refine r_gd h (fun hz1 h => ?_)
    refine r_ldiv C dX12_directory_334 hz1 rfl ?_
    refine r_l2i C dX12_directory_335 rfl ?_
    refine r_lbI h (fun v2 h => ?_)
    refine r_istore (lv' := [(7, .int v2), (5, .long b0), (0, .ref (ad 133)), (3, .int a3), (4, .int a4)]) C dX12_directory_336 (by rw [hn9]; decide) rfl ?_
    refine r_sipush (v := 273) C dX12_directory_338 (by decide) ?_
    show Jr _ _ _ _ _ _ 341 _
    refine r_istore (lv' := [(8, .int 273), (7, .int v2), (5, .long b0), (0, .ref (ad 133)), (3, .int a3), (4, .int a4)]) C dX12_directory_341 (by rw [hn9]; decide) rfl ?_
    refine Jr.sub [3, 4, 5, 2, 1, 0] (lv' := [(0, .ref (ad 133)), (3, .int a3), (4, .int a4), (5, .long b0), (7, .int v2), (8, .int 273)]) rfl ?_
    exact s_X12_directory_l343 hn9 C M  FU a3 a4 b0 v2 273 T h
  · refine r_iconst (v := 1) C dX12_directory_320 (by decide) ?_
    refine r_goto (tgt := 336) C dX12_directory_321 (by decide) ?_
    refine r_istore (lv' := [(7, .int 1), (5, .long b0), (0, .ref (ad 133)), (3, .int a3), (4, .int a4)]) C dX12_directory_336 (by rw [hn9]; decide) rfl ?_
    refine r_sipush (v := 273) C dX12_directory_338 (by decide) ?_
    refine r_istore (lv' := [(8, .int 273), (7, .int 1), (5, .long b0), (0, .ref (ad 133)), (3, .int a3), (4, .int a4)]) C dX12_directory_341 (by rw [hn9]; decide) rfl ?_
    refine Jr.sub [3, 4, 5, 2, 1, 0] (lv' := [(0, .ref (ad 133)), (3, .int a3), (4, .int a4), (5, .long b0), (7, .int 1), (8, .int 273)]) rfl ?_
    exact s_X12_directory_l343 hn9 C M  FU a3 a4 b0 1 273 T h
noncomputable def f_X12_directory_118 (k31 : Int32 → Int32 → Int32 → Mm → Option (Int32 × Mm)) (a1 : Int32) (a2 : Int32) (a3 : Int32) (a4 : Int32) (a5 : Int32) (T : Mm) : Option (Int32 × Mm) :=
  bd (f_X12_picture (a4 + 4) 4 T) fun v1 T2 =>
  if (lg_cmp v1 1) = 0 then (bd (f_X12_valueOf a4 0 T2) fun v3 T4 =>
  ix a5 400 fun j5 => lb (uB T4 171 j5 (v3)) fun T7 =>
  ix a5 400 fun j8 =>
  bd (f_X12_isMay a5 (gB T7 171 j8) T7) fun v10 T11 =>
  if v10 = 0 then (bd (f_X12_wrong 4 a4 T11) fun v12 T13 =>
  gd (v12 = 0 ∨ v12 = 1) <|
  some (v12, T13))
  else (k31 a1 a2 (a3 + 1) T11))
  else (bd (f_X12_wrong 4 a4 T2) fun v15 T16 =>
  gd (v15 = 0 ∨ v15 = 1) <|
  some (v15, T16))
set_option maxRecDepth 100000 in
set_option maxHeartbeats 4000000 in
theorem s_X12_directory_118 {x : JX} {ad : Nat → Nat} {U : Mm} {S0 : Hp} {q : Int32 × Mm}  {k31 : Int32 → Int32 → Int32 → Mm → Option (Int32 × Mm)} (hn9 : x_n x = 16) (C : CB x RX12 cX12_directory) (M : CMr x 7 (some .boolean) S0 ad false U eI q) (hk31 : ∀ (a1 : Int32) (a2 : Int32) (a3 : Int32) (T : Mm), k31 a1 a2 a3 T = some q → Jr x ad false U T [(0, .ref (ad 133)), (1, .int a1), (2, .int a2), (3, .int a3)] 31 []) (a1 : Int32) (a2 : Int32) (a3 : Int32) (a4 : Int32) (a5 : Int32) (T : Mm) (h : f_X12_directory_118 k31 a1 a2 a3 a4 a5 T = some q) : Jr x ad false U T [(0, .ref (ad 133)), (1, .int a1), (2, .int a2), (3, .int a3), (4, .int a4), (5, .int a5)] 118 [] := by
  unfold f_X12_directory_118 at h
  refine r_aload_n C dX12_directory_118 rfl 0 rfl ?_
  refine r_iload C dX12_directory_119 4 rfl ?_
  refine r_iconst (v := 4) C dX12_directory_121 (by decide) ?_
  refine r_iadd C dX12_directory_122 rfl ?_
  refine r_iconst (v := 4) C dX12_directory_123 (by decide) ?_
  show Jr _ _ _ _ _ _ 124 _
  refine r_callVJ C M h [.int (a4 + 4), .int 4] [] mlX12_595 mcX12_picture (fun q9 e9 => s_X12_picture (a4 + 4) 4  e9) kq_133 rfl (by decide) (by decide) rfl rfl (Nat.le_of_ble_eq_true rfl) dX12_directory_124 (fun v1 T2 h => ?_)
  refine r_lconst (v := 1) C dX12_directory_127 (by decide) ?_
  refine r_lcmp C dX12_directory_128 ?_
  refine r_if_eq (tgt := 140) C dX12_directory_129 (by decide) h (fun h => ?_) (fun h => ?_)
  · refine r_aload_n C dX12_directory_140 rfl 0 rfl ?_
    refine r_getp (f := 1273) (j := 171) C flX12_126 dX12_directory_141 kq_133 (by decide) rfl (fun W => pt_1273 kq_133 W) ?_
    refine r_iload C dX12_directory_144 5 rfl ?_
    refine r_aload_n C dX12_directory_146 rfl 0 rfl ?_
    refine r_iload C dX12_directory_147 4 rfl ?_
    show Jr _ _ _ _ _ _ 149 _
    refine r_iconst (v := 0) C dX12_directory_149 (by decide) ?_
    refine r_callVJ C M h [.int a4, .int 0] [.int a5, .ref (ad 171)] mlX12_619 mcX12_valueOf (fun q9 e9 => s_X12_valueOf a4 0  e9) kq_133 rfl (by decide) (by decide) rfl rfl (Nat.le_of_ble_eq_true rfl) dX12_directory_150 (fun v3 T4 h => ?_)
    refine r_last (n := 400) C dX12_directory_153 kq_171 lq_171 h (fun j5 T7 hj6 h => ?_)
    refine r_iload C dX12_directory_154 5 rfl ?_
    refine r_aload_n C dX12_directory_156 rfl 0 rfl ?_
    refine r_getp (f := 1273) (j := 171) C flX12_126 dX12_directory_157 kq_133 (by decide) rfl (fun W => pt_1273 kq_133 W) ?_
    show Jr _ _ _ _ _ _ 160 _
    refine r_iload C dX12_directory_160 5 rfl ?_
    refine r_lald (n := 400) C dX12_directory_162 kq_171 lq_171 h (fun j8 hj9 h => ?_)
    refine r_callSI C M h [.int a5, .long (gB T7 171 j8)] [] mlX12_622 mcX12_isMay (fun q9 e9 => s_X12_isMay a5 (gB T7 171 j8)  e9) (by decide) (by decide) rfl rfl (Nat.le_of_ble_eq_true rfl) dX12_directory_163 (fun v10 T11 h => ?_)
    refine r_if_ne (tgt := 177) C dX12_directory_166 (by decide) h (fun h => ?_) (fun h => ?_)
    · refine r_iinc (q := 3) (v := (a3 + 1)) (lv' := [(3, .int (a3 + 1)), (0, .ref (ad 133)), (1, .int a1), (2, .int a2), (4, .int a4), (5, .int a5)]) C dX12_directory_177 rfl (by rw [show Int32.ofInt (1) = 1 by decide]) (by rw [hn9]; decide) rfl ?_
      refine r_goto (tgt := 31) C dX12_directory_180 (by decide) ?_
      refine Jr.sub [1, 2, 3, 0] (lv' := [(0, .ref (ad 133)), (1, .int a1), (2, .int a2), (3, .int (a3 + 1))]) rfl ?_
      exact hk31 a1 a2 (a3 + 1) T11 h
    · refine r_aload_n C dX12_directory_169 rfl 0 rfl ?_
      refine r_iconst (v := 4) C dX12_directory_170 (by decide) ?_
      refine r_iload C dX12_directory_171 4 rfl ?_
      refine r_callVI C M h [.int 4, .int a4] [] mlX12_592 mcX12_wrong (fun q9 e9 => s_X12_wrong 4 a4  e9) kq_133 rfl (by decide) (by decide) rfl rfl (Nat.le_of_ble_eq_true rfl) dX12_directory_173 (fun v12 T13 h => ?_)
      refine r_gd h (fun hz14 h => ?_)
      exact r_zret C M dX12_directory_176 hz14 h
  · refine r_aload_n C dX12_directory_132 rfl 0 rfl ?_
    refine r_iconst (v := 4) C dX12_directory_133 (by decide) ?_
    refine r_iload C dX12_directory_134 4 rfl ?_
    refine r_callVI C M h [.int 4, .int a4] [] mlX12_592 mcX12_wrong (fun q9 e9 => s_X12_wrong 4 a4  e9) kq_133 rfl (by decide) (by decide) rfl rfl (Nat.le_of_ble_eq_true rfl) dX12_directory_136 (fun v15 T16 h => ?_)
    refine r_gd h (fun hz17 h => ?_)
    exact r_zret C M dX12_directory_139 hz17 h
noncomputable def f_X12_directory_b31 (k31 : Int32 → Int32 → Int32 → Mm → Option (Int32 × Mm)) (a1 : Int32) (a2 : Int32) (a3 : Int32) (T : Mm) : Option (Int32 × Mm) :=
  if a2 ≤ a3 then (if (gA T 170 256) = (-1) then (bd (f_X12_wrong 4 a1 T) fun v1 T2 =>
  gd (v1 = 0 ∨ v1 = 1) <|
  some (v1, T2))
  else (if (gA T 170 257) = (-1) then (bd (f_X12_wrong 4 a1 T) fun v4 T5 =>
  gd (v4 = 0 ∨ v4 = 1) <|
  some (v4, T5))
  else (if (gA T 170 259) = (-1) then (bd (f_X12_wrong 4 a1 T) fun v7 T8 =>
  gd (v7 = 0 ∨ v7 = 1) <|
  some (v7, T8))
  else (if (gA T 170 262) = (-1) then (bd (f_X12_wrong 4 a1 T) fun v10 T11 =>
  gd (v10 = 0 ∨ v10 = 1) <|
  some (v10, T11))
  else (if (gA T 170 273) = (-1) then (bd (f_X12_wrong 4 a1 T) fun v13 T14 =>
  gd (v13 = 0 ∨ v13 = 1) <|
  some (v13, T14))
  else (if (gA T 170 279) = (-1) then (bd (f_X12_wrong 4 a1 T) fun v18 T19 =>
  gd (v18 = 0 ∨ v18 = 1) <|
  some (v18, T19))
  else (lb (((gB T 171 256)).toInt32) fun v16 =>
  lb (((gB T 171 257)).toInt32) fun v17 =>
  if (gA T 170 278) = (-1) then (f_X12_directory_309 v16 v17 ((v17).toInt64) T)
  else (f_X12_directory_309 v16 v17 (gB T 171 278) T))))))))
  else (lb (((a1 + 2) + ((12 : Int32) * a3))) fun v21 =>
  bd (f_X12_picture v21 2 T) fun v22 T23 =>
  lb ((v22).toInt32) fun v24 =>
  bd (f_X12_isLooked v24 T23) fun v25 T26 =>
  if v25 = 0 then (k31 a1 a2 (a3 + 1) T26)
  else (ix v24 400 fun j27 => lb (uA T26 170 j27 (v21)) fun T29 =>
  if v24 = 273 then (k31 a1 a2 (a3 + 1) T29)
  else (if v24 = 279 then (k31 a1 a2 (a3 + 1) T29)
  else (bd (f_X12_picture (v21 + 2) 2 T29) fun v30 T31 =>
  if (lg_cmp v30 3) = 0 then (f_X12_directory_118 k31 a1 a2 a3 v21 v24 T31)
  else (if (lg_cmp v30 4) = 0 then (f_X12_directory_118 k31 a1 a2 a3 v21 v24 T31)
  else (bd (f_X12_wrong 4 v21 T31) fun v32 T33 =>
  gd (v32 = 0 ∨ v32 = 1) <|
  some (v32, T33)))))))
set_option maxRecDepth 100000 in
set_option maxHeartbeats 4000000 in
theorem s_X12_directory_b31 {x : JX} {ad : Nat → Nat} {U : Mm} {S0 : Hp} {q : Int32 × Mm}  {k31 : Int32 → Int32 → Int32 → Mm → Option (Int32 × Mm)} (hn9 : x_n x = 16) (C : CB x RX12 cX12_directory) (M : CMr x 7 (some .boolean) S0 ad false U eI q) (hk31 : ∀ (a1 : Int32) (a2 : Int32) (a3 : Int32) (T : Mm), k31 a1 a2 a3 T = some q → Jr x ad false U T [(0, .ref (ad 133)), (1, .int a1), (2, .int a2), (3, .int a3)] 31 []) (a1 : Int32) (a2 : Int32) (a3 : Int32) (T : Mm) (h : f_X12_directory_b31 k31 a1 a2 a3 T = some q) : Jr x ad false U T [(0, .ref (ad 133)), (1, .int a1), (2, .int a2), (3, .int a3)] 31 [] := by
  unfold f_X12_directory_b31 at h
  refine r_iload_n C dX12_directory_31 rfl 3 rfl ?_
  refine r_iload_n C dX12_directory_32 rfl 2 rfl ?_
  refine r_ic_ge (tgt := 183) C dX12_directory_33 (by decide) h (fun h => ?_) (fun h => ?_)
  · refine r_aload_n C dX12_directory_183 rfl 0 rfl ?_
    refine r_getp (f := 1272) (j := 170) C flX12_123 dX12_directory_184 kq_133 (by decide) rfl (fun W => pt_1272 kq_133 W) ?_
    refine r_sipush (v := 256) C dX12_directory_187 (by decide) ?_
    refine r_ialdc (n := 400) C 256 dX12_directory_190 kq_170 lq_170 (vp_lit (by decide)) (by decide) ?_
    refine r_iconst (v := (-1)) C dX12_directory_191 (by decide) ?_
    show Jr _ _ _ _ _ _ 192 _
    refine r_ic_eq (tgt := 255) C dX12_directory_192 (by decide) h (fun h => ?_) (fun h => ?_)
    · refine r_aload_n C dX12_directory_255 rfl 0 rfl ?_
      refine r_iconst (v := 4) C dX12_directory_256 (by decide) ?_
      refine r_iload_n C dX12_directory_257 rfl 1 rfl ?_
      refine r_callVI C M h [.int 4, .int a1] [] mlX12_592 mcX12_wrong (fun q9 e9 => s_X12_wrong 4 a1  e9) kq_133 rfl (by decide) (by decide) rfl rfl (Nat.le_of_ble_eq_true rfl) dX12_directory_258 (fun v1 T2 h => ?_)
      refine r_gd h (fun hz3 h => ?_)
      exact r_zret C M dX12_directory_261 hz3 h
    · refine r_aload_n C dX12_directory_195 rfl 0 rfl ?_
      refine r_getp (f := 1272) (j := 170) C flX12_123 dX12_directory_196 kq_133 (by decide) rfl (fun W => pt_1272 kq_133 W) ?_
      refine r_sipush (v := 257) C dX12_directory_199 (by decide) ?_
      refine r_ialdc (n := 400) C 257 dX12_directory_202 kq_170 lq_170 (vp_lit (by decide)) (by decide) ?_
      refine r_iconst (v := (-1)) C dX12_directory_203 (by decide) ?_
      show Jr _ _ _ _ _ _ 204 _
      refine r_ic_eq (tgt := 255) C dX12_directory_204 (by decide) h (fun h => ?_) (fun h => ?_)
      · refine r_aload_n C dX12_directory_255 rfl 0 rfl ?_
        refine r_iconst (v := 4) C dX12_directory_256 (by decide) ?_
        refine r_iload_n C dX12_directory_257 rfl 1 rfl ?_
        refine r_callVI C M h [.int 4, .int a1] [] mlX12_592 mcX12_wrong (fun q9 e9 => s_X12_wrong 4 a1  e9) kq_133 rfl (by decide) (by decide) rfl rfl (Nat.le_of_ble_eq_true rfl) dX12_directory_258 (fun v4 T5 h => ?_)
        refine r_gd h (fun hz6 h => ?_)
        exact r_zret C M dX12_directory_261 hz6 h
      · refine r_aload_n C dX12_directory_207 rfl 0 rfl ?_
        refine r_getp (f := 1272) (j := 170) C flX12_123 dX12_directory_208 kq_133 (by decide) rfl (fun W => pt_1272 kq_133 W) ?_
        refine r_sipush (v := 259) C dX12_directory_211 (by decide) ?_
        refine r_ialdc (n := 400) C 259 dX12_directory_214 kq_170 lq_170 (vp_lit (by decide)) (by decide) ?_
        refine r_iconst (v := (-1)) C dX12_directory_215 (by decide) ?_
        show Jr _ _ _ _ _ _ 216 _
        refine r_ic_eq (tgt := 255) C dX12_directory_216 (by decide) h (fun h => ?_) (fun h => ?_)
        · refine r_aload_n C dX12_directory_255 rfl 0 rfl ?_
          refine r_iconst (v := 4) C dX12_directory_256 (by decide) ?_
          refine r_iload_n C dX12_directory_257 rfl 1 rfl ?_
          refine r_callVI C M h [.int 4, .int a1] [] mlX12_592 mcX12_wrong (fun q9 e9 => s_X12_wrong 4 a1  e9) kq_133 rfl (by decide) (by decide) rfl rfl (Nat.le_of_ble_eq_true rfl) dX12_directory_258 (fun v7 T8 h => ?_)
          refine r_gd h (fun hz9 h => ?_)
          exact r_zret C M dX12_directory_261 hz9 h
        · refine r_aload_n C dX12_directory_219 rfl 0 rfl ?_
          refine r_getp (f := 1272) (j := 170) C flX12_123 dX12_directory_220 kq_133 (by decide) rfl (fun W => pt_1272 kq_133 W) ?_
          refine r_sipush (v := 262) C dX12_directory_223 (by decide) ?_
          refine r_ialdc (n := 400) C 262 dX12_directory_226 kq_170 lq_170 (vp_lit (by decide)) (by decide) ?_
          refine r_iconst (v := (-1)) C dX12_directory_227 (by decide) ?_
          show Jr _ _ _ _ _ _ 228 _
          refine r_ic_eq (tgt := 255) C dX12_directory_228 (by decide) h (fun h => ?_) (fun h => ?_)
          · refine r_aload_n C dX12_directory_255 rfl 0 rfl ?_
            refine r_iconst (v := 4) C dX12_directory_256 (by decide) ?_
            refine r_iload_n C dX12_directory_257 rfl 1 rfl ?_
            refine r_callVI C M h [.int 4, .int a1] [] mlX12_592 mcX12_wrong (fun q9 e9 => s_X12_wrong 4 a1  e9) kq_133 rfl (by decide) (by decide) rfl rfl (Nat.le_of_ble_eq_true rfl) dX12_directory_258 (fun v10 T11 h => ?_)
            refine r_gd h (fun hz12 h => ?_)
            exact r_zret C M dX12_directory_261 hz12 h
          · refine r_aload_n C dX12_directory_231 rfl 0 rfl ?_
            refine r_getp (f := 1272) (j := 170) C flX12_123 dX12_directory_232 kq_133 (by decide) rfl (fun W => pt_1272 kq_133 W) ?_
            refine r_sipush (v := 273) C dX12_directory_235 (by decide) ?_
            refine r_ialdc (n := 400) C 273 dX12_directory_238 kq_170 lq_170 (vp_lit (by decide)) (by decide) ?_
            refine r_iconst (v := (-1)) C dX12_directory_239 (by decide) ?_
            show Jr _ _ _ _ _ _ 240 _
            refine r_ic_eq (tgt := 255) C dX12_directory_240 (by decide) h (fun h => ?_) (fun h => ?_)
            · refine r_aload_n C dX12_directory_255 rfl 0 rfl ?_
              refine r_iconst (v := 4) C dX12_directory_256 (by decide) ?_
              refine r_iload_n C dX12_directory_257 rfl 1 rfl ?_
              refine r_callVI C M h [.int 4, .int a1] [] mlX12_592 mcX12_wrong (fun q9 e9 => s_X12_wrong 4 a1  e9) kq_133 rfl (by decide) (by decide) rfl rfl (Nat.le_of_ble_eq_true rfl) dX12_directory_258 (fun v13 T14 h => ?_)
              refine r_gd h (fun hz15 h => ?_)
              exact r_zret C M dX12_directory_261 hz15 h
            · refine r_aload_n C dX12_directory_243 rfl 0 rfl ?_
              refine r_getp (f := 1272) (j := 170) C flX12_123 dX12_directory_244 kq_133 (by decide) rfl (fun W => pt_1272 kq_133 W) ?_
              refine r_sipush (v := 279) C dX12_directory_247 (by decide) ?_
              refine r_ialdc (n := 400) C 279 dX12_directory_250 kq_170 lq_170 (vp_lit (by decide)) (by decide) ?_
              refine r_iconst (v := (-1)) C dX12_directory_251 (by decide) ?_
              show Jr _ _ _ _ _ _ 252 _
              refine r_ic_ne (tgt := 262) C dX12_directory_252 (by decide) h (fun h => ?_) (fun h => ?_)
              · refine r_aload_n C dX12_directory_262 rfl 0 rfl ?_
                refine r_getp (f := 1273) (j := 171) C flX12_126 dX12_directory_263 kq_133 (by decide) rfl (fun W => pt_1273 kq_133 W) ?_
                refine r_sipush (v := 256) C dX12_directory_266 (by decide) ?_
                refine r_laldc (n := 400) C 256 dX12_directory_269 kq_171 lq_171 (vp_lit (by decide)) (by decide) ?_
                refine r_l2i C dX12_directory_270 rfl ?_
                show Jr _ _ _ _ _ _ 271 _
                refine r_lbI h (fun v16 h => ?_)
                refine r_istore_n (lv' := [(3, .int v16), (0, .ref (ad 133)), (1, .int a1), (2, .int a2)]) C dX12_directory_271 rfl (by rw [hn9]; decide) rfl ?_
                refine r_aload_n C dX12_directory_272 rfl 1 rfl ?_
                refine r_getp (f := 1273) (j := 171) C flX12_126 dX12_directory_273 kq_133 (by decide) rfl (fun W => pt_1273 kq_133 W) ?_
                refine r_sipush (v := 257) C dX12_directory_276 (by decide) ?_
                refine r_laldc (n := 400) C 257 dX12_directory_279 kq_171 lq_171 (vp_lit (by decide)) (by decide) ?_
                refine r_l2i C dX12_directory_280 rfl ?_
                show Jr _ _ _ _ _ _ 281 _
                refine r_lbI h (fun v17 h => ?_)
                refine r_istore (lv' := [(4, .int v17), (3, .int v16), (0, .ref (ad 133)), (1, .int a1), (2, .int a2)]) C dX12_directory_281 (by rw [hn9]; decide) rfl ?_
                refine r_aload_n C dX12_directory_283 rfl 2 rfl ?_
                refine r_getp (f := 1272) (j := 170) C flX12_123 dX12_directory_284 kq_133 (by decide) rfl (fun W => pt_1272 kq_133 W) ?_
                refine r_sipush (v := 278) C dX12_directory_287 (by decide) ?_
                refine r_ialdc (n := 400) C 278 dX12_directory_290 kq_170 lq_170 (vp_lit (by decide)) (by decide) ?_
                refine r_iconst (v := (-1)) C dX12_directory_291 (by decide) ?_
                show Jr _ _ _ _ _ _ 292 _
                refine r_ic_ne (tgt := 301) C dX12_directory_292 (by decide) h (fun h => ?_) (fun h => ?_)
                · refine r_aload_n C dX12_directory_301 rfl 2 rfl ?_
                  refine r_getp (f := 1273) (j := 171) C flX12_126 dX12_directory_302 kq_133 (by decide) rfl (fun W => pt_1273 kq_133 W) ?_
                  refine r_sipush (v := 278) C dX12_directory_305 (by decide) ?_
                  refine r_laldc (n := 400) C 278 dX12_directory_308 kq_171 lq_171 (vp_lit (by decide)) (by decide) ?_
                  refine Jr.sub [2, 1, 0] (lv' := [(0, .ref (ad 133)), (3, .int v16), (4, .int v17)]) rfl ?_
                  exact s_X12_directory_309 hn9 C M  v16 v17 (gB T 171 278) T h
                · refine r_iload C dX12_directory_295 0 rfl ?_
                  refine r_i2l C dX12_directory_297 rfl ?_
                  refine r_goto (tgt := 309) C dX12_directory_298 (by decide) ?_
                  refine Jr.sub [2, 1, 0] (lv' := [(0, .ref (ad 133)), (3, .int v16), (4, .int v17)]) rfl ?_
                  exact s_X12_directory_309 hn9 C M  v16 v17 ((v17).toInt64) T h
              · refine r_aload_n C dX12_directory_255 rfl 0 rfl ?_
                refine r_iconst (v := 4) C dX12_directory_256 (by decide) ?_
                refine r_iload_n C dX12_directory_257 rfl 1 rfl ?_
                refine r_callVI C M h [.int 4, .int a1] [] mlX12_592 mcX12_wrong (fun q9 e9 => s_X12_wrong 4 a1  e9) kq_133 rfl (by decide) (by decide) rfl rfl (Nat.le_of_ble_eq_true rfl) dX12_directory_258 (fun v18 T19 h => ?_)
                refine r_gd h (fun hz20 h => ?_)
                exact r_zret C M dX12_directory_261 hz20 h
  · refine r_iload_n C dX12_directory_36 rfl 1 rfl ?_
    refine r_iconst (v := 2) C dX12_directory_37 (by decide) ?_
    refine r_iadd C dX12_directory_38 rfl ?_
    refine r_bipush (v := 12) C dX12_directory_39 (by decide) ?_
    refine r_iload_n C dX12_directory_41 rfl 3 rfl ?_
    show Jr _ _ _ _ _ _ 42 _
    refine r_imul C dX12_directory_42 rfl ?_
    refine r_iadd C dX12_directory_43 rfl ?_
    refine r_lbI h (fun v21 h => ?_)
    refine r_istore (lv' := [(4, .int v21), (0, .ref (ad 133)), (1, .int a1), (2, .int a2), (3, .int a3)]) C dX12_directory_44 (by rw [hn9]; decide) rfl ?_
    refine r_aload_n C dX12_directory_46 rfl 1 rfl ?_
    refine r_iload C dX12_directory_47 0 rfl ?_
    refine r_iconst (v := 2) C dX12_directory_49 (by decide) ?_
    show Jr _ _ _ _ _ _ 50 _
    refine r_callVJ C M h [.int v21, .int 2] [] mlX12_595 mcX12_picture (fun q9 e9 => s_X12_picture v21 2  e9) kq_133 rfl (by decide) (by decide) rfl rfl (Nat.le_of_ble_eq_true rfl) dX12_directory_50 (fun v22 T23 h => ?_)
    refine r_l2i C dX12_directory_53 rfl ?_
    refine r_lbI h (fun v24 h => ?_)
    refine r_istore (lv' := [(5, .int v24), (4, .int v21), (0, .ref (ad 133)), (1, .int a1), (2, .int a2), (3, .int a3)]) C dX12_directory_54 (by rw [hn9]; decide) rfl ?_
    refine r_iload C dX12_directory_56 0 rfl ?_
    refine r_callSI C M h [.int v24] [] mlX12_616 mcX12_isLooked (fun q9 e9 => s_X12_isLooked v24  e9) (by decide) (by decide) rfl rfl (Nat.le_of_ble_eq_true rfl) dX12_directory_58 (fun v25 T26 h => ?_)
    refine r_if_eq (tgt := 177) C dX12_directory_61 (by decide) h (fun h => ?_) (fun h => ?_)
    · refine r_iinc (q := 5) (v := (a3 + 1)) (lv' := [(3, .int (a3 + 1)), (5, .int v24), (4, .int v21), (0, .ref (ad 133)), (1, .int a1), (2, .int a2)]) C dX12_directory_177 rfl (by rw [show Int32.ofInt (1) = 1 by decide]) (by rw [hn9]; decide) rfl ?_
      refine r_goto (tgt := 31) C dX12_directory_180 (by decide) ?_
      refine Jr.sub [3, 4, 5, 0] (lv' := [(0, .ref (ad 133)), (1, .int a1), (2, .int a2), (3, .int (a3 + 1))]) rfl ?_
      exact hk31 a1 a2 (a3 + 1) T26 h
    · refine r_aload_n C dX12_directory_64 rfl 2 rfl ?_
      refine r_getp (f := 1272) (j := 170) C flX12_123 dX12_directory_65 kq_133 (by decide) rfl (fun W => pt_1272 kq_133 W) ?_
      refine r_iload C dX12_directory_68 0 rfl ?_
      refine r_iload C dX12_directory_70 1 rfl ?_
      refine r_iast (n := 400) C dX12_directory_72 kq_170 lq_170 h (fun j27 T29 hj28 h => ?_)
      show Jr _ _ _ _ _ _ 73 _
      refine r_iload C dX12_directory_73 0 rfl ?_
      refine r_sipush (v := 273) C dX12_directory_75 (by decide) ?_
      refine r_ic_eq (tgt := 177) C dX12_directory_78 (by decide) h (fun h => ?_) (fun h => ?_)
      · refine r_iinc (q := 5) (v := (a3 + 1)) (lv' := [(3, .int (a3 + 1)), (5, .int v24), (4, .int v21), (0, .ref (ad 133)), (1, .int a1), (2, .int a2)]) C dX12_directory_177 rfl (by rw [show Int32.ofInt (1) = 1 by decide]) (by rw [hn9]; decide) rfl ?_
        refine r_goto (tgt := 31) C dX12_directory_180 (by decide) ?_
        refine Jr.sub [3, 4, 5, 0] (lv' := [(0, .ref (ad 133)), (1, .int a1), (2, .int a2), (3, .int (a3 + 1))]) rfl ?_
        exact hk31 a1 a2 (a3 + 1) T29 h
      · refine r_iload C dX12_directory_81 0 rfl ?_
        refine r_sipush (v := 279) C dX12_directory_83 (by decide) ?_
        refine r_ic_eq (tgt := 177) C dX12_directory_86 (by decide) h (fun h => ?_) (fun h => ?_)
        · refine r_iinc (q := 5) (v := (a3 + 1)) (lv' := [(3, .int (a3 + 1)), (5, .int v24), (4, .int v21), (0, .ref (ad 133)), (1, .int a1), (2, .int a2)]) C dX12_directory_177 rfl (by rw [show Int32.ofInt (1) = 1 by decide]) (by rw [hn9]; decide) rfl ?_
          refine r_goto (tgt := 31) C dX12_directory_180 (by decide) ?_
          refine Jr.sub [3, 4, 5, 0] (lv' := [(0, .ref (ad 133)), (1, .int a1), (2, .int a2), (3, .int (a3 + 1))]) rfl ?_
          exact hk31 a1 a2 (a3 + 1) T29 h
        · refine r_aload_n C dX12_directory_89 rfl 2 rfl ?_
          refine r_iload C dX12_directory_90 1 rfl ?_
          refine r_iconst (v := 2) C dX12_directory_92 (by decide) ?_
          refine r_iadd C dX12_directory_93 rfl ?_
          refine r_iconst (v := 2) C dX12_directory_94 (by decide) ?_
          show Jr _ _ _ _ _ _ 95 _
          refine r_callVJ C M h [.int (v21 + 2), .int 2] [] mlX12_595 mcX12_picture (fun q9 e9 => s_X12_picture (v21 + 2) 2  e9) kq_133 rfl (by decide) (by decide) rfl rfl (Nat.le_of_ble_eq_true rfl) dX12_directory_95 (fun v30 T31 h => ?_)
          refine r_lstore (lv' := [(6, .long v30), (5, .int v24), (4, .int v21), (0, .ref (ad 133)), (1, .int a1), (2, .int a2), (3, .int a3)]) C dX12_directory_98 (by rw [hn9]; decide) rfl ?_
          refine r_lload C dX12_directory_100 0 rfl ?_
          refine r_ldc2 (v := 3) C dX12_directory_102 kcX12_610 ?_
          refine r_lcmp C dX12_directory_105 ?_
          refine r_if_eq (tgt := 118) C dX12_directory_106 (by decide) h (fun h => ?_) (fun h => ?_)
          · refine Jr.sub [3, 4, 5, 6, 2, 1] (lv' := [(0, .ref (ad 133)), (1, .int a1), (2, .int a2), (3, .int a3), (4, .int v21), (5, .int v24)]) rfl ?_
            exact s_X12_directory_118 hn9 C M hk31 a1 a2 a3 v21 v24 T31 h
          · refine r_lload C dX12_directory_109 0 rfl ?_
            refine r_ldc2 (v := 4) C dX12_directory_111 kcX12_603 ?_
            refine r_lcmp C dX12_directory_114 ?_
            refine r_if_ne (tgt := 132) C dX12_directory_115 (by decide) h (fun h => ?_) (fun h => ?_)
            · refine r_aload_n C dX12_directory_132 rfl 3 rfl ?_
              refine r_iconst (v := 4) C dX12_directory_133 (by decide) ?_
              refine r_iload C dX12_directory_134 2 rfl ?_
              refine r_callVI C M h [.int 4, .int v21] [] mlX12_592 mcX12_wrong (fun q9 e9 => s_X12_wrong 4 v21  e9) kq_133 rfl (by decide) (by decide) rfl rfl (Nat.le_of_ble_eq_true rfl) dX12_directory_136 (fun v32 T33 h => ?_)
              refine r_gd h (fun hz34 h => ?_)
              exact r_zret C M dX12_directory_139 hz34 h
            · refine Jr.sub [3, 4, 5, 6, 2, 1] (lv' := [(0, .ref (ad 133)), (1, .int a1), (2, .int a2), (3, .int a3), (4, .int v21), (5, .int v24)]) rfl ?_
              exact s_X12_directory_118 hn9 C M hk31 a1 a2 a3 v21 v24 T31 h
noncomputable def f_X12_directory_l31 (n : Nat) : Int32 → Int32 → Int32 → Mm → Option (Int32 × Mm) := Nat.rec (fun _ _ _ _ => none) (fun _ ih => f_X12_directory_b31 ih) n
theorem s_X12_directory_l31 {x : JX} {ad : Nat → Nat} {U : Mm} {S0 : Hp} {q : Int32 × Mm}  (hn9 : x_n x = 16) (C : CB x RX12 cX12_directory) (M : CMr x 7 (some .boolean) S0 ad false U eI q) : ∀ (n : Nat), ∀ (a1 : Int32) (a2 : Int32) (a3 : Int32) (T : Mm), f_X12_directory_l31  n a1 a2 a3 T = some q → Jr x ad false U T [(0, .ref (ad 133)), (1, .int a1), (2, .int a2), (3, .int a3)] 31 [] := by
  intro n
  induction n with
  | zero => intro a1 a2 a3 T  h; exact absurd h (by intro h; cases h)
  | succ n ih => exact fun a1 a2 a3 T  h => s_X12_directory_b31 hn9 C M (ih) a1 a2 a3 T  h
noncomputable def f_X12_directory_b2 (k2 : Int32 → Int32 → Int32 → Mm → Option (Int32 × Mm)) (a1 : Int32) (a2 : Int32) (a3 : Int32) (T : Mm) : Option (Int32 × Mm) :=
  if 400 ≤ a3 then (f_X12_directory_l31 FU a1 a2 0 T)
  else (ix a3 400 fun j1 => lb (uA T 170 j1 ((-1))) fun T3 =>
  ix a3 400 fun j4 => lb (uB T3 171 j4 (0)) fun T6 =>
  k2 a1 a2 (a3 + 1) T6)
set_option maxRecDepth 100000 in
set_option maxHeartbeats 4000000 in
theorem s_X12_directory_b2 {x : JX} {ad : Nat → Nat} {U : Mm} {S0 : Hp} {q : Int32 × Mm}  {k2 : Int32 → Int32 → Int32 → Mm → Option (Int32 × Mm)} (hn9 : x_n x = 16) (C : CB x RX12 cX12_directory) (M : CMr x 7 (some .boolean) S0 ad false U eI q) (hk2 : ∀ (a1 : Int32) (a2 : Int32) (a3 : Int32) (T : Mm), k2 a1 a2 a3 T = some q → Jr x ad false U T [(0, .ref (ad 133)), (1, .int a1), (2, .int a2), (3, .int a3)] 2 []) (a1 : Int32) (a2 : Int32) (a3 : Int32) (T : Mm) (h : f_X12_directory_b2 k2 a1 a2 a3 T = some q) : Jr x ad false U T [(0, .ref (ad 133)), (1, .int a1), (2, .int a2), (3, .int a3)] 2 [] := by
  unfold f_X12_directory_b2 at h
  refine r_iload_n C dX12_directory_2 rfl 3 rfl ?_
  refine r_sipush (v := 400) C dX12_directory_3 (by decide) ?_
  refine r_ic_ge (tgt := 29) C dX12_directory_6 (by decide) h (fun h => ?_) (fun h => ?_)
  · refine r_iconst (v := 0) C dX12_directory_29 (by decide) ?_
    refine r_istore_n (lv' := [(3, .int 0), (0, .ref (ad 133)), (1, .int a1), (2, .int a2)]) C dX12_directory_30 rfl (by rw [hn9]; decide) rfl ?_
    refine Jr.sub [1, 2, 3, 0] (lv' := [(0, .ref (ad 133)), (1, .int a1), (2, .int a2), (3, .int 0)]) rfl ?_
    exact s_X12_directory_l31 hn9 C M  FU a1 a2 0 T h
  · refine r_aload_n C dX12_directory_9 rfl 0 rfl ?_
    refine r_getp (f := 1272) (j := 170) C flX12_123 dX12_directory_10 kq_133 (by decide) rfl (fun W => pt_1272 kq_133 W) ?_
    refine r_iload_n C dX12_directory_13 rfl 3 rfl ?_
    refine r_iconst (v := (-1)) C dX12_directory_14 (by decide) ?_
    refine r_iast (n := 400) C dX12_directory_15 kq_170 lq_170 h (fun j1 T3 hj2 h => ?_)
    show Jr _ _ _ _ _ _ 16 _
    refine r_aload_n C dX12_directory_16 rfl 0 rfl ?_
    refine r_getp (f := 1273) (j := 171) C flX12_126 dX12_directory_17 kq_133 (by decide) rfl (fun W => pt_1273 kq_133 W) ?_
    refine r_iload_n C dX12_directory_20 rfl 3 rfl ?_
    refine r_lconst (v := 0) C dX12_directory_21 (by decide) ?_
    refine r_last (n := 400) C dX12_directory_22 kq_171 lq_171 h (fun j4 T6 hj5 h => ?_)
    refine r_iinc (q := 3) (v := (a3 + 1)) (lv' := [(3, .int (a3 + 1)), (0, .ref (ad 133)), (1, .int a1), (2, .int a2)]) C dX12_directory_23 rfl (by rw [show Int32.ofInt (1) = 1 by decide]) (by rw [hn9]; decide) rfl ?_
    show Jr _ _ _ _ _ _ 26 _
    refine r_goto (tgt := 2) C dX12_directory_26 (by decide) ?_
    refine Jr.sub [1, 2, 3, 0] (lv' := [(0, .ref (ad 133)), (1, .int a1), (2, .int a2), (3, .int (a3 + 1))]) rfl ?_
    exact hk2 a1 a2 (a3 + 1) T6 h
noncomputable def f_X12_directory_l2 (n : Nat) : Int32 → Int32 → Int32 → Mm → Option (Int32 × Mm) := Nat.rec (fun _ _ _ _ => none) (fun _ ih => f_X12_directory_b2 ih) n
theorem s_X12_directory_l2 {x : JX} {ad : Nat → Nat} {U : Mm} {S0 : Hp} {q : Int32 × Mm}  (hn9 : x_n x = 16) (C : CB x RX12 cX12_directory) (M : CMr x 7 (some .boolean) S0 ad false U eI q) : ∀ (n : Nat), ∀ (a1 : Int32) (a2 : Int32) (a3 : Int32) (T : Mm), f_X12_directory_l2  n a1 a2 a3 T = some q → Jr x ad false U T [(0, .ref (ad 133)), (1, .int a1), (2, .int a2), (3, .int a3)] 2 [] := by
  intro n
  induction n with
  | zero => intro a1 a2 a3 T  h; exact absurd h (by intro h; cases h)
  | succ n ih => exact fun a1 a2 a3 T  h => s_X12_directory_b2 hn9 C M (ih) a1 a2 a3 T  h
noncomputable def f_X12_directory (p1 : Int32) (p2 : Int32) (T : Mm) : Option (Int32 × Mm) :=
  f_X12_directory_l2 FU p1 p2 0 T
set_option maxRecDepth 100000 in
set_option maxHeartbeats 4000000 in
theorem s_X12_directory {ad : Nat → Nat} {U T : Mm} {q : Int32 × Mm}  (p1 : Int32) (p2 : Int32) (h : f_X12_directory p1 p2 T = some q) : Cr 7 yX12_directory cX12_directory 16 (some .boolean) [.ref (ad 133), .int p1, .int p2] ad false U T eI q := by
  refine cr_of (by decide) (Nat.le_of_ble_eq_true rfl) fun x S0 hn9 C M => ?_
  have C : CB x RX12 cX12_directory := C
  refine Jr.eq (lv' := [(0, .ref (ad 133)), (1, .int p1), (2, .int p2)]) (st' := []) rfl rfl ?_
  unfold f_X12_directory at h
  refine r_iconst (v := 0) C dX12_directory_0 (by decide) ?_
  refine r_istore_n (lv' := [(3, .int 0), (0, .ref (ad 133)), (1, .int p1), (2, .int p2)]) C dX12_directory_1 rfl (by rw [hn9]; decide) rfl ?_
  refine Jr.sub [1, 2, 3, 0] (lv' := [(0, .ref (ad 133)), (1, .int p1), (2, .int p2), (3, .int 0)]) rfl ?_
  exact s_X12_directory_l2 hn9 C M  FU p1 p2 0 T h
theorem dX12_pictures_0 : decode cX12_pictures 0 = .ok (.aload_n 0, 1) := by decide +kernel
theorem dX12_pictures_1 : decode cX12_pictures 1 = .ok (.aload_n 0, 1) := by decide +kernel
theorem dX12_pictures_2 : decode cX12_pictures 2 = .ok (.getfield 69, 3) := by decide +kernel
theorem dX12_pictures_5 : decode cX12_pictures 5 = .ok (.iload_n 1, 1) := by decide +kernel
theorem dX12_pictures_6 : decode cX12_pictures 6 = .ok (.iaload, 1) := by decide +kernel
theorem dX12_pictures_7 : decode cX12_pictures 7 = .ok (.putfield 580, 3) := by decide +kernel
theorem dX12_pictures_10 : decode cX12_pictures 10 = .ok (.aload_n 0, 1) := by decide +kernel
theorem dX12_pictures_11 : decode cX12_pictures 11 = .ok (.aload_n 0, 1) := by decide +kernel
theorem dX12_pictures_12 : decode cX12_pictures 12 = .ok (.getfield 69, 3) := by decide +kernel
theorem dX12_pictures_15 : decode cX12_pictures 15 = .ok (.iload_n 1, 1) := by decide +kernel
theorem dX12_pictures_16 : decode cX12_pictures 16 = .ok (.iconst 1, 1) := by decide +kernel
theorem dX12_pictures_17 : decode cX12_pictures 17 = .ok (.iadd, 1) := by decide +kernel
theorem dX12_pictures_18 : decode cX12_pictures 18 = .ok (.iaload, 1) := by decide +kernel
theorem dX12_pictures_19 : decode cX12_pictures 19 = .ok (.aload_n 0, 1) := by decide +kernel
theorem dX12_pictures_20 : decode cX12_pictures 20 = .ok (.getfield 580, 3) := by decide +kernel
theorem dX12_pictures_23 : decode cX12_pictures 23 = .ok (.isub, 1) := by decide +kernel
theorem dX12_pictures_24 : decode cX12_pictures 24 = .ok (.putfield 589, 3) := by decide +kernel
theorem dX12_pictures_27 : decode cX12_pictures 27 = .ok (.iconst 0, 1) := by decide +kernel
theorem dX12_pictures_28 : decode cX12_pictures 28 = .ok (.istore_n 2, 1) := by decide +kernel
theorem dX12_pictures_29 : decode cX12_pictures 29 = .ok (.iload_n 2, 1) := by decide +kernel
theorem dX12_pictures_30 : decode cX12_pictures 30 = .ok (.iconst 2, 1) := by decide +kernel
theorem dX12_pictures_31 : decode cX12_pictures 31 = .ok (.if_icmp .ge 92, 3) := by decide +kernel
theorem dX12_pictures_34 : decode cX12_pictures 34 = .ok (.iload_n 2, 1) := by decide +kernel
theorem dX12_pictures_35 : decode cX12_pictures 35 = .ok (.aload_n 0, 1) := by decide +kernel
theorem dX12_pictures_36 : decode cX12_pictures 36 = .ok (.getfield 589, 3) := by decide +kernel
theorem dX12_pictures_39 : decode cX12_pictures 39 = .ok (.if_icmp .ge 17, 3) := by decide +kernel
theorem dX12_pictures_42 : decode cX12_pictures 42 = .ok (.aload_n 0, 1) := by decide +kernel
theorem dX12_pictures_43 : decode cX12_pictures 43 = .ok (.getfield 66, 3) := by decide +kernel
theorem dX12_pictures_46 : decode cX12_pictures 46 = .ok (.aload_n 0, 1) := by decide +kernel
theorem dX12_pictures_47 : decode cX12_pictures 47 = .ok (.getfield 580, 3) := by decide +kernel
theorem dX12_pictures_50 : decode cX12_pictures 50 = .ok (.iload_n 2, 1) := by decide +kernel
theorem dX12_pictures_51 : decode cX12_pictures 51 = .ok (.iadd, 1) := by decide +kernel
theorem dX12_pictures_52 : decode cX12_pictures 52 = .ok (.baload, 1) := by decide +kernel
theorem dX12_pictures_53 : decode cX12_pictures 53 = .ok (.goto 4, 3) := by decide +kernel
theorem dX12_pictures_56 : decode cX12_pictures 56 = .ok (.iconst (-1), 1) := by decide +kernel
theorem dX12_pictures_57 : decode cX12_pictures 57 = .ok (.istore_n 3, 1) := by decide +kernel
theorem dX12_pictures_58 : decode cX12_pictures 58 = .ok (.iload_n 2, 1) := by decide +kernel
theorem dX12_pictures_59 : decode cX12_pictures 59 = .ok (.ifCond .ne 7, 3) := by decide +kernel
theorem dX12_pictures_62 : decode cX12_pictures 62 = .ok (.iload_n 3, 1) := by decide +kernel
theorem dX12_pictures_63 : decode cX12_pictures 63 = .ok (.goto 12, 3) := by decide +kernel
theorem dX12_pictures_66 : decode cX12_pictures 66 = .ok (.aload_n 0, 1) := by decide +kernel
theorem dX12_pictures_67 : decode cX12_pictures 67 = .ok (.getfield 66, 3) := by decide +kernel
theorem dX12_pictures_70 : decode cX12_pictures 70 = .ok (.aload_n 0, 1) := by decide +kernel
theorem dX12_pictures_71 : decode cX12_pictures 71 = .ok (.getfield 580, 3) := by decide +kernel
theorem dX12_pictures_74 : decode cX12_pictures 74 = .ok (.baload, 1) := by decide +kernel
theorem dX12_pictures_75 : decode cX12_pictures 75 = .ok (.istore 4, 2) := by decide +kernel
theorem dX12_pictures_77 : decode cX12_pictures 77 = .ok (.iload_n 3, 1) := by decide +kernel
theorem dX12_pictures_78 : decode cX12_pictures 78 = .ok (.bipush 73, 2) := by decide +kernel
theorem dX12_pictures_80 : decode cX12_pictures 80 = .ok (.if_icmp .eq 9, 3) := by decide +kernel
theorem dX12_pictures_83 : decode cX12_pictures 83 = .ok (.iload_n 3, 1) := by decide +kernel
theorem dX12_pictures_84 : decode cX12_pictures 84 = .ok (.bipush 77, 2) := by decide +kernel
theorem dX12_pictures_86 : decode cX12_pictures 86 = .ok (.if_icmp .ne 9, 3) := by decide +kernel
theorem dX12_pictures_89 : decode cX12_pictures 89 = .ok (.iload_n 3, 1) := by decide +kernel
theorem dX12_pictures_90 : decode cX12_pictures 90 = .ok (.iload 4, 2) := by decide +kernel
theorem dX12_pictures_92 : decode cX12_pictures 92 = .ok (.if_icmp .eq 25, 3) := by decide +kernel
theorem dX12_pictures_95 : decode cX12_pictures 95 = .ok (.aload_n 0, 1) := by decide +kernel
theorem dX12_pictures_96 : decode cX12_pictures 96 = .ok (.iconst 2, 1) := by decide +kernel
theorem dX12_pictures_97 : decode cX12_pictures 97 = .ok (.iload_n 2, 1) := by decide +kernel
theorem dX12_pictures_98 : decode cX12_pictures 98 = .ok (.aload_n 0, 1) := by decide +kernel
theorem dX12_pictures_99 : decode cX12_pictures 99 = .ok (.getfield 589, 3) := by decide +kernel
theorem dX12_pictures_102 : decode cX12_pictures 102 = .ok (.if_icmp .ge 7, 3) := by decide +kernel
theorem dX12_pictures_105 : decode cX12_pictures 105 = .ok (.iload_n 2, 1) := by decide +kernel
theorem dX12_pictures_106 : decode cX12_pictures 106 = .ok (.goto 7, 3) := by decide +kernel
theorem dX12_pictures_109 : decode cX12_pictures 109 = .ok (.aload_n 0, 1) := by decide +kernel
theorem dX12_pictures_110 : decode cX12_pictures 110 = .ok (.getfield 589, 3) := by decide +kernel
theorem dX12_pictures_113 : decode cX12_pictures 113 = .ok (.invokevirtual 592, 3) := by decide +kernel
theorem dX12_pictures_116 : decode cX12_pictures 116 = .ok (.ireturn, 1) := by decide +kernel
theorem dX12_pictures_117 : decode cX12_pictures 117 = .ok (.iinc 2 1, 3) := by decide +kernel
theorem dX12_pictures_120 : decode cX12_pictures 120 = .ok (.goto (-91), 3) := by decide +kernel
theorem dX12_pictures_123 : decode cX12_pictures 123 = .ok (.aload_n 0, 1) := by decide +kernel
theorem dX12_pictures_124 : decode cX12_pictures 124 = .ok (.aload_n 0, 1) := by decide +kernel
theorem dX12_pictures_125 : decode cX12_pictures 125 = .ok (.getfield 66, 3) := by decide +kernel
theorem dX12_pictures_128 : decode cX12_pictures 128 = .ok (.aload_n 0, 1) := by decide +kernel
theorem dX12_pictures_129 : decode cX12_pictures 129 = .ok (.getfield 580, 3) := by decide +kernel
theorem dX12_pictures_132 : decode cX12_pictures 132 = .ok (.baload, 1) := by decide +kernel
theorem dX12_pictures_133 : decode cX12_pictures 133 = .ok (.bipush 77, 2) := by decide +kernel
theorem dX12_pictures_135 : decode cX12_pictures 135 = .ok (.if_icmp .ne 7, 3) := by decide +kernel
theorem dX12_pictures_138 : decode cX12_pictures 138 = .ok (.iconst 1, 1) := by decide +kernel
theorem dX12_pictures_139 : decode cX12_pictures 139 = .ok (.goto 4, 3) := by decide +kernel
theorem dX12_pictures_142 : decode cX12_pictures 142 = .ok (.iconst 0, 1) := by decide +kernel
theorem dX12_pictures_143 : decode cX12_pictures 143 = .ok (.putfield 583, 3) := by decide +kernel
theorem dX12_pictures_146 : decode cX12_pictures 146 = .ok (.iconst 2, 1) := by decide +kernel
theorem dX12_pictures_147 : decode cX12_pictures 147 = .ok (.istore_n 2, 1) := by decide +kernel
theorem dX12_pictures_148 : decode cX12_pictures 148 = .ok (.iload_n 2, 1) := by decide +kernel
theorem dX12_pictures_149 : decode cX12_pictures 149 = .ok (.iconst 4, 1) := by decide +kernel
theorem dX12_pictures_150 : decode cX12_pictures 150 = .ok (.if_icmp .ge 78, 3) := by decide +kernel
theorem dX12_pictures_153 : decode cX12_pictures 153 = .ok (.iload_n 2, 1) := by decide +kernel
theorem dX12_pictures_154 : decode cX12_pictures 154 = .ok (.iconst 2, 1) := by decide +kernel
theorem dX12_pictures_155 : decode cX12_pictures 155 = .ok (.if_icmp .ne 7, 3) := by decide +kernel
theorem dX12_pictures_158 : decode cX12_pictures 158 = .ok (.iconst 1, 1) := by decide +kernel
theorem dX12_pictures_159 : decode cX12_pictures 159 = .ok (.goto 4, 3) := by decide +kernel
theorem dX12_pictures_162 : decode cX12_pictures 162 = .ok (.iconst 0, 1) := by decide +kernel
theorem dX12_pictures_163 : decode cX12_pictures 163 = .ok (.aload_n 0, 1) := by decide +kernel
theorem dX12_pictures_164 : decode cX12_pictures 164 = .ok (.getfield 583, 3) := by decide +kernel
theorem dX12_pictures_167 : decode cX12_pictures 167 = .ok (.if_icmp .ne 7, 3) := by decide +kernel
theorem dX12_pictures_170 : decode cX12_pictures 170 = .ok (.iconst 0, 1) := by decide +kernel
theorem dX12_pictures_171 : decode cX12_pictures 171 = .ok (.goto 5, 3) := by decide +kernel
theorem dX12_pictures_174 : decode cX12_pictures 174 = .ok (.bipush 42, 2) := by decide +kernel
theorem dX12_pictures_176 : decode cX12_pictures 176 = .ok (.istore_n 3, 1) := by decide +kernel
theorem dX12_pictures_177 : decode cX12_pictures 177 = .ok (.iload_n 2, 1) := by decide +kernel
theorem dX12_pictures_178 : decode cX12_pictures 178 = .ok (.aload_n 0, 1) := by decide +kernel
theorem dX12_pictures_179 : decode cX12_pictures 179 = .ok (.getfield 589, 3) := by decide +kernel
theorem dX12_pictures_182 : decode cX12_pictures 182 = .ok (.if_icmp .ge 18, 3) := by decide +kernel
theorem dX12_pictures_185 : decode cX12_pictures 185 = .ok (.aload_n 0, 1) := by decide +kernel
theorem dX12_pictures_186 : decode cX12_pictures 186 = .ok (.getfield 66, 3) := by decide +kernel
theorem dX12_pictures_189 : decode cX12_pictures 189 = .ok (.aload_n 0, 1) := by decide +kernel
theorem dX12_pictures_190 : decode cX12_pictures 190 = .ok (.getfield 580, 3) := by decide +kernel
theorem dX12_pictures_193 : decode cX12_pictures 193 = .ok (.iload_n 2, 1) := by decide +kernel
theorem dX12_pictures_194 : decode cX12_pictures 194 = .ok (.iadd, 1) := by decide +kernel
theorem dX12_pictures_195 : decode cX12_pictures 195 = .ok (.baload, 1) := by decide +kernel
theorem dX12_pictures_196 : decode cX12_pictures 196 = .ok (.iload_n 3, 1) := by decide +kernel
theorem dX12_pictures_197 : decode cX12_pictures 197 = .ok (.if_icmp .eq 25, 3) := by decide +kernel
theorem dX12_pictures_200 : decode cX12_pictures 200 = .ok (.aload_n 0, 1) := by decide +kernel
theorem dX12_pictures_201 : decode cX12_pictures 201 = .ok (.iconst 2, 1) := by decide +kernel
theorem dX12_pictures_202 : decode cX12_pictures 202 = .ok (.iload_n 2, 1) := by decide +kernel
theorem dX12_pictures_203 : decode cX12_pictures 203 = .ok (.aload_n 0, 1) := by decide +kernel
theorem dX12_pictures_204 : decode cX12_pictures 204 = .ok (.getfield 589, 3) := by decide +kernel
theorem dX12_pictures_207 : decode cX12_pictures 207 = .ok (.if_icmp .ge 7, 3) := by decide +kernel
theorem dX12_pictures_210 : decode cX12_pictures 210 = .ok (.iload_n 2, 1) := by decide +kernel
theorem dX12_pictures_211 : decode cX12_pictures 211 = .ok (.goto 7, 3) := by decide +kernel
theorem dX12_pictures_214 : decode cX12_pictures 214 = .ok (.aload_n 0, 1) := by decide +kernel
theorem dX12_pictures_215 : decode cX12_pictures 215 = .ok (.getfield 589, 3) := by decide +kernel
theorem dX12_pictures_218 : decode cX12_pictures 218 = .ok (.invokevirtual 592, 3) := by decide +kernel
theorem dX12_pictures_221 : decode cX12_pictures 221 = .ok (.ireturn, 1) := by decide +kernel
theorem dX12_pictures_222 : decode cX12_pictures 222 = .ok (.iinc 2 1, 3) := by decide +kernel
theorem dX12_pictures_225 : decode cX12_pictures 225 = .ok (.goto (-77), 3) := by decide +kernel
theorem dX12_pictures_228 : decode cX12_pictures 228 = .ok (.aload_n 0, 1) := by decide +kernel
theorem dX12_pictures_229 : decode cX12_pictures 229 = .ok (.getfield 589, 3) := by decide +kernel
theorem dX12_pictures_232 : decode cX12_pictures 232 = .ok (.bipush 8, 2) := by decide +kernel
theorem dX12_pictures_234 : decode cX12_pictures 234 = .ok (.if_icmp .ge 13, 3) := by decide +kernel
theorem dX12_pictures_237 : decode cX12_pictures 237 = .ok (.aload_n 0, 1) := by decide +kernel
theorem dX12_pictures_238 : decode cX12_pictures 238 = .ok (.iconst 2, 1) := by decide +kernel
theorem dX12_pictures_239 : decode cX12_pictures 239 = .ok (.aload_n 0, 1) := by decide +kernel
theorem dX12_pictures_240 : decode cX12_pictures 240 = .ok (.getfield 589, 3) := by decide +kernel
theorem dX12_pictures_243 : decode cX12_pictures 243 = .ok (.invokevirtual 592, 3) := by decide +kernel
theorem dX12_pictures_246 : decode cX12_pictures 246 = .ok (.ireturn, 1) := by decide +kernel
theorem dX12_pictures_247 : decode cX12_pictures 247 = .ok (.aload_n 0, 1) := by decide +kernel
theorem dX12_pictures_248 : decode cX12_pictures 248 = .ok (.iconst 4, 1) := by decide +kernel
theorem dX12_pictures_249 : decode cX12_pictures 249 = .ok (.iconst 4, 1) := by decide +kernel
theorem dX12_pictures_250 : decode cX12_pictures 250 = .ok (.invokevirtual 595, 3) := by decide +kernel
theorem dX12_pictures_253 : decode cX12_pictures 253 = .ok (.lstore_n 2, 1) := by decide +kernel
theorem dX12_pictures_254 : decode cX12_pictures 254 = .ok (.aload_n 0, 1) := by decide +kernel
theorem dX12_pictures_255 : decode cX12_pictures 255 = .ok (.iconst 0, 1) := by decide +kernel
theorem dX12_pictures_256 : decode cX12_pictures 256 = .ok (.putfield 598, 3) := by decide +kernel
theorem dX12_pictures_259 : decode cX12_pictures 259 = .ok (.lload_n 2, 1) := by decide +kernel
theorem dX12_pictures_260 : decode cX12_pictures 260 = .ok (.lconst 0, 1) := by decide +kernel
theorem dX12_pictures_261 : decode cX12_pictures 261 = .ok (.lcmp, 1) := by decide +kernel
theorem dX12_pictures_262 : decode cX12_pictures 262 = .ok (.ifCond .eq 310, 3) := by decide +kernel
theorem dX12_pictures_265 : decode cX12_pictures 265 = .ok (.lload_n 2, 1) := by decide +kernel
theorem dX12_pictures_266 : decode cX12_pictures 266 = .ok (.lstore 4, 2) := by decide +kernel
theorem dX12_pictures_268 : decode cX12_pictures 268 = .ok (.lload 4, 2) := by decide +kernel
theorem dX12_pictures_270 : decode cX12_pictures 270 = .ok (.aload_n 0, 1) := by decide +kernel
theorem dX12_pictures_271 : decode cX12_pictures 271 = .ok (.getfield 589, 3) := by decide +kernel
theorem dX12_pictures_274 : decode cX12_pictures 274 = .ok (.i2l, 1) := by decide +kernel
theorem dX12_pictures_275 : decode cX12_pictures 275 = .ok (.lcmp, 1) := by decide +kernel
theorem dX12_pictures_276 : decode cX12_pictures 276 = .ok (.ifCond .le 10, 3) := by decide +kernel
theorem dX12_pictures_279 : decode cX12_pictures 279 = .ok (.aload_n 0, 1) := by decide +kernel
theorem dX12_pictures_280 : decode cX12_pictures 280 = .ok (.getfield 589, 3) := by decide +kernel
theorem dX12_pictures_283 : decode cX12_pictures 283 = .ok (.goto 6, 3) := by decide +kernel
theorem dX12_pictures_286 : decode cX12_pictures 286 = .ok (.lload 4, 2) := by decide +kernel
theorem dX12_pictures_288 : decode cX12_pictures 288 = .ok (.l2i, 1) := by decide +kernel
theorem dX12_pictures_289 : decode cX12_pictures 289 = .ok (.istore 6, 2) := by decide +kernel
theorem dX12_pictures_291 : decode cX12_pictures 291 = .ok (.lload 4, 2) := by decide +kernel
theorem dX12_pictures_293 : decode cX12_pictures 293 = .ok (.ldc2_w 356, 3) := by decide +kernel
theorem dX12_pictures_296 : decode cX12_pictures 296 = .ok (.ladd, 1) := by decide +kernel
theorem dX12_pictures_297 : decode cX12_pictures 297 = .ok (.aload_n 0, 1) := by decide +kernel
theorem dX12_pictures_298 : decode cX12_pictures 298 = .ok (.getfield 589, 3) := by decide +kernel
theorem dX12_pictures_301 : decode cX12_pictures 301 = .ok (.i2l, 1) := by decide +kernel
theorem dX12_pictures_302 : decode cX12_pictures 302 = .ok (.lcmp, 1) := by decide +kernel
theorem dX12_pictures_303 : decode cX12_pictures 303 = .ok (.ifCond .gt 16, 3) := by decide +kernel
theorem dX12_pictures_306 : decode cX12_pictures 306 = .ok (.aload_n 0, 1) := by decide +kernel
theorem dX12_pictures_307 : decode cX12_pictures 307 = .ok (.getfield 598, 3) := by decide +kernel
theorem dX12_pictures_310 : decode cX12_pictures 310 = .ok (.bipush 12, 2) := by decide +kernel
theorem dX12_pictures_312 : decode cX12_pictures 312 = .ok (.if_icmp .ge 7, 3) := by decide +kernel
theorem dX12_pictures_315 : decode cX12_pictures 315 = .ok (.iconst 1, 1) := by decide +kernel
theorem dX12_pictures_316 : decode cX12_pictures 316 = .ok (.goto 4, 3) := by decide +kernel
theorem dX12_pictures_319 : decode cX12_pictures 319 = .ok (.iconst 0, 1) := by decide +kernel
theorem dX12_pictures_320 : decode cX12_pictures 320 = .ok (.istore 7, 2) := by decide +kernel
theorem dX12_pictures_322 : decode cX12_pictures 322 = .ok (.iload 7, 2) := by decide +kernel
theorem dX12_pictures_324 : decode cX12_pictures 324 = .ok (.ifCond .eq 14, 3) := by decide +kernel
theorem dX12_pictures_327 : decode cX12_pictures 327 = .ok (.aload_n 0, 1) := by decide +kernel
theorem dX12_pictures_328 : decode cX12_pictures 328 = .ok (.iload 6, 2) := by decide +kernel
theorem dX12_pictures_330 : decode cX12_pictures 330 = .ok (.iconst 2, 1) := by decide +kernel
theorem dX12_pictures_331 : decode cX12_pictures 331 = .ok (.invokevirtual 595, 3) := by decide +kernel
theorem dX12_pictures_334 : decode cX12_pictures 334 = .ok (.l2i, 1) := by decide +kernel
theorem dX12_pictures_335 : decode cX12_pictures 335 = .ok (.goto 4, 3) := by decide +kernel
theorem dX12_pictures_338 : decode cX12_pictures 338 = .ok (.iconst 0, 1) := by decide +kernel
theorem dX12_pictures_339 : decode cX12_pictures 339 = .ok (.istore 8, 2) := by decide +kernel
theorem dX12_pictures_341 : decode cX12_pictures 341 = .ok (.iload 7, 2) := by decide +kernel
theorem dX12_pictures_343 : decode cX12_pictures 343 = .ok (.ifCond .eq 47, 3) := by decide +kernel
theorem dX12_pictures_346 : decode cX12_pictures 346 = .ok (.iload 8, 2) := by decide +kernel
theorem dX12_pictures_348 : decode cX12_pictures 348 = .ok (.iconst 1, 1) := by decide +kernel
theorem dX12_pictures_349 : decode cX12_pictures 349 = .ok (.if_icmp .lt 41, 3) := by decide +kernel
theorem dX12_pictures_352 : decode cX12_pictures 352 = .ok (.iload 8, 2) := by decide +kernel
theorem dX12_pictures_354 : decode cX12_pictures 354 = .ok (.bipush 40, 2) := by decide +kernel
theorem dX12_pictures_356 : decode cX12_pictures 356 = .ok (.if_icmp .gt 34, 3) := by decide +kernel
theorem dX12_pictures_359 : decode cX12_pictures 359 = .ok (.lload 4, 2) := by decide +kernel
theorem dX12_pictures_361 : decode cX12_pictures 361 = .ok (.ldc2_w 356, 3) := by decide +kernel
theorem dX12_pictures_364 : decode cX12_pictures 364 = .ok (.ladd, 1) := by decide +kernel
theorem dX12_pictures_365 : decode cX12_pictures 365 = .ok (.ldc2_w 601, 3) := by decide +kernel
theorem dX12_pictures_368 : decode cX12_pictures 368 = .ok (.iload 8, 2) := by decide +kernel
theorem dX12_pictures_370 : decode cX12_pictures 370 = .ok (.i2l, 1) := by decide +kernel
theorem dX12_pictures_371 : decode cX12_pictures 371 = .ok (.lmul, 1) := by decide +kernel
theorem dX12_pictures_372 : decode cX12_pictures 372 = .ok (.ladd, 1) := by decide +kernel
theorem dX12_pictures_373 : decode cX12_pictures 373 = .ok (.ldc2_w 603, 3) := by decide +kernel
theorem dX12_pictures_376 : decode cX12_pictures 376 = .ok (.ladd, 1) := by decide +kernel
theorem dX12_pictures_377 : decode cX12_pictures 377 = .ok (.aload_n 0, 1) := by decide +kernel
theorem dX12_pictures_378 : decode cX12_pictures 378 = .ok (.getfield 589, 3) := by decide +kernel
theorem dX12_pictures_381 : decode cX12_pictures 381 = .ok (.i2l, 1) := by decide +kernel
theorem dX12_pictures_382 : decode cX12_pictures 382 = .ok (.lcmp, 1) := by decide +kernel
theorem dX12_pictures_383 : decode cX12_pictures 383 = .ok (.ifCond .gt 7, 3) := by decide +kernel
theorem dX12_pictures_386 : decode cX12_pictures 386 = .ok (.iconst 1, 1) := by decide +kernel
theorem dX12_pictures_387 : decode cX12_pictures 387 = .ok (.goto 4, 3) := by decide +kernel
theorem dX12_pictures_390 : decode cX12_pictures 390 = .ok (.iconst 0, 1) := by decide +kernel
theorem dX12_pictures_391 : decode cX12_pictures 391 = .ok (.istore 7, 2) := by decide +kernel
theorem dX12_pictures_393 : decode cX12_pictures 393 = .ok (.iconst 0, 1) := by decide +kernel
theorem dX12_pictures_394 : decode cX12_pictures 394 = .ok (.istore 9, 2) := by decide +kernel
theorem dX12_pictures_396 : decode cX12_pictures 396 = .ok (.iload 9, 2) := by decide +kernel
theorem dX12_pictures_398 : decode cX12_pictures 398 = .ok (.aload_n 0, 1) := by decide +kernel
theorem dX12_pictures_399 : decode cX12_pictures 399 = .ok (.getfield 598, 3) := by decide +kernel
theorem dX12_pictures_402 : decode cX12_pictures 402 = .ok (.if_icmp .ge 33, 3) := by decide +kernel
theorem dX12_pictures_405 : decode cX12_pictures 405 = .ok (.iload 7, 2) := by decide +kernel
theorem dX12_pictures_407 : decode cX12_pictures 407 = .ok (.ifCond .eq 19, 3) := by decide +kernel
theorem dX12_pictures_410 : decode cX12_pictures 410 = .ok (.aload_n 0, 1) := by decide +kernel
theorem dX12_pictures_411 : decode cX12_pictures 411 = .ok (.getfield 120, 3) := by decide +kernel
theorem dX12_pictures_414 : decode cX12_pictures 414 = .ok (.iload 9, 2) := by decide +kernel
theorem dX12_pictures_416 : decode cX12_pictures 416 = .ok (.iaload, 1) := by decide +kernel
theorem dX12_pictures_417 : decode cX12_pictures 417 = .ok (.iload 6, 2) := by decide +kernel
theorem dX12_pictures_419 : decode cX12_pictures 419 = .ok (.if_icmp .eq 7, 3) := by decide +kernel
theorem dX12_pictures_422 : decode cX12_pictures 422 = .ok (.iconst 1, 1) := by decide +kernel
theorem dX12_pictures_423 : decode cX12_pictures 423 = .ok (.goto 4, 3) := by decide +kernel
theorem dX12_pictures_426 : decode cX12_pictures 426 = .ok (.iconst 0, 1) := by decide +kernel
theorem dX12_pictures_427 : decode cX12_pictures 427 = .ok (.istore 7, 2) := by decide +kernel
theorem dX12_pictures_429 : decode cX12_pictures 429 = .ok (.iinc 9 1, 3) := by decide +kernel
theorem dX12_pictures_432 : decode cX12_pictures 432 = .ok (.goto (-36), 3) := by decide +kernel
theorem dX12_pictures_435 : decode cX12_pictures 435 = .ok (.ldc2_w 605, 3) := by decide +kernel
theorem dX12_pictures_438 : decode cX12_pictures 438 = .ok (.lstore 9, 2) := by decide +kernel
theorem dX12_pictures_440 : decode cX12_pictures 440 = .ok (.iconst 0, 1) := by decide +kernel
theorem dX12_pictures_441 : decode cX12_pictures 441 = .ok (.istore 11, 2) := by decide +kernel
theorem dX12_pictures_443 : decode cX12_pictures 443 = .ok (.iload 11, 2) := by decide +kernel
theorem dX12_pictures_445 : decode cX12_pictures 445 = .ok (.iload 8, 2) := by decide +kernel
theorem dX12_pictures_447 : decode cX12_pictures 447 = .ok (.if_icmp .ge 50, 3) := by decide +kernel
theorem dX12_pictures_450 : decode cX12_pictures 450 = .ok (.iload 7, 2) := by decide +kernel
theorem dX12_pictures_452 : decode cX12_pictures 452 = .ok (.ifCond .eq 45, 3) := by decide +kernel
theorem dX12_pictures_455 : decode cX12_pictures 455 = .ok (.aload_n 0, 1) := by decide +kernel
theorem dX12_pictures_456 : decode cX12_pictures 456 = .ok (.iload 6, 2) := by decide +kernel
theorem dX12_pictures_458 : decode cX12_pictures 458 = .ok (.iconst 2, 1) := by decide +kernel
theorem dX12_pictures_459 : decode cX12_pictures 459 = .ok (.iadd, 1) := by decide +kernel
theorem dX12_pictures_460 : decode cX12_pictures 460 = .ok (.bipush 12, 2) := by decide +kernel
theorem dX12_pictures_462 : decode cX12_pictures 462 = .ok (.iload 11, 2) := by decide +kernel
theorem dX12_pictures_464 : decode cX12_pictures 464 = .ok (.imul, 1) := by decide +kernel
theorem dX12_pictures_465 : decode cX12_pictures 465 = .ok (.iadd, 1) := by decide +kernel
theorem dX12_pictures_466 : decode cX12_pictures 466 = .ok (.iconst 2, 1) := by decide +kernel
theorem dX12_pictures_467 : decode cX12_pictures 467 = .ok (.invokevirtual 595, 3) := by decide +kernel
theorem dX12_pictures_470 : decode cX12_pictures 470 = .ok (.lstore 12, 2) := by decide +kernel
theorem dX12_pictures_472 : decode cX12_pictures 472 = .ok (.lload 12, 2) := by decide +kernel
theorem dX12_pictures_474 : decode cX12_pictures 474 = .ok (.lload 9, 2) := by decide +kernel
theorem dX12_pictures_476 : decode cX12_pictures 476 = .ok (.lcmp, 1) := by decide +kernel
theorem dX12_pictures_477 : decode cX12_pictures 477 = .ok (.ifCond .le 7, 3) := by decide +kernel
theorem dX12_pictures_480 : decode cX12_pictures 480 = .ok (.iconst 1, 1) := by decide +kernel
theorem dX12_pictures_481 : decode cX12_pictures 481 = .ok (.goto 4, 3) := by decide +kernel
theorem dX12_pictures_484 : decode cX12_pictures 484 = .ok (.iconst 0, 1) := by decide +kernel
theorem dX12_pictures_485 : decode cX12_pictures 485 = .ok (.istore 7, 2) := by decide +kernel
theorem dX12_pictures_487 : decode cX12_pictures 487 = .ok (.lload 12, 2) := by decide +kernel
theorem dX12_pictures_489 : decode cX12_pictures 489 = .ok (.lstore 9, 2) := by decide +kernel
theorem dX12_pictures_491 : decode cX12_pictures 491 = .ok (.iinc 11 1, 3) := by decide +kernel
theorem dX12_pictures_494 : decode cX12_pictures 494 = .ok (.goto (-51), 3) := by decide +kernel
theorem dX12_pictures_497 : decode cX12_pictures 497 = .ok (.iload 7, 2) := by decide +kernel
theorem dX12_pictures_499 : decode cX12_pictures 499 = .ok (.ifCond .ne 11, 3) := by decide +kernel
theorem dX12_pictures_502 : decode cX12_pictures 502 = .ok (.aload_n 0, 1) := by decide +kernel
theorem dX12_pictures_503 : decode cX12_pictures 503 = .ok (.iconst 3, 1) := by decide +kernel
theorem dX12_pictures_504 : decode cX12_pictures 504 = .ok (.iload 6, 2) := by decide +kernel
theorem dX12_pictures_506 : decode cX12_pictures 506 = .ok (.invokevirtual 592, 3) := by decide +kernel
theorem dX12_pictures_509 : decode cX12_pictures 509 = .ok (.ireturn, 1) := by decide +kernel
theorem dX12_pictures_510 : decode cX12_pictures 510 = .ok (.aload_n 0, 1) := by decide +kernel
theorem dX12_pictures_511 : decode cX12_pictures 511 = .ok (.getfield 120, 3) := by decide +kernel
theorem dX12_pictures_514 : decode cX12_pictures 514 = .ok (.aload_n 0, 1) := by decide +kernel
theorem dX12_pictures_515 : decode cX12_pictures 515 = .ok (.getfield 598, 3) := by decide +kernel
theorem dX12_pictures_518 : decode cX12_pictures 518 = .ok (.iload 6, 2) := by decide +kernel
theorem dX12_pictures_520 : decode cX12_pictures 520 = .ok (.iastore, 1) := by decide +kernel
theorem dX12_pictures_521 : decode cX12_pictures 521 = .ok (.aload_n 0, 1) := by decide +kernel
theorem dX12_pictures_522 : decode cX12_pictures 522 = .ok (.dup, 1) := by decide +kernel
theorem dX12_pictures_523 : decode cX12_pictures 523 = .ok (.getfield 598, 3) := by decide +kernel
theorem dX12_pictures_526 : decode cX12_pictures 526 = .ok (.iconst 1, 1) := by decide +kernel
theorem dX12_pictures_527 : decode cX12_pictures 527 = .ok (.iadd, 1) := by decide +kernel
theorem dX12_pictures_528 : decode cX12_pictures 528 = .ok (.putfield 598, 3) := by decide +kernel
theorem dX12_pictures_531 : decode cX12_pictures 531 = .ok (.aload_n 0, 1) := by decide +kernel
theorem dX12_pictures_532 : decode cX12_pictures 532 = .ok (.iload 6, 2) := by decide +kernel
theorem dX12_pictures_534 : decode cX12_pictures 534 = .ok (.iload 8, 2) := by decide +kernel
theorem dX12_pictures_536 : decode cX12_pictures 536 = .ok (.invokevirtual 607, 3) := by decide +kernel
theorem dX12_pictures_539 : decode cX12_pictures 539 = .ok (.ifCond .ne 5, 3) := by decide +kernel
theorem dX12_pictures_542 : decode cX12_pictures 542 = .ok (.iconst 0, 1) := by decide +kernel
theorem dX12_pictures_543 : decode cX12_pictures 543 = .ok (.ireturn, 1) := by decide +kernel
theorem dX12_pictures_544 : decode cX12_pictures 544 = .ok (.aload_n 0, 1) := by decide +kernel
theorem dX12_pictures_545 : decode cX12_pictures 545 = .ok (.getfield 191, 3) := by decide +kernel
theorem dX12_pictures_548 : decode cX12_pictures 548 = .ok (.ifCond .eq 5, 3) := by decide +kernel
theorem dX12_pictures_551 : decode cX12_pictures 551 = .ok (.iconst 0, 1) := by decide +kernel
theorem dX12_pictures_552 : decode cX12_pictures 552 = .ok (.ireturn, 1) := by decide +kernel
theorem dX12_pictures_553 : decode cX12_pictures 553 = .ok (.aload_n 0, 1) := by decide +kernel
theorem dX12_pictures_554 : decode cX12_pictures 554 = .ok (.iload 6, 2) := by decide +kernel
theorem dX12_pictures_556 : decode cX12_pictures 556 = .ok (.iconst 2, 1) := by decide +kernel
theorem dX12_pictures_557 : decode cX12_pictures 557 = .ok (.iadd, 1) := by decide +kernel
theorem dX12_pictures_558 : decode cX12_pictures 558 = .ok (.bipush 12, 2) := by decide +kernel
theorem dX12_pictures_560 : decode cX12_pictures 560 = .ok (.iload 8, 2) := by decide +kernel
theorem dX12_pictures_562 : decode cX12_pictures 562 = .ok (.imul, 1) := by decide +kernel
theorem dX12_pictures_563 : decode cX12_pictures 563 = .ok (.iadd, 1) := by decide +kernel
theorem dX12_pictures_564 : decode cX12_pictures 564 = .ok (.iconst 4, 1) := by decide +kernel
theorem dX12_pictures_565 : decode cX12_pictures 565 = .ok (.invokevirtual 595, 3) := by decide +kernel
theorem dX12_pictures_568 : decode cX12_pictures 568 = .ok (.lstore_n 2, 1) := by decide +kernel
theorem dX12_pictures_569 : decode cX12_pictures 569 = .ok (.goto (-310), 3) := by decide +kernel
theorem dX12_pictures_572 : decode cX12_pictures 572 = .ok (.iconst 1, 1) := by decide +kernel
theorem dX12_pictures_573 : decode cX12_pictures 573 = .ok (.ireturn, 1) := by decide +kernel
noncomputable def f_X12_pictures_497 (k259 : Int64 → Mm → Option (Int32 × Mm)) (a6 : Int32) (a7 : Int32) (a8 : Int32) (T : Mm) : Option (Int32 × Mm) :=
  if a7 = 0 then (bd (f_X12_wrong 3 a6 T) fun v9 T10 =>
  gd (v9 = 0 ∨ v9 = 1) <|
  some (v9, T10))
  else (ix (gI T 1271 133) 12 fun j1 => lb (uA T 169 j1 (a6)) fun T3 =>
  lb (uI T3 1271 133 ((gI T3 1271 133) + 1)) fun T4 =>
  bd (f_X12_directory a6 a8 T4) fun v5 T6 =>
  if v5 = 0 then (some (0, T6))
  else (if (gI T6 1233 133) = 0 then (bd (f_X12_picture ((a6 + 2) + ((12 : Int32) * a8)) 4 T6) fun v7 T8 =>
  k259 v7 T8)
  else (some (0, T6))))
set_option maxRecDepth 100000 in
set_option maxHeartbeats 4000000 in
theorem s_X12_pictures_497 {x : JX} {ad : Nat → Nat} {U : Mm} {S0 : Hp} {q : Int32 × Mm}  {k259 : Int64 → Mm → Option (Int32 × Mm)} (hn9 : x_n x = 14) (C : CB x RX12 cX12_pictures) (M : CMr x 8 (some .boolean) S0 ad false U eI q) (hk259 : ∀ (a2 : Int64) (T : Mm), k259 a2 T = some q → Jr x ad false U T [(0, .ref (ad 133)), (2, .long a2)] 259 []) (a6 : Int32) (a7 : Int32) (a8 : Int32) (T : Mm) (h : f_X12_pictures_497 k259 a6 a7 a8 T = some q) : Jr x ad false U T [(0, .ref (ad 133)), (6, .int a6), (7, .int a7), (8, .int a8)] 497 [] := by
  unfold f_X12_pictures_497 at h
  refine r_iload C dX12_pictures_497 2 rfl ?_
  refine r_if_ne (tgt := 510) C dX12_pictures_499 (by decide) h (fun h => ?_) (fun h => ?_)
  · refine r_aload_n C dX12_pictures_510 rfl 0 rfl ?_
    refine r_getp (f := 1270) (j := 169) C flX12_120 dX12_pictures_511 kq_133 (by decide) rfl (fun W => pt_1270 kq_133 W) ?_
    refine r_aload_n C dX12_pictures_514 rfl 0 rfl ?_
    refine r_geti (f := 1271) C flX12_598 dX12_pictures_515 kq_133 (by decide) (by decide) rfl ?_
    refine r_iload C dX12_pictures_518 1 rfl ?_
    show Jr _ _ _ _ _ _ 520 _
    refine r_iast (n := 12) C dX12_pictures_520 kq_169 lq_169 h (fun j1 T3 hj2 h => ?_)
    refine r_aload_n C dX12_pictures_521 rfl 0 rfl ?_
    refine r_dup C dX12_pictures_522 rfl ?_
    refine r_geti (f := 1271) C flX12_598 dX12_pictures_523 kq_133 (by decide) (by decide) rfl ?_
    refine r_iconst (v := 1) C dX12_pictures_526 (by decide) ?_
    refine r_iadd C dX12_pictures_527 rfl ?_
    show Jr _ _ _ _ _ _ 528 _
    refine r_puti (f := 1271) C flX12_598 (by decide) rfl rfl dX12_pictures_528 kq_133 rfl h (fun T4 h => ?_)
    refine r_aload_n C dX12_pictures_531 rfl 0 rfl ?_
    refine r_iload C dX12_pictures_532 1 rfl ?_
    refine r_iload C dX12_pictures_534 3 rfl ?_
    refine r_callVI C M h [.int a6, .int a8] [] mlX12_607 mcX12_directory (fun q9 e9 => s_X12_directory a6 a8  e9) kq_133 rfl (by decide) (by decide) rfl rfl (Nat.le_of_ble_eq_true rfl) dX12_pictures_536 (fun v5 T6 h => ?_)
    refine r_if_ne (tgt := 544) C dX12_pictures_539 (by decide) h (fun h => ?_) (fun h => ?_)
    · refine r_aload_n C dX12_pictures_544 rfl 0 rfl ?_
      refine r_geti (f := 1233) C flX12_191 dX12_pictures_545 kq_133 (by decide) (by decide) rfl ?_
      refine r_if_eq (tgt := 553) C dX12_pictures_548 (by decide) h (fun h => ?_) (fun h => ?_)
      · refine r_aload_n C dX12_pictures_553 rfl 0 rfl ?_
        refine r_iload C dX12_pictures_554 1 rfl ?_
        refine r_iconst (v := 2) C dX12_pictures_556 (by decide) ?_
        refine r_iadd C dX12_pictures_557 rfl ?_
        refine r_bipush (v := 12) C dX12_pictures_558 (by decide) ?_
        show Jr _ _ _ _ _ _ 560 _
        refine r_iload C dX12_pictures_560 3 rfl ?_
        refine r_imul C dX12_pictures_562 rfl ?_
        refine r_iadd C dX12_pictures_563 rfl ?_
        refine r_iconst (v := 4) C dX12_pictures_564 (by decide) ?_
        refine r_callVJ C M h [.int ((a6 + 2) + ((12 : Int32) * a8)), .int 4] [] mlX12_595 mcX12_picture (fun q9 e9 => s_X12_picture ((a6 + 2) + ((12 : Int32) * a8)) 4  e9) kq_133 rfl (by decide) (by decide) rfl rfl (Nat.le_of_ble_eq_true rfl) dX12_pictures_565 (fun v7 T8 h => ?_)
        refine r_lstore_n (lv' := [(2, .long v7), (0, .ref (ad 133)), (6, .int a6), (7, .int a7), (8, .int a8)]) C dX12_pictures_568 rfl (by rw [hn9]; decide) rfl ?_
        show Jr _ _ _ _ _ _ 569 _
        refine r_goto (tgt := 259) C dX12_pictures_569 (by decide) ?_
        refine Jr.sub [1, 0] (lv' := [(0, .ref (ad 133)), (2, .long v7)]) rfl ?_
        exact hk259 v7 T8 h
      · refine r_iconst (v := 0) C dX12_pictures_551 (by decide) ?_
        exact r_zret C M dX12_pictures_552 (by decide) h
    · refine r_iconst (v := 0) C dX12_pictures_542 (by decide) ?_
      exact r_zret C M dX12_pictures_543 (by decide) h
  · refine r_aload_n C dX12_pictures_502 rfl 0 rfl ?_
    refine r_iconst (v := 3) C dX12_pictures_503 (by decide) ?_
    refine r_iload C dX12_pictures_504 1 rfl ?_
    refine r_callVI C M h [.int 3, .int a6] [] mlX12_592 mcX12_wrong (fun q9 e9 => s_X12_wrong 3 a6  e9) kq_133 rfl (by decide) (by decide) rfl rfl (Nat.le_of_ble_eq_true rfl) dX12_pictures_506 (fun v9 T10 h => ?_)
    refine r_gd h (fun hz11 h => ?_)
    exact r_zret C M dX12_pictures_509 hz11 h
noncomputable def f_X12_pictures_b443 (k259 : Int64 → Mm → Option (Int32 × Mm)) (k443 : Int32 → Int32 → Int32 → Int64 → Int32 → Mm → Option (Int32 × Mm)) (a6 : Int32) (a7 : Int32) (a8 : Int32) (a9 : Int64) (a11 : Int32) (T : Mm) : Option (Int32 × Mm) :=
  if a8 ≤ a11 then (f_X12_pictures_497 k259 a6 a7 a8 T)
  else (if a7 = 0 then (f_X12_pictures_497 k259 a6 a7 a8 T)
  else (bd (f_X12_picture ((a6 + 2) + ((12 : Int32) * a11)) 2 T) fun v1 T2 =>
  if (lg_cmp v1 a9) ≤ 0 then (k443 a6 0 a8 v1 (a11 + 1) T2)
  else (k443 a6 1 a8 v1 (a11 + 1) T2)))
set_option maxRecDepth 100000 in
set_option maxHeartbeats 4000000 in
theorem s_X12_pictures_b443 {x : JX} {ad : Nat → Nat} {U : Mm} {S0 : Hp} {q : Int32 × Mm}  {k259 : Int64 → Mm → Option (Int32 × Mm)} {k443 : Int32 → Int32 → Int32 → Int64 → Int32 → Mm → Option (Int32 × Mm)} (hn9 : x_n x = 14) (C : CB x RX12 cX12_pictures) (M : CMr x 8 (some .boolean) S0 ad false U eI q) (hk259 : ∀ (a2 : Int64) (T : Mm), k259 a2 T = some q → Jr x ad false U T [(0, .ref (ad 133)), (2, .long a2)] 259 []) (hk443 : ∀ (a6 : Int32) (a7 : Int32) (a8 : Int32) (a9 : Int64) (a11 : Int32) (T : Mm), k443 a6 a7 a8 a9 a11 T = some q → Jr x ad false U T [(0, .ref (ad 133)), (6, .int a6), (7, .int a7), (8, .int a8), (9, .long a9), (11, .int a11)] 443 []) (a6 : Int32) (a7 : Int32) (a8 : Int32) (a9 : Int64) (a11 : Int32) (T : Mm) (h : f_X12_pictures_b443 k259 k443 a6 a7 a8 a9 a11 T = some q) : Jr x ad false U T [(0, .ref (ad 133)), (6, .int a6), (7, .int a7), (8, .int a8), (9, .long a9), (11, .int a11)] 443 [] := by
  unfold f_X12_pictures_b443 at h
  refine r_iload C dX12_pictures_443 5 rfl ?_
  refine r_iload C dX12_pictures_445 3 rfl ?_
  refine r_ic_ge (tgt := 497) C dX12_pictures_447 (by decide) h (fun h => ?_) (fun h => ?_)
  · refine Jr.sub [0, 1, 2, 3] (lv' := [(0, .ref (ad 133)), (6, .int a6), (7, .int a7), (8, .int a8)]) rfl ?_
    exact s_X12_pictures_497 hn9 C M hk259 a6 a7 a8 T h
  · refine r_iload C dX12_pictures_450 2 rfl ?_
    refine r_if_eq (tgt := 497) C dX12_pictures_452 (by decide) h (fun h => ?_) (fun h => ?_)
    · refine Jr.sub [0, 1, 2, 3] (lv' := [(0, .ref (ad 133)), (6, .int a6), (7, .int a7), (8, .int a8)]) rfl ?_
      exact s_X12_pictures_497 hn9 C M hk259 a6 a7 a8 T h
    · refine r_aload_n C dX12_pictures_455 rfl 0 rfl ?_
      refine r_iload C dX12_pictures_456 1 rfl ?_
      refine r_iconst (v := 2) C dX12_pictures_458 (by decide) ?_
      refine r_iadd C dX12_pictures_459 rfl ?_
      refine r_bipush (v := 12) C dX12_pictures_460 (by decide) ?_
      show Jr _ _ _ _ _ _ 462 _
      refine r_iload C dX12_pictures_462 5 rfl ?_
      refine r_imul C dX12_pictures_464 rfl ?_
      refine r_iadd C dX12_pictures_465 rfl ?_
      refine r_iconst (v := 2) C dX12_pictures_466 (by decide) ?_
      refine r_callVJ C M h [.int ((a6 + 2) + ((12 : Int32) * a11)), .int 2] [] mlX12_595 mcX12_picture (fun q9 e9 => s_X12_picture ((a6 + 2) + ((12 : Int32) * a11)) 2  e9) kq_133 rfl (by decide) (by decide) rfl rfl (Nat.le_of_ble_eq_true rfl) dX12_pictures_467 (fun v1 T2 h => ?_)
      refine r_lstore (lv' := [(12, .long v1), (0, .ref (ad 133)), (6, .int a6), (7, .int a7), (8, .int a8), (9, .long a9), (11, .int a11)]) C dX12_pictures_470 (by rw [hn9]; decide) rfl ?_
      show Jr _ _ _ _ _ _ 472 _
      refine r_lload C dX12_pictures_472 0 rfl ?_
      refine r_lload C dX12_pictures_474 5 rfl ?_
      refine r_lcmp C dX12_pictures_476 ?_
      refine r_if_le (tgt := 484) C dX12_pictures_477 (by decide) h (fun h => ?_) (fun h => ?_)
      · refine r_iconst (v := 0) C dX12_pictures_484 (by decide) ?_
        refine r_istore (lv' := [(7, .int 0), (12, .long v1), (0, .ref (ad 133)), (6, .int a6), (8, .int a8), (9, .long a9), (11, .int a11)]) C dX12_pictures_485 (by rw [hn9]; decide) rfl ?_
        refine r_lload C dX12_pictures_487 1 rfl ?_
        refine r_lstore (lv' := [(9, .long v1), (7, .int 0), (12, .long v1), (0, .ref (ad 133)), (6, .int a6), (8, .int a8), (11, .int a11)]) C dX12_pictures_489 (by rw [hn9]; decide) rfl ?_
        refine r_iinc (q := 6) (v := (a11 + 1)) (lv' := [(11, .int (a11 + 1)), (9, .long v1), (7, .int 0), (12, .long v1), (0, .ref (ad 133)), (6, .int a6), (8, .int a8)]) C dX12_pictures_491 rfl (by rw [show Int32.ofInt (1) = 1 by decide]) (by rw [hn9]; decide) rfl ?_
        show Jr _ _ _ _ _ _ 494 _
        refine r_goto (tgt := 443) C dX12_pictures_494 (by decide) ?_
        refine Jr.sub [4, 5, 2, 6, 1, 0] (lv' := [(0, .ref (ad 133)), (6, .int a6), (7, .int 0), (8, .int a8), (9, .long v1), (11, .int (a11 + 1))]) rfl ?_
        exact hk443 a6 0 a8 v1 (a11 + 1) T2 h
      · refine r_iconst (v := 1) C dX12_pictures_480 (by decide) ?_
        refine r_goto (tgt := 485) C dX12_pictures_481 (by decide) ?_
        refine r_istore (lv' := [(7, .int 1), (12, .long v1), (0, .ref (ad 133)), (6, .int a6), (8, .int a8), (9, .long a9), (11, .int a11)]) C dX12_pictures_485 (by rw [hn9]; decide) rfl ?_
        refine r_lload C dX12_pictures_487 1 rfl ?_
        refine r_lstore (lv' := [(9, .long v1), (7, .int 1), (12, .long v1), (0, .ref (ad 133)), (6, .int a6), (8, .int a8), (11, .int a11)]) C dX12_pictures_489 (by rw [hn9]; decide) rfl ?_
        show Jr _ _ _ _ _ _ 491 _
        refine r_iinc (q := 6) (v := (a11 + 1)) (lv' := [(11, .int (a11 + 1)), (9, .long v1), (7, .int 1), (12, .long v1), (0, .ref (ad 133)), (6, .int a6), (8, .int a8)]) C dX12_pictures_491 rfl (by rw [show Int32.ofInt (1) = 1 by decide]) (by rw [hn9]; decide) rfl ?_
        refine r_goto (tgt := 443) C dX12_pictures_494 (by decide) ?_
        refine Jr.sub [4, 5, 2, 6, 1, 0] (lv' := [(0, .ref (ad 133)), (6, .int a6), (7, .int 1), (8, .int a8), (9, .long v1), (11, .int (a11 + 1))]) rfl ?_
        exact hk443 a6 1 a8 v1 (a11 + 1) T2 h
noncomputable def f_X12_pictures_l443 (k259 : Int64 → Mm → Option (Int32 × Mm)) (n : Nat) : Int32 → Int32 → Int32 → Int64 → Int32 → Mm → Option (Int32 × Mm) := Nat.rec (fun _ _ _ _ _ _ => none) (fun _ ih => f_X12_pictures_b443 k259 ih) n
theorem s_X12_pictures_l443 {x : JX} {ad : Nat → Nat} {U : Mm} {S0 : Hp} {q : Int32 × Mm}  {k259 : Int64 → Mm → Option (Int32 × Mm)} (hn9 : x_n x = 14) (C : CB x RX12 cX12_pictures) (M : CMr x 8 (some .boolean) S0 ad false U eI q) (hk259 : ∀ (a2 : Int64) (T : Mm), k259 a2 T = some q → Jr x ad false U T [(0, .ref (ad 133)), (2, .long a2)] 259 []) : ∀ (n : Nat), ∀ (a6 : Int32) (a7 : Int32) (a8 : Int32) (a9 : Int64) (a11 : Int32) (T : Mm), f_X12_pictures_l443 k259 n a6 a7 a8 a9 a11 T = some q → Jr x ad false U T [(0, .ref (ad 133)), (6, .int a6), (7, .int a7), (8, .int a8), (9, .long a9), (11, .int a11)] 443 [] := by
  intro n
  induction n with
  | zero => intro a6 a7 a8 a9 a11 T  h; exact absurd h (by intro h; cases h)
  | succ n ih => exact fun a6 a7 a8 a9 a11 T  h => s_X12_pictures_b443 hn9 C M hk259 (ih) a6 a7 a8 a9 a11 T  h
noncomputable def f_X12_pictures_b396 (k259 : Int64 → Mm → Option (Int32 × Mm)) (k396 : Int32 → Int32 → Int32 → Int32 → Mm → Option (Int32 × Mm)) (a6 : Int32) (a7 : Int32) (a8 : Int32) (a9 : Int32) (T : Mm) : Option (Int32 × Mm) :=
  if (gI T 1271 133) ≤ a9 then (f_X12_pictures_l443 k259 FU a6 a7 a8 (-1) 0 T)
  else (if a7 = 0 then (k396 a6 0 a8 (a9 + 1) T)
  else (ix a9 12 fun j1 =>
  if (gA T 169 j1) = a6 then (k396 a6 0 a8 (a9 + 1) T)
  else (k396 a6 1 a8 (a9 + 1) T)))
set_option maxRecDepth 100000 in
set_option maxHeartbeats 4000000 in
theorem s_X12_pictures_b396 {x : JX} {ad : Nat → Nat} {U : Mm} {S0 : Hp} {q : Int32 × Mm}  {k259 : Int64 → Mm → Option (Int32 × Mm)} {k396 : Int32 → Int32 → Int32 → Int32 → Mm → Option (Int32 × Mm)} (hn9 : x_n x = 14) (C : CB x RX12 cX12_pictures) (M : CMr x 8 (some .boolean) S0 ad false U eI q) (hk259 : ∀ (a2 : Int64) (T : Mm), k259 a2 T = some q → Jr x ad false U T [(0, .ref (ad 133)), (2, .long a2)] 259 []) (hk396 : ∀ (a6 : Int32) (a7 : Int32) (a8 : Int32) (a9 : Int32) (T : Mm), k396 a6 a7 a8 a9 T = some q → Jr x ad false U T [(0, .ref (ad 133)), (6, .int a6), (7, .int a7), (8, .int a8), (9, .int a9)] 396 []) (a6 : Int32) (a7 : Int32) (a8 : Int32) (a9 : Int32) (T : Mm) (h : f_X12_pictures_b396 k259 k396 a6 a7 a8 a9 T = some q) : Jr x ad false U T [(0, .ref (ad 133)), (6, .int a6), (7, .int a7), (8, .int a8), (9, .int a9)] 396 [] := by
  unfold f_X12_pictures_b396 at h
  refine r_iload C dX12_pictures_396 4 rfl ?_
  refine r_aload_n C dX12_pictures_398 rfl 0 rfl ?_
  refine r_geti (f := 1271) C flX12_598 dX12_pictures_399 kq_133 (by decide) (by decide) rfl ?_
  refine r_ic_ge (tgt := 435) C dX12_pictures_402 (by decide) h (fun h => ?_) (fun h => ?_)
  · refine r_ldc2 (v := (-1)) C dX12_pictures_435 kcX12_605 ?_
    refine r_lstore (lv' := [(9, .long (-1)), (0, .ref (ad 133)), (6, .int a6), (7, .int a7), (8, .int a8)]) C dX12_pictures_438 (by rw [hn9]; decide) rfl ?_
    refine r_iconst (v := 0) C dX12_pictures_440 (by decide) ?_
    refine r_istore (lv' := [(11, .int 0), (9, .long (-1)), (0, .ref (ad 133)), (6, .int a6), (7, .int a7), (8, .int a8)]) C dX12_pictures_441 (by rw [hn9]; decide) rfl ?_
    refine Jr.sub [2, 3, 4, 5, 1, 0] (lv' := [(0, .ref (ad 133)), (6, .int a6), (7, .int a7), (8, .int a8), (9, .long (-1)), (11, .int 0)]) rfl ?_
    exact s_X12_pictures_l443 hn9 C M hk259 FU a6 a7 a8 (-1) 0 T h
  · refine r_iload C dX12_pictures_405 2 rfl ?_
    refine r_if_eq (tgt := 426) C dX12_pictures_407 (by decide) h (fun h => ?_) (fun h => ?_)
    · refine r_iconst (v := 0) C dX12_pictures_426 (by decide) ?_
      refine r_istore (lv' := [(7, .int 0), (0, .ref (ad 133)), (6, .int a6), (8, .int a8), (9, .int a9)]) C dX12_pictures_427 (by rw [hn9]; decide) rfl ?_
      refine r_iinc (q := 4) (v := (a9 + 1)) (lv' := [(9, .int (a9 + 1)), (7, .int 0), (0, .ref (ad 133)), (6, .int a6), (8, .int a8)]) C dX12_pictures_429 rfl (by rw [show Int32.ofInt (1) = 1 by decide]) (by rw [hn9]; decide) rfl ?_
      refine r_goto (tgt := 396) C dX12_pictures_432 (by decide) ?_
      refine Jr.sub [2, 3, 1, 4, 0] (lv' := [(0, .ref (ad 133)), (6, .int a6), (7, .int 0), (8, .int a8), (9, .int (a9 + 1))]) rfl ?_
      exact hk396 a6 0 a8 (a9 + 1) T h
    · refine r_aload_n C dX12_pictures_410 rfl 0 rfl ?_
      refine r_getp (f := 1270) (j := 169) C flX12_120 dX12_pictures_411 kq_133 (by decide) rfl (fun W => pt_1270 kq_133 W) ?_
      refine r_iload C dX12_pictures_414 4 rfl ?_
      refine r_iald (n := 12) C dX12_pictures_416 kq_169 lq_169 h (fun j1 hj2 h => ?_)
      refine r_iload C dX12_pictures_417 1 rfl ?_
      show Jr _ _ _ _ _ _ 419 _
      refine r_ic_eq (tgt := 426) C dX12_pictures_419 (by decide) h (fun h => ?_) (fun h => ?_)
      · refine r_iconst (v := 0) C dX12_pictures_426 (by decide) ?_
        refine r_istore (lv' := [(7, .int 0), (0, .ref (ad 133)), (6, .int a6), (8, .int a8), (9, .int a9)]) C dX12_pictures_427 (by rw [hn9]; decide) rfl ?_
        refine r_iinc (q := 4) (v := (a9 + 1)) (lv' := [(9, .int (a9 + 1)), (7, .int 0), (0, .ref (ad 133)), (6, .int a6), (8, .int a8)]) C dX12_pictures_429 rfl (by rw [show Int32.ofInt (1) = 1 by decide]) (by rw [hn9]; decide) rfl ?_
        refine r_goto (tgt := 396) C dX12_pictures_432 (by decide) ?_
        refine Jr.sub [2, 3, 1, 4, 0] (lv' := [(0, .ref (ad 133)), (6, .int a6), (7, .int 0), (8, .int a8), (9, .int (a9 + 1))]) rfl ?_
        exact hk396 a6 0 a8 (a9 + 1) T h
      · refine r_iconst (v := 1) C dX12_pictures_422 (by decide) ?_
        refine r_goto (tgt := 427) C dX12_pictures_423 (by decide) ?_
        refine r_istore (lv' := [(7, .int 1), (0, .ref (ad 133)), (6, .int a6), (8, .int a8), (9, .int a9)]) C dX12_pictures_427 (by rw [hn9]; decide) rfl ?_
        refine r_iinc (q := 4) (v := (a9 + 1)) (lv' := [(9, .int (a9 + 1)), (7, .int 1), (0, .ref (ad 133)), (6, .int a6), (8, .int a8)]) C dX12_pictures_429 rfl (by rw [show Int32.ofInt (1) = 1 by decide]) (by rw [hn9]; decide) rfl ?_
        refine r_goto (tgt := 396) C dX12_pictures_432 (by decide) ?_
        refine Jr.sub [2, 3, 1, 4, 0] (lv' := [(0, .ref (ad 133)), (6, .int a6), (7, .int 1), (8, .int a8), (9, .int (a9 + 1))]) rfl ?_
        exact hk396 a6 1 a8 (a9 + 1) T h
noncomputable def f_X12_pictures_l396 (k259 : Int64 → Mm → Option (Int32 × Mm)) (n : Nat) : Int32 → Int32 → Int32 → Int32 → Mm → Option (Int32 × Mm) := Nat.rec (fun _ _ _ _ _ => none) (fun _ ih => f_X12_pictures_b396 k259 ih) n
theorem s_X12_pictures_l396 {x : JX} {ad : Nat → Nat} {U : Mm} {S0 : Hp} {q : Int32 × Mm}  {k259 : Int64 → Mm → Option (Int32 × Mm)} (hn9 : x_n x = 14) (C : CB x RX12 cX12_pictures) (M : CMr x 8 (some .boolean) S0 ad false U eI q) (hk259 : ∀ (a2 : Int64) (T : Mm), k259 a2 T = some q → Jr x ad false U T [(0, .ref (ad 133)), (2, .long a2)] 259 []) : ∀ (n : Nat), ∀ (a6 : Int32) (a7 : Int32) (a8 : Int32) (a9 : Int32) (T : Mm), f_X12_pictures_l396 k259 n a6 a7 a8 a9 T = some q → Jr x ad false U T [(0, .ref (ad 133)), (6, .int a6), (7, .int a7), (8, .int a8), (9, .int a9)] 396 [] := by
  intro n
  induction n with
  | zero => intro a6 a7 a8 a9 T  h; exact absurd h (by intro h; cases h)
  | succ n ih => exact fun a6 a7 a8 a9 T  h => s_X12_pictures_b396 hn9 C M hk259 (ih) a6 a7 a8 a9 T  h
noncomputable def f_X12_pictures_339 (k259 : Int64 → Mm → Option (Int32 × Mm)) (a4 : Int64) (a6 : Int32) (a7 : Int32) (b0 : Int32) (T : Mm) : Option (Int32 × Mm) :=
  if a7 = 0 then (f_X12_pictures_l396 k259 FU a6 0 b0 0 T)
  else (if b0 < 1 then (f_X12_pictures_l396 k259 FU a6 0 b0 0 T)
  else (if 40 < b0 then (f_X12_pictures_l396 k259 FU a6 0 b0 0 T)
  else (if 0 < (lg_cmp (((a4 + 2) + ((12 : Int64) * ((b0).toInt64))) + 4) (((gI T 1268 133)).toInt64)) then (f_X12_pictures_l396 k259 FU a6 0 b0 0 T)
  else (f_X12_pictures_l396 k259 FU a6 1 b0 0 T))))
set_option maxRecDepth 100000 in
set_option maxHeartbeats 4000000 in
theorem s_X12_pictures_339 {x : JX} {ad : Nat → Nat} {U : Mm} {S0 : Hp} {q : Int32 × Mm}  {k259 : Int64 → Mm → Option (Int32 × Mm)} (hn9 : x_n x = 14) (C : CB x RX12 cX12_pictures) (M : CMr x 8 (some .boolean) S0 ad false U eI q) (hk259 : ∀ (a2 : Int64) (T : Mm), k259 a2 T = some q → Jr x ad false U T [(0, .ref (ad 133)), (2, .long a2)] 259 []) (a4 : Int64) (a6 : Int32) (a7 : Int32) (b0 : Int32) (T : Mm) (h : f_X12_pictures_339 k259 a4 a6 a7 b0 T = some q) : Jr x ad false U T [(0, .ref (ad 133)), (4, .long a4), (6, .int a6), (7, .int a7)] 339 [.int b0] := by
  unfold f_X12_pictures_339 at h
  refine r_istore (lv' := [(8, .int b0), (0, .ref (ad 133)), (4, .long a4), (6, .int a6), (7, .int a7)]) C dX12_pictures_339 (by rw [hn9]; decide) rfl ?_
  refine r_iload C dX12_pictures_341 4 rfl ?_
  refine r_if_eq (tgt := 390) C dX12_pictures_343 (by decide) h (fun h => ?_) (fun h => ?_)
  · refine r_iconst (v := 0) C dX12_pictures_390 (by decide) ?_
    refine r_istore (lv' := [(7, .int 0), (8, .int b0), (0, .ref (ad 133)), (4, .long a4), (6, .int a6)]) C dX12_pictures_391 (by rw [hn9]; decide) rfl ?_
    refine r_iconst (v := 0) C dX12_pictures_393 (by decide) ?_
    refine r_istore (lv' := [(9, .int 0), (7, .int 0), (8, .int b0), (0, .ref (ad 133)), (4, .long a4), (6, .int a6)]) C dX12_pictures_394 (by rw [hn9]; decide) rfl ?_
    refine Jr.sub [3, 5, 1, 2, 0] (lv' := [(0, .ref (ad 133)), (6, .int a6), (7, .int 0), (8, .int b0), (9, .int 0)]) rfl ?_
    exact s_X12_pictures_l396 hn9 C M hk259 FU a6 0 b0 0 T h
  · refine r_iload C dX12_pictures_346 0 rfl ?_
    refine r_iconst (v := 1) C dX12_pictures_348 (by decide) ?_
    refine r_ic_lt (tgt := 390) C dX12_pictures_349 (by decide) h (fun h => ?_) (fun h => ?_)
    · refine r_iconst (v := 0) C dX12_pictures_390 (by decide) ?_
      refine r_istore (lv' := [(7, .int 0), (8, .int b0), (0, .ref (ad 133)), (4, .long a4), (6, .int a6)]) C dX12_pictures_391 (by rw [hn9]; decide) rfl ?_
      refine r_iconst (v := 0) C dX12_pictures_393 (by decide) ?_
      refine r_istore (lv' := [(9, .int 0), (7, .int 0), (8, .int b0), (0, .ref (ad 133)), (4, .long a4), (6, .int a6)]) C dX12_pictures_394 (by rw [hn9]; decide) rfl ?_
      refine Jr.sub [3, 5, 1, 2, 0] (lv' := [(0, .ref (ad 133)), (6, .int a6), (7, .int 0), (8, .int b0), (9, .int 0)]) rfl ?_
      exact s_X12_pictures_l396 hn9 C M hk259 FU a6 0 b0 0 T h
    · refine r_iload C dX12_pictures_352 0 rfl ?_
      refine r_bipush (v := 40) C dX12_pictures_354 (by decide) ?_
      refine r_ic_gt (tgt := 390) C dX12_pictures_356 (by decide) h (fun h => ?_) (fun h => ?_)
      · refine r_iconst (v := 0) C dX12_pictures_390 (by decide) ?_
        refine r_istore (lv' := [(7, .int 0), (8, .int b0), (0, .ref (ad 133)), (4, .long a4), (6, .int a6)]) C dX12_pictures_391 (by rw [hn9]; decide) rfl ?_
        refine r_iconst (v := 0) C dX12_pictures_393 (by decide) ?_
        refine r_istore (lv' := [(9, .int 0), (7, .int 0), (8, .int b0), (0, .ref (ad 133)), (4, .long a4), (6, .int a6)]) C dX12_pictures_394 (by rw [hn9]; decide) rfl ?_
        refine Jr.sub [3, 5, 1, 2, 0] (lv' := [(0, .ref (ad 133)), (6, .int a6), (7, .int 0), (8, .int b0), (9, .int 0)]) rfl ?_
        exact s_X12_pictures_l396 hn9 C M hk259 FU a6 0 b0 0 T h
      · refine r_lload C dX12_pictures_359 2 rfl ?_
        refine r_ldc2 (v := 2) C dX12_pictures_361 kcX12_356 ?_
        refine r_ladd C dX12_pictures_364 rfl ?_
        refine r_ldc2 (v := 12) C dX12_pictures_365 kcX12_601 ?_
        refine r_iload C dX12_pictures_368 0 rfl ?_
        show Jr _ _ _ _ _ _ 370 _
        refine r_i2l C dX12_pictures_370 rfl ?_
        refine r_lmul C dX12_pictures_371 rfl ?_
        refine r_ladd C dX12_pictures_372 rfl ?_
        refine r_ldc2 (v := 4) C dX12_pictures_373 kcX12_603 ?_
        refine r_ladd C dX12_pictures_376 rfl ?_
        refine r_aload_n C dX12_pictures_377 rfl 1 rfl ?_
        show Jr _ _ _ _ _ _ 378 _
        refine r_geti (f := 1268) C flX12_589 dX12_pictures_378 kq_133 (by decide) (by decide) rfl ?_
        refine r_i2l C dX12_pictures_381 rfl ?_
        refine r_lcmp C dX12_pictures_382 ?_
        refine r_if_gt (tgt := 390) C dX12_pictures_383 (by decide) h (fun h => ?_) (fun h => ?_)
        · refine r_iconst (v := 0) C dX12_pictures_390 (by decide) ?_
          refine r_istore (lv' := [(7, .int 0), (8, .int b0), (0, .ref (ad 133)), (4, .long a4), (6, .int a6)]) C dX12_pictures_391 (by rw [hn9]; decide) rfl ?_
          refine r_iconst (v := 0) C dX12_pictures_393 (by decide) ?_
          refine r_istore (lv' := [(9, .int 0), (7, .int 0), (8, .int b0), (0, .ref (ad 133)), (4, .long a4), (6, .int a6)]) C dX12_pictures_394 (by rw [hn9]; decide) rfl ?_
          refine Jr.sub [3, 5, 1, 2, 0] (lv' := [(0, .ref (ad 133)), (6, .int a6), (7, .int 0), (8, .int b0), (9, .int 0)]) rfl ?_
          exact s_X12_pictures_l396 hn9 C M hk259 FU a6 0 b0 0 T h
        · refine r_iconst (v := 1) C dX12_pictures_386 (by decide) ?_
          refine r_goto (tgt := 391) C dX12_pictures_387 (by decide) ?_
          refine r_istore (lv' := [(7, .int 1), (8, .int b0), (0, .ref (ad 133)), (4, .long a4), (6, .int a6)]) C dX12_pictures_391 (by rw [hn9]; decide) rfl ?_
          refine r_iconst (v := 0) C dX12_pictures_393 (by decide) ?_
          refine r_istore (lv' := [(9, .int 0), (7, .int 1), (8, .int b0), (0, .ref (ad 133)), (4, .long a4), (6, .int a6)]) C dX12_pictures_394 (by rw [hn9]; decide) rfl ?_
          refine Jr.sub [3, 5, 1, 2, 0] (lv' := [(0, .ref (ad 133)), (6, .int a6), (7, .int 1), (8, .int b0), (9, .int 0)]) rfl ?_
          exact s_X12_pictures_l396 hn9 C M hk259 FU a6 1 b0 0 T h
noncomputable def f_X12_pictures_320 (k259 : Int64 → Mm → Option (Int32 × Mm)) (a4 : Int64) (a6 : Int32) (b0 : Int32) (T : Mm) : Option (Int32 × Mm) :=
  if b0 = 0 then (f_X12_pictures_339 k259 a4 a6 b0 0 T)
  else (bd (f_X12_picture a6 2 T) fun v1 T2 =>
  f_X12_pictures_339 k259 a4 a6 b0 ((v1).toInt32) T2)
set_option maxRecDepth 100000 in
set_option maxHeartbeats 4000000 in
theorem s_X12_pictures_320 {x : JX} {ad : Nat → Nat} {U : Mm} {S0 : Hp} {q : Int32 × Mm}  {k259 : Int64 → Mm → Option (Int32 × Mm)} (hn9 : x_n x = 14) (C : CB x RX12 cX12_pictures) (M : CMr x 8 (some .boolean) S0 ad false U eI q) (hk259 : ∀ (a2 : Int64) (T : Mm), k259 a2 T = some q → Jr x ad false U T [(0, .ref (ad 133)), (2, .long a2)] 259 []) (a4 : Int64) (a6 : Int32) (b0 : Int32) (T : Mm) (h : f_X12_pictures_320 k259 a4 a6 b0 T = some q) : Jr x ad false U T [(0, .ref (ad 133)), (4, .long a4), (6, .int a6)] 320 [.int b0] := by
  unfold f_X12_pictures_320 at h
  refine r_istore (lv' := [(7, .int b0), (0, .ref (ad 133)), (4, .long a4), (6, .int a6)]) C dX12_pictures_320 (by rw [hn9]; decide) rfl ?_
  refine r_iload C dX12_pictures_322 0 rfl ?_
  refine r_if_eq (tgt := 338) C dX12_pictures_324 (by decide) h (fun h => ?_) (fun h => ?_)
  · refine r_iconst (v := 0) C dX12_pictures_338 (by decide) ?_
    refine Jr.sub [1, 2, 3, 0] (lv' := [(0, .ref (ad 133)), (4, .long a4), (6, .int a6), (7, .int b0)]) rfl ?_
    exact s_X12_pictures_339 hn9 C M hk259 a4 a6 b0 0 T h
  · refine r_aload_n C dX12_pictures_327 rfl 1 rfl ?_
    refine r_iload C dX12_pictures_328 3 rfl ?_
    refine r_iconst (v := 2) C dX12_pictures_330 (by decide) ?_
    refine r_callVJ C M h [.int a6, .int 2] [] mlX12_595 mcX12_picture (fun q9 e9 => s_X12_picture a6 2  e9) kq_133 rfl (by decide) (by decide) rfl rfl (Nat.le_of_ble_eq_true rfl) dX12_pictures_331 (fun v1 T2 h => ?_)
    refine r_l2i C dX12_pictures_334 rfl ?_
    show Jr _ _ _ _ _ _ 335 _
    refine r_goto (tgt := 339) C dX12_pictures_335 (by decide) ?_
    refine Jr.sub [1, 2, 3, 0] (lv' := [(0, .ref (ad 133)), (4, .long a4), (6, .int a6), (7, .int b0)]) rfl ?_
    exact s_X12_pictures_339 hn9 C M hk259 a4 a6 b0 ((v1).toInt32) T2 h
noncomputable def f_X12_pictures_289 (k259 : Int64 → Mm → Option (Int32 × Mm)) (a4 : Int64) (b0 : Int32) (T : Mm) : Option (Int32 × Mm) :=
  if 0 < (lg_cmp (a4 + 2) (((gI T 1268 133)).toInt64)) then (f_X12_pictures_320 k259 a4 b0 0 T)
  else (if 12 ≤ (gI T 1271 133) then (f_X12_pictures_320 k259 a4 b0 0 T)
  else (f_X12_pictures_320 k259 a4 b0 1 T))
set_option maxRecDepth 100000 in
set_option maxHeartbeats 4000000 in
theorem s_X12_pictures_289 {x : JX} {ad : Nat → Nat} {U : Mm} {S0 : Hp} {q : Int32 × Mm}  {k259 : Int64 → Mm → Option (Int32 × Mm)} (hn9 : x_n x = 14) (C : CB x RX12 cX12_pictures) (M : CMr x 8 (some .boolean) S0 ad false U eI q) (hk259 : ∀ (a2 : Int64) (T : Mm), k259 a2 T = some q → Jr x ad false U T [(0, .ref (ad 133)), (2, .long a2)] 259 []) (a4 : Int64) (b0 : Int32) (T : Mm) (h : f_X12_pictures_289 k259 a4 b0 T = some q) : Jr x ad false U T [(0, .ref (ad 133)), (4, .long a4)] 289 [.int b0] := by
  unfold f_X12_pictures_289 at h
  refine r_istore (lv' := [(6, .int b0), (0, .ref (ad 133)), (4, .long a4)]) C dX12_pictures_289 (by rw [hn9]; decide) rfl ?_
  refine r_lload C dX12_pictures_291 2 rfl ?_
  refine r_ldc2 (v := 2) C dX12_pictures_293 kcX12_356 ?_
  refine r_ladd C dX12_pictures_296 rfl ?_
  refine r_aload_n C dX12_pictures_297 rfl 1 rfl ?_
  show Jr _ _ _ _ _ _ 298 _
  refine r_geti (f := 1268) C flX12_589 dX12_pictures_298 kq_133 (by decide) (by decide) rfl ?_
  refine r_i2l C dX12_pictures_301 rfl ?_
  refine r_lcmp C dX12_pictures_302 ?_
  refine r_if_gt (tgt := 319) C dX12_pictures_303 (by decide) h (fun h => ?_) (fun h => ?_)
  · refine r_iconst (v := 0) C dX12_pictures_319 (by decide) ?_
    refine Jr.sub [1, 2, 0] (lv' := [(0, .ref (ad 133)), (4, .long a4), (6, .int b0)]) rfl ?_
    exact s_X12_pictures_320 hn9 C M hk259 a4 b0 0 T h
  · refine r_aload_n C dX12_pictures_306 rfl 1 rfl ?_
    refine r_geti (f := 1271) C flX12_598 dX12_pictures_307 kq_133 (by decide) (by decide) rfl ?_
    refine r_bipush (v := 12) C dX12_pictures_310 (by decide) ?_
    refine r_ic_ge (tgt := 319) C dX12_pictures_312 (by decide) h (fun h => ?_) (fun h => ?_)
    · refine r_iconst (v := 0) C dX12_pictures_319 (by decide) ?_
      refine Jr.sub [1, 2, 0] (lv' := [(0, .ref (ad 133)), (4, .long a4), (6, .int b0)]) rfl ?_
      exact s_X12_pictures_320 hn9 C M hk259 a4 b0 0 T h
    · refine r_iconst (v := 1) C dX12_pictures_315 (by decide) ?_
      refine r_goto (tgt := 320) C dX12_pictures_316 (by decide) ?_
      refine Jr.sub [1, 2, 0] (lv' := [(0, .ref (ad 133)), (4, .long a4), (6, .int b0)]) rfl ?_
      exact s_X12_pictures_320 hn9 C M hk259 a4 b0 1 T h
noncomputable def f_X12_pictures_b259 (k259 : Int64 → Mm → Option (Int32 × Mm)) (a2 : Int64) (T : Mm) : Option (Int32 × Mm) :=
  if (lg_cmp a2 0) = 0 then (some (1, T))
  else (if (lg_cmp a2 (((gI T 1268 133)).toInt64)) ≤ 0 then (f_X12_pictures_289 k259 a2 ((a2).toInt32) T)
  else (f_X12_pictures_289 k259 a2 (gI T 1268 133) T))
set_option maxRecDepth 100000 in
set_option maxHeartbeats 4000000 in
theorem s_X12_pictures_b259 {x : JX} {ad : Nat → Nat} {U : Mm} {S0 : Hp} {q : Int32 × Mm}  {k259 : Int64 → Mm → Option (Int32 × Mm)} (hn9 : x_n x = 14) (C : CB x RX12 cX12_pictures) (M : CMr x 8 (some .boolean) S0 ad false U eI q) (hk259 : ∀ (a2 : Int64) (T : Mm), k259 a2 T = some q → Jr x ad false U T [(0, .ref (ad 133)), (2, .long a2)] 259 []) (a2 : Int64) (T : Mm) (h : f_X12_pictures_b259 k259 a2 T = some q) : Jr x ad false U T [(0, .ref (ad 133)), (2, .long a2)] 259 [] := by
  unfold f_X12_pictures_b259 at h
  refine r_lload_n C dX12_pictures_259 rfl 1 rfl ?_
  refine r_lconst (v := 0) C dX12_pictures_260 (by decide) ?_
  refine r_lcmp C dX12_pictures_261 ?_
  refine r_if_eq (tgt := 572) C dX12_pictures_262 (by decide) h (fun h => ?_) (fun h => ?_)
  · refine r_iconst (v := 1) C dX12_pictures_572 (by decide) ?_
    exact r_zret C M dX12_pictures_573 (by decide) h
  · refine r_lload_n C dX12_pictures_265 rfl 1 rfl ?_
    refine r_lstore (lv' := [(4, .long a2), (0, .ref (ad 133)), (2, .long a2)]) C dX12_pictures_266 (by rw [hn9]; decide) rfl ?_
    refine r_lload C dX12_pictures_268 0 rfl ?_
    refine r_aload_n C dX12_pictures_270 rfl 1 rfl ?_
    refine r_geti (f := 1268) C flX12_589 dX12_pictures_271 kq_133 (by decide) (by decide) rfl ?_
    show Jr _ _ _ _ _ _ 274 _
    refine r_i2l C dX12_pictures_274 rfl ?_
    refine r_lcmp C dX12_pictures_275 ?_
    refine r_if_le (tgt := 286) C dX12_pictures_276 (by decide) h (fun h => ?_) (fun h => ?_)
    · refine r_lload C dX12_pictures_286 0 rfl ?_
      refine r_l2i C dX12_pictures_288 rfl ?_
      refine Jr.sub [1, 0] (lv' := [(0, .ref (ad 133)), (4, .long a2)]) rfl ?_
      exact s_X12_pictures_289 hn9 C M hk259 a2 ((a2).toInt32) T h
    · refine r_aload_n C dX12_pictures_279 rfl 1 rfl ?_
      refine r_geti (f := 1268) C flX12_589 dX12_pictures_280 kq_133 (by decide) (by decide) rfl ?_
      refine r_goto (tgt := 289) C dX12_pictures_283 (by decide) ?_
      refine Jr.sub [1, 0] (lv' := [(0, .ref (ad 133)), (4, .long a2)]) rfl ?_
      exact s_X12_pictures_289 hn9 C M hk259 a2 (gI T 1268 133) T h
noncomputable def f_X12_pictures_l259 (n : Nat) : Int64 → Mm → Option (Int32 × Mm) := Nat.rec (fun _ _ => none) (fun _ ih => f_X12_pictures_b259 ih) n
theorem s_X12_pictures_l259 {x : JX} {ad : Nat → Nat} {U : Mm} {S0 : Hp} {q : Int32 × Mm}  (hn9 : x_n x = 14) (C : CB x RX12 cX12_pictures) (M : CMr x 8 (some .boolean) S0 ad false U eI q) : ∀ (n : Nat), ∀ (a2 : Int64) (T : Mm), f_X12_pictures_l259  n a2 T = some q → Jr x ad false U T [(0, .ref (ad 133)), (2, .long a2)] 259 [] := by
  intro n
  induction n with
  | zero => intro a2 T  h; exact absurd h (by intro h; cases h)
  | succ n ih => exact fun a2 T  h => s_X12_pictures_b259 hn9 C M (ih) a2 T  h
noncomputable def f_X12_pictures_200 (a2 : Int32) (T : Mm) : Option (Int32 × Mm) :=
  if (gI T 1268 133) ≤ a2 then (bd (f_X12_wrong 2 (gI T 1268 133) T) fun v1 T2 =>
  gd (v1 = 0 ∨ v1 = 1) <|
  some (v1, T2))
  else (bd (f_X12_wrong 2 a2 T) fun v4 T5 =>
  gd (v4 = 0 ∨ v4 = 1) <|
  some (v4, T5))
set_option maxRecDepth 100000 in
set_option maxHeartbeats 4000000 in
theorem s_X12_pictures_200 {x : JX} {ad : Nat → Nat} {U : Mm} {S0 : Hp} {q : Int32 × Mm}  (hn9 : x_n x = 14) (C : CB x RX12 cX12_pictures) (M : CMr x 8 (some .boolean) S0 ad false U eI q) (a2 : Int32) (T : Mm) (h : f_X12_pictures_200  a2 T = some q) : Jr x ad false U T [(0, .ref (ad 133)), (2, .int a2)] 200 [] := by
  unfold f_X12_pictures_200 at h
  refine r_aload_n C dX12_pictures_200 rfl 0 rfl ?_
  refine r_iconst (v := 2) C dX12_pictures_201 (by decide) ?_
  refine r_iload_n C dX12_pictures_202 rfl 1 rfl ?_
  refine r_aload_n C dX12_pictures_203 rfl 0 rfl ?_
  refine r_geti (f := 1268) C flX12_589 dX12_pictures_204 kq_133 (by decide) (by decide) rfl ?_
  show Jr _ _ _ _ _ _ 207 _
  refine r_ic_ge (tgt := 214) C dX12_pictures_207 (by decide) h (fun h => ?_) (fun h => ?_)
  · refine r_aload_n C dX12_pictures_214 rfl 0 rfl ?_
    refine r_geti (f := 1268) C flX12_589 dX12_pictures_215 kq_133 (by decide) (by decide) rfl ?_
    refine r_callVI C M h [.int 2, .int (gI T 1268 133)] [] mlX12_592 mcX12_wrong (fun q9 e9 => s_X12_wrong 2 (gI T 1268 133)  e9) kq_133 rfl (by decide) (by decide) rfl rfl (Nat.le_of_ble_eq_true rfl) dX12_pictures_218 (fun v1 T2 h => ?_)
    refine r_gd h (fun hz3 h => ?_)
    exact r_zret C M dX12_pictures_221 hz3 h
  · refine r_iload_n C dX12_pictures_210 rfl 1 rfl ?_
    refine r_goto (tgt := 218) C dX12_pictures_211 (by decide) ?_
    refine r_callVI C M h [.int 2, .int a2] [] mlX12_592 mcX12_wrong (fun q9 e9 => s_X12_wrong 2 a2  e9) kq_133 rfl (by decide) (by decide) rfl rfl (Nat.le_of_ble_eq_true rfl) dX12_pictures_218 (fun v4 T5 h => ?_)
    refine r_gd h (fun hz6 h => ?_)
    exact r_zret C M dX12_pictures_221 hz6 h
noncomputable def f_X12_pictures_176 (k148 : Int32 → Mm → Option (Int32 × Mm)) (a2 : Int32) (b0 : Int32) (T : Mm) : Option (Int32 × Mm) :=
  if (gI T 1268 133) ≤ a2 then (f_X12_pictures_200 a2 T)
  else (ix ((gI T 1267 133) + a2) 12000 fun j1 =>
  if (gA T 152 j1) = b0 then (k148 (a2 + 1) T)
  else (f_X12_pictures_200 a2 T))
set_option maxRecDepth 100000 in
set_option maxHeartbeats 4000000 in
theorem s_X12_pictures_176 {x : JX} {ad : Nat → Nat} {U : Mm} {S0 : Hp} {q : Int32 × Mm}  {k148 : Int32 → Mm → Option (Int32 × Mm)} (hn9 : x_n x = 14) (C : CB x RX12 cX12_pictures) (M : CMr x 8 (some .boolean) S0 ad false U eI q) (hk148 : ∀ (a2 : Int32) (T : Mm), k148 a2 T = some q → Jr x ad false U T [(0, .ref (ad 133)), (2, .int a2)] 148 []) (a2 : Int32) (b0 : Int32) (T : Mm) (h : f_X12_pictures_176 k148 a2 b0 T = some q) : Jr x ad false U T [(0, .ref (ad 133)), (2, .int a2)] 176 [.int b0] := by
  unfold f_X12_pictures_176 at h
  refine r_istore_n (lv' := [(3, .int b0), (0, .ref (ad 133)), (2, .int a2)]) C dX12_pictures_176 rfl (by rw [hn9]; decide) rfl ?_
  refine r_iload_n C dX12_pictures_177 rfl 2 rfl ?_
  refine r_aload_n C dX12_pictures_178 rfl 1 rfl ?_
  refine r_geti (f := 1268) C flX12_589 dX12_pictures_179 kq_133 (by decide) (by decide) rfl ?_
  refine r_ic_ge (tgt := 200) C dX12_pictures_182 (by decide) h (fun h => ?_) (fun h => ?_)
  · refine Jr.sub [1, 2] (lv' := [(0, .ref (ad 133)), (2, .int a2)]) rfl ?_
    exact s_X12_pictures_200 hn9 C M  a2 T h
  · refine r_aload_n C dX12_pictures_185 rfl 1 rfl ?_
    refine r_getp (f := 1219) (j := 152) C flX12_66 dX12_pictures_186 kq_133 (by decide) rfl (fun W => pt_1219 kq_133 W) ?_
    refine r_aload_n C dX12_pictures_189 rfl 1 rfl ?_
    refine r_geti (f := 1267) C flX12_580 dX12_pictures_190 kq_133 (by decide) (by decide) rfl ?_
    refine r_iload_n C dX12_pictures_193 rfl 2 rfl ?_
    show Jr _ _ _ _ _ _ 194 _
    refine r_iadd C dX12_pictures_194 rfl ?_
    refine r_bald (n := 12000) C dX12_pictures_195 kq_152 lq_152 h (fun j1 hj2 h => ?_)
    refine r_iload_n C dX12_pictures_196 rfl 0 rfl ?_
    refine r_ic_eq (tgt := 222) C dX12_pictures_197 (by decide) h (fun h => ?_) (fun h => ?_)
    · refine r_iinc (q := 2) (v := (a2 + 1)) (lv' := [(2, .int (a2 + 1)), (3, .int b0), (0, .ref (ad 133))]) C dX12_pictures_222 rfl (by rw [show Int32.ofInt (1) = 1 by decide]) (by rw [hn9]; decide) rfl ?_
      refine r_goto (tgt := 148) C dX12_pictures_225 (by decide) ?_
      refine Jr.sub [2, 0] (lv' := [(0, .ref (ad 133)), (2, .int (a2 + 1))]) rfl ?_
      exact hk148 (a2 + 1) T h
    · refine Jr.sub [1, 2] (lv' := [(0, .ref (ad 133)), (2, .int a2)]) rfl ?_
      exact s_X12_pictures_200 hn9 C M  a2 T h
noncomputable def f_X12_pictures_163 (k148 : Int32 → Mm → Option (Int32 × Mm)) (a2 : Int32) (b0 : Int32) (T : Mm) : Option (Int32 × Mm) :=
  if b0 = (gI T 1269 133) then (f_X12_pictures_176 k148 a2 0 T)
  else (f_X12_pictures_176 k148 a2 42 T)
set_option maxRecDepth 100000 in
set_option maxHeartbeats 4000000 in
theorem s_X12_pictures_163 {x : JX} {ad : Nat → Nat} {U : Mm} {S0 : Hp} {q : Int32 × Mm}  {k148 : Int32 → Mm → Option (Int32 × Mm)} (hn9 : x_n x = 14) (C : CB x RX12 cX12_pictures) (M : CMr x 8 (some .boolean) S0 ad false U eI q) (hk148 : ∀ (a2 : Int32) (T : Mm), k148 a2 T = some q → Jr x ad false U T [(0, .ref (ad 133)), (2, .int a2)] 148 []) (a2 : Int32) (b0 : Int32) (T : Mm) (h : f_X12_pictures_163 k148 a2 b0 T = some q) : Jr x ad false U T [(0, .ref (ad 133)), (2, .int a2)] 163 [.int b0] := by
  unfold f_X12_pictures_163 at h
  refine r_aload_n C dX12_pictures_163 rfl 0 rfl ?_
  refine r_geti (f := 1269) C flX12_583 dX12_pictures_164 kq_133 (by decide) (by decide) rfl ?_
  refine r_ic_ne (tgt := 174) C dX12_pictures_167 (by decide) h (fun h => ?_) (fun h => ?_)
  · refine r_bipush (v := 42) C dX12_pictures_174 (by decide) ?_
    exact s_X12_pictures_176 hn9 C M hk148 a2 42 T h
  · refine r_iconst (v := 0) C dX12_pictures_170 (by decide) ?_
    refine r_goto (tgt := 176) C dX12_pictures_171 (by decide) ?_
    exact s_X12_pictures_176 hn9 C M hk148 a2 0 T h
noncomputable def f_X12_pictures_b148 (k148 : Int32 → Mm → Option (Int32 × Mm)) (a2 : Int32) (T : Mm) : Option (Int32 × Mm) :=
  if 4 ≤ a2 then (if 8 ≤ (gI T 1268 133) then (bd (f_X12_picture 4 4 T) fun v1 T2 =>
  lb (uI T2 1271 133 0) fun T3 =>
  f_X12_pictures_l259 FU v1 T3)
  else (bd (f_X12_wrong 2 (gI T 1268 133) T) fun v4 T5 =>
  gd (v4 = 0 ∨ v4 = 1) <|
  some (v4, T5)))
  else (if a2 = 2 then (f_X12_pictures_163 k148 a2 1 T)
  else (f_X12_pictures_163 k148 a2 0 T))
set_option maxRecDepth 100000 in
set_option maxHeartbeats 4000000 in
theorem s_X12_pictures_b148 {x : JX} {ad : Nat → Nat} {U : Mm} {S0 : Hp} {q : Int32 × Mm}  {k148 : Int32 → Mm → Option (Int32 × Mm)} (hn9 : x_n x = 14) (C : CB x RX12 cX12_pictures) (M : CMr x 8 (some .boolean) S0 ad false U eI q) (hk148 : ∀ (a2 : Int32) (T : Mm), k148 a2 T = some q → Jr x ad false U T [(0, .ref (ad 133)), (2, .int a2)] 148 []) (a2 : Int32) (T : Mm) (h : f_X12_pictures_b148 k148 a2 T = some q) : Jr x ad false U T [(0, .ref (ad 133)), (2, .int a2)] 148 [] := by
  unfold f_X12_pictures_b148 at h
  refine r_iload_n C dX12_pictures_148 rfl 1 rfl ?_
  refine r_iconst (v := 4) C dX12_pictures_149 (by decide) ?_
  refine r_ic_ge (tgt := 228) C dX12_pictures_150 (by decide) h (fun h => ?_) (fun h => ?_)
  · refine r_aload_n C dX12_pictures_228 rfl 0 rfl ?_
    refine r_geti (f := 1268) C flX12_589 dX12_pictures_229 kq_133 (by decide) (by decide) rfl ?_
    refine r_bipush (v := 8) C dX12_pictures_232 (by decide) ?_
    refine r_ic_ge (tgt := 247) C dX12_pictures_234 (by decide) h (fun h => ?_) (fun h => ?_)
    · refine r_aload_n C dX12_pictures_247 rfl 0 rfl ?_
      refine r_iconst (v := 4) C dX12_pictures_248 (by decide) ?_
      refine r_iconst (v := 4) C dX12_pictures_249 (by decide) ?_
      refine r_callVJ C M h [.int 4, .int 4] [] mlX12_595 mcX12_picture (fun q9 e9 => s_X12_picture 4 4  e9) kq_133 rfl (by decide) (by decide) rfl rfl (Nat.le_of_ble_eq_true rfl) dX12_pictures_250 (fun v1 T2 h => ?_)
      refine r_lstore_n (lv' := [(2, .long v1), (0, .ref (ad 133))]) C dX12_pictures_253 rfl (by rw [hn9]; decide) rfl ?_
      show Jr _ _ _ _ _ _ 254 _
      refine r_aload_n C dX12_pictures_254 rfl 1 rfl ?_
      refine r_iconst (v := 0) C dX12_pictures_255 (by decide) ?_
      refine r_puti (f := 1271) C flX12_598 (by decide) rfl rfl dX12_pictures_256 kq_133 rfl h (fun T3 h => ?_)
      refine Jr.sub [1, 0] (lv' := [(0, .ref (ad 133)), (2, .long v1)]) rfl ?_
      exact s_X12_pictures_l259 hn9 C M  FU v1 T3 h
    · refine r_aload_n C dX12_pictures_237 rfl 0 rfl ?_
      refine r_iconst (v := 2) C dX12_pictures_238 (by decide) ?_
      refine r_aload_n C dX12_pictures_239 rfl 0 rfl ?_
      refine r_geti (f := 1268) C flX12_589 dX12_pictures_240 kq_133 (by decide) (by decide) rfl ?_
      refine r_callVI C M h [.int 2, .int (gI T 1268 133)] [] mlX12_592 mcX12_wrong (fun q9 e9 => s_X12_wrong 2 (gI T 1268 133)  e9) kq_133 rfl (by decide) (by decide) rfl rfl (Nat.le_of_ble_eq_true rfl) dX12_pictures_243 (fun v4 T5 h => ?_)
      show Jr _ _ _ _ _ _ 246 _
      refine r_gd h (fun hz6 h => ?_)
      exact r_zret C M dX12_pictures_246 hz6 h
  · refine r_iload_n C dX12_pictures_153 rfl 1 rfl ?_
    refine r_iconst (v := 2) C dX12_pictures_154 (by decide) ?_
    refine r_ic_ne (tgt := 162) C dX12_pictures_155 (by decide) h (fun h => ?_) (fun h => ?_)
    · refine r_iconst (v := 0) C dX12_pictures_162 (by decide) ?_
      exact s_X12_pictures_163 hn9 C M hk148 a2 0 T h
    · refine r_iconst (v := 1) C dX12_pictures_158 (by decide) ?_
      refine r_goto (tgt := 163) C dX12_pictures_159 (by decide) ?_
      exact s_X12_pictures_163 hn9 C M hk148 a2 1 T h
noncomputable def f_X12_pictures_l148 (n : Nat) : Int32 → Mm → Option (Int32 × Mm) := Nat.rec (fun _ _ => none) (fun _ ih => f_X12_pictures_b148 ih) n
theorem s_X12_pictures_l148 {x : JX} {ad : Nat → Nat} {U : Mm} {S0 : Hp} {q : Int32 × Mm}  (hn9 : x_n x = 14) (C : CB x RX12 cX12_pictures) (M : CMr x 8 (some .boolean) S0 ad false U eI q) : ∀ (n : Nat), ∀ (a2 : Int32) (T : Mm), f_X12_pictures_l148  n a2 T = some q → Jr x ad false U T [(0, .ref (ad 133)), (2, .int a2)] 148 [] := by
  intro n
  induction n with
  | zero => intro a2 T  h; exact absurd h (by intro h; cases h)
  | succ n ih => exact fun a2 T  h => s_X12_pictures_b148 hn9 C M (ih) a2 T  h
noncomputable def f_X12_pictures_95 (a2 : Int32) (T : Mm) : Option (Int32 × Mm) :=
  if (gI T 1268 133) ≤ a2 then (bd (f_X12_wrong 2 (gI T 1268 133) T) fun v1 T2 =>
  gd (v1 = 0 ∨ v1 = 1) <|
  some (v1, T2))
  else (bd (f_X12_wrong 2 a2 T) fun v4 T5 =>
  gd (v4 = 0 ∨ v4 = 1) <|
  some (v4, T5))
set_option maxRecDepth 100000 in
set_option maxHeartbeats 4000000 in
theorem s_X12_pictures_95 {x : JX} {ad : Nat → Nat} {U : Mm} {S0 : Hp} {q : Int32 × Mm}  (hn9 : x_n x = 14) (C : CB x RX12 cX12_pictures) (M : CMr x 8 (some .boolean) S0 ad false U eI q) (a2 : Int32) (T : Mm) (h : f_X12_pictures_95  a2 T = some q) : Jr x ad false U T [(0, .ref (ad 133)), (2, .int a2)] 95 [] := by
  unfold f_X12_pictures_95 at h
  refine r_aload_n C dX12_pictures_95 rfl 0 rfl ?_
  refine r_iconst (v := 2) C dX12_pictures_96 (by decide) ?_
  refine r_iload_n C dX12_pictures_97 rfl 1 rfl ?_
  refine r_aload_n C dX12_pictures_98 rfl 0 rfl ?_
  refine r_geti (f := 1268) C flX12_589 dX12_pictures_99 kq_133 (by decide) (by decide) rfl ?_
  show Jr _ _ _ _ _ _ 102 _
  refine r_ic_ge (tgt := 109) C dX12_pictures_102 (by decide) h (fun h => ?_) (fun h => ?_)
  · refine r_aload_n C dX12_pictures_109 rfl 0 rfl ?_
    refine r_geti (f := 1268) C flX12_589 dX12_pictures_110 kq_133 (by decide) (by decide) rfl ?_
    refine r_callVI C M h [.int 2, .int (gI T 1268 133)] [] mlX12_592 mcX12_wrong (fun q9 e9 => s_X12_wrong 2 (gI T 1268 133)  e9) kq_133 rfl (by decide) (by decide) rfl rfl (Nat.le_of_ble_eq_true rfl) dX12_pictures_113 (fun v1 T2 h => ?_)
    refine r_gd h (fun hz3 h => ?_)
    exact r_zret C M dX12_pictures_116 hz3 h
  · refine r_iload_n C dX12_pictures_105 rfl 1 rfl ?_
    refine r_goto (tgt := 113) C dX12_pictures_106 (by decide) ?_
    refine r_callVI C M h [.int 2, .int a2] [] mlX12_592 mcX12_wrong (fun q9 e9 => s_X12_wrong 2 a2  e9) kq_133 rfl (by decide) (by decide) rfl rfl (Nat.le_of_ble_eq_true rfl) dX12_pictures_113 (fun v4 T5 h => ?_)
    refine r_gd h (fun hz6 h => ?_)
    exact r_zret C M dX12_pictures_116 hz6 h
noncomputable def f_X12_pictures_89 (k29 : Int32 → Mm → Option (Int32 × Mm)) (a2 : Int32) (a3 : Int32) (a4 : Int32) (T : Mm) : Option (Int32 × Mm) :=
  if a3 = a4 then (k29 (a2 + 1) T)
  else (f_X12_pictures_95 a2 T)
set_option maxRecDepth 100000 in
set_option maxHeartbeats 4000000 in
theorem s_X12_pictures_89 {x : JX} {ad : Nat → Nat} {U : Mm} {S0 : Hp} {q : Int32 × Mm}  {k29 : Int32 → Mm → Option (Int32 × Mm)} (hn9 : x_n x = 14) (C : CB x RX12 cX12_pictures) (M : CMr x 8 (some .boolean) S0 ad false U eI q) (hk29 : ∀ (a2 : Int32) (T : Mm), k29 a2 T = some q → Jr x ad false U T [(0, .ref (ad 133)), (2, .int a2)] 29 []) (a2 : Int32) (a3 : Int32) (a4 : Int32) (T : Mm) (h : f_X12_pictures_89 k29 a2 a3 a4 T = some q) : Jr x ad false U T [(0, .ref (ad 133)), (2, .int a2), (3, .int a3), (4, .int a4)] 89 [] := by
  unfold f_X12_pictures_89 at h
  refine r_iload_n C dX12_pictures_89 rfl 2 rfl ?_
  refine r_iload C dX12_pictures_90 3 rfl ?_
  refine r_ic_eq (tgt := 117) C dX12_pictures_92 (by decide) h (fun h => ?_) (fun h => ?_)
  · refine r_iinc (q := 1) (v := (a2 + 1)) (lv' := [(2, .int (a2 + 1)), (0, .ref (ad 133)), (3, .int a3), (4, .int a4)]) C dX12_pictures_117 rfl (by rw [show Int32.ofInt (1) = 1 by decide]) (by rw [hn9]; decide) rfl ?_
    refine r_goto (tgt := 29) C dX12_pictures_120 (by decide) ?_
    refine Jr.sub [1, 0] (lv' := [(0, .ref (ad 133)), (2, .int (a2 + 1))]) rfl ?_
    exact hk29 (a2 + 1) T h
  · refine Jr.sub [0, 1] (lv' := [(0, .ref (ad 133)), (2, .int a2)]) rfl ?_
    exact s_X12_pictures_95 hn9 C M  a2 T h
noncomputable def f_X12_pictures_75 (k29 : Int32 → Mm → Option (Int32 × Mm)) (a2 : Int32) (a3 : Int32) (b0 : Int32) (T : Mm) : Option (Int32 × Mm) :=
  if a3 = 73 then (f_X12_pictures_89 k29 a2 a3 b0 T)
  else (if a3 = 77 then (f_X12_pictures_89 k29 a2 a3 b0 T)
  else (f_X12_pictures_95 a2 T))
set_option maxRecDepth 100000 in
set_option maxHeartbeats 4000000 in
theorem s_X12_pictures_75 {x : JX} {ad : Nat → Nat} {U : Mm} {S0 : Hp} {q : Int32 × Mm}  {k29 : Int32 → Mm → Option (Int32 × Mm)} (hn9 : x_n x = 14) (C : CB x RX12 cX12_pictures) (M : CMr x 8 (some .boolean) S0 ad false U eI q) (hk29 : ∀ (a2 : Int32) (T : Mm), k29 a2 T = some q → Jr x ad false U T [(0, .ref (ad 133)), (2, .int a2)] 29 []) (a2 : Int32) (a3 : Int32) (b0 : Int32) (T : Mm) (h : f_X12_pictures_75 k29 a2 a3 b0 T = some q) : Jr x ad false U T [(0, .ref (ad 133)), (2, .int a2), (3, .int a3)] 75 [.int b0] := by
  unfold f_X12_pictures_75 at h
  refine r_istore (lv' := [(4, .int b0), (0, .ref (ad 133)), (2, .int a2), (3, .int a3)]) C dX12_pictures_75 (by rw [hn9]; decide) rfl ?_
  refine r_iload_n C dX12_pictures_77 rfl 3 rfl ?_
  refine r_bipush (v := 73) C dX12_pictures_78 (by decide) ?_
  refine r_ic_eq (tgt := 89) C dX12_pictures_80 (by decide) h (fun h => ?_) (fun h => ?_)
  · refine Jr.sub [1, 2, 3, 0] (lv' := [(0, .ref (ad 133)), (2, .int a2), (3, .int a3), (4, .int b0)]) rfl ?_
    exact s_X12_pictures_89 hn9 C M hk29 a2 a3 b0 T h
  · refine r_iload_n C dX12_pictures_83 rfl 3 rfl ?_
    refine r_bipush (v := 77) C dX12_pictures_84 (by decide) ?_
    refine r_ic_ne (tgt := 95) C dX12_pictures_86 (by decide) h (fun h => ?_) (fun h => ?_)
    · refine Jr.sub [1, 2] (lv' := [(0, .ref (ad 133)), (2, .int a2)]) rfl ?_
      exact s_X12_pictures_95 hn9 C M  a2 T h
    · refine Jr.sub [1, 2, 3, 0] (lv' := [(0, .ref (ad 133)), (2, .int a2), (3, .int a3), (4, .int b0)]) rfl ?_
      exact s_X12_pictures_89 hn9 C M hk29 a2 a3 b0 T h
noncomputable def f_X12_pictures_57 (k29 : Int32 → Mm → Option (Int32 × Mm)) (a2 : Int32) (b0 : Int32) (T : Mm) : Option (Int32 × Mm) :=
  if a2 = 0 then (f_X12_pictures_75 k29 a2 b0 b0 T)
  else (ix (gI T 1267 133) 12000 fun j1 =>
  f_X12_pictures_75 k29 a2 b0 (gA T 152 j1) T)
set_option maxRecDepth 100000 in
set_option maxHeartbeats 4000000 in
theorem s_X12_pictures_57 {x : JX} {ad : Nat → Nat} {U : Mm} {S0 : Hp} {q : Int32 × Mm}  {k29 : Int32 → Mm → Option (Int32 × Mm)} (hn9 : x_n x = 14) (C : CB x RX12 cX12_pictures) (M : CMr x 8 (some .boolean) S0 ad false U eI q) (hk29 : ∀ (a2 : Int32) (T : Mm), k29 a2 T = some q → Jr x ad false U T [(0, .ref (ad 133)), (2, .int a2)] 29 []) (a2 : Int32) (b0 : Int32) (T : Mm) (h : f_X12_pictures_57 k29 a2 b0 T = some q) : Jr x ad false U T [(0, .ref (ad 133)), (2, .int a2)] 57 [.int b0] := by
  unfold f_X12_pictures_57 at h
  refine r_istore_n (lv' := [(3, .int b0), (0, .ref (ad 133)), (2, .int a2)]) C dX12_pictures_57 rfl (by rw [hn9]; decide) rfl ?_
  refine r_iload_n C dX12_pictures_58 rfl 2 rfl ?_
  refine r_if_ne (tgt := 66) C dX12_pictures_59 (by decide) h (fun h => ?_) (fun h => ?_)
  · refine r_aload_n C dX12_pictures_66 rfl 1 rfl ?_
    refine r_getp (f := 1219) (j := 152) C flX12_66 dX12_pictures_67 kq_133 (by decide) rfl (fun W => pt_1219 kq_133 W) ?_
    refine r_aload_n C dX12_pictures_70 rfl 1 rfl ?_
    refine r_geti (f := 1267) C flX12_580 dX12_pictures_71 kq_133 (by decide) (by decide) rfl ?_
    refine r_bald (n := 12000) C dX12_pictures_74 kq_152 lq_152 h (fun j1 hj2 h => ?_)
    refine Jr.sub [1, 2, 0] (lv' := [(0, .ref (ad 133)), (2, .int a2), (3, .int b0)]) rfl ?_
    exact s_X12_pictures_75 hn9 C M hk29 a2 b0 (gA T 152 j1) T h
  · refine r_iload_n C dX12_pictures_62 rfl 0 rfl ?_
    refine r_goto (tgt := 75) C dX12_pictures_63 (by decide) ?_
    refine Jr.sub [1, 2, 0] (lv' := [(0, .ref (ad 133)), (2, .int a2), (3, .int b0)]) rfl ?_
    exact s_X12_pictures_75 hn9 C M hk29 a2 b0 b0 T h
noncomputable def f_X12_pictures_b29 (k29 : Int32 → Mm → Option (Int32 × Mm)) (a2 : Int32) (T : Mm) : Option (Int32 × Mm) :=
  if 2 ≤ a2 then (ix (gI T 1267 133) 12000 fun j1 =>
  if (gA T 152 j1) = 77 then (lb (uI T 1269 133 1) fun T4 =>
  f_X12_pictures_l148 FU 2 T4)
  else (lb (uI T 1269 133 0) fun T3 =>
  f_X12_pictures_l148 FU 2 T3))
  else (if (gI T 1268 133) ≤ a2 then (f_X12_pictures_57 k29 a2 (-1) T)
  else (ix ((gI T 1267 133) + a2) 12000 fun j5 =>
  f_X12_pictures_57 k29 a2 (gA T 152 j5) T))
set_option maxRecDepth 100000 in
set_option maxHeartbeats 4000000 in
theorem s_X12_pictures_b29 {x : JX} {ad : Nat → Nat} {U : Mm} {S0 : Hp} {q : Int32 × Mm}  {k29 : Int32 → Mm → Option (Int32 × Mm)} (hn9 : x_n x = 14) (C : CB x RX12 cX12_pictures) (M : CMr x 8 (some .boolean) S0 ad false U eI q) (hk29 : ∀ (a2 : Int32) (T : Mm), k29 a2 T = some q → Jr x ad false U T [(0, .ref (ad 133)), (2, .int a2)] 29 []) (a2 : Int32) (T : Mm) (h : f_X12_pictures_b29 k29 a2 T = some q) : Jr x ad false U T [(0, .ref (ad 133)), (2, .int a2)] 29 [] := by
  unfold f_X12_pictures_b29 at h
  refine r_iload_n C dX12_pictures_29 rfl 1 rfl ?_
  refine r_iconst (v := 2) C dX12_pictures_30 (by decide) ?_
  refine r_ic_ge (tgt := 123) C dX12_pictures_31 (by decide) h (fun h => ?_) (fun h => ?_)
  · refine r_aload_n C dX12_pictures_123 rfl 0 rfl ?_
    refine r_aload_n C dX12_pictures_124 rfl 0 rfl ?_
    refine r_getp (f := 1219) (j := 152) C flX12_66 dX12_pictures_125 kq_133 (by decide) rfl (fun W => pt_1219 kq_133 W) ?_
    refine r_aload_n C dX12_pictures_128 rfl 0 rfl ?_
    refine r_geti (f := 1267) C flX12_580 dX12_pictures_129 kq_133 (by decide) (by decide) rfl ?_
    show Jr _ _ _ _ _ _ 132 _
    refine r_bald (n := 12000) C dX12_pictures_132 kq_152 lq_152 h (fun j1 hj2 h => ?_)
    refine r_bipush (v := 77) C dX12_pictures_133 (by decide) ?_
    refine r_ic_ne (tgt := 142) C dX12_pictures_135 (by decide) h (fun h => ?_) (fun h => ?_)
    · refine r_iconst (v := 0) C dX12_pictures_142 (by decide) ?_
      refine r_putz (f := 1269) C flX12_583 (by decide) rfl rfl (by decide) dX12_pictures_143 kq_133 rfl h (fun T3 h => ?_)
      refine r_iconst (v := 2) C dX12_pictures_146 (by decide) ?_
      refine r_istore_n (lv' := [(2, .int 2), (0, .ref (ad 133))]) C dX12_pictures_147 rfl (by rw [hn9]; decide) rfl ?_
      refine Jr.sub [1, 0] (lv' := [(0, .ref (ad 133)), (2, .int 2)]) rfl ?_
      exact s_X12_pictures_l148 hn9 C M  FU 2 T3 h
    · refine r_iconst (v := 1) C dX12_pictures_138 (by decide) ?_
      refine r_goto (tgt := 143) C dX12_pictures_139 (by decide) ?_
      refine r_putz (f := 1269) C flX12_583 (by decide) rfl rfl (by decide) dX12_pictures_143 kq_133 rfl h (fun T4 h => ?_)
      refine r_iconst (v := 2) C dX12_pictures_146 (by decide) ?_
      refine r_istore_n (lv' := [(2, .int 2), (0, .ref (ad 133))]) C dX12_pictures_147 rfl (by rw [hn9]; decide) rfl ?_
      refine Jr.sub [1, 0] (lv' := [(0, .ref (ad 133)), (2, .int 2)]) rfl ?_
      exact s_X12_pictures_l148 hn9 C M  FU 2 T4 h
  · refine r_iload_n C dX12_pictures_34 rfl 1 rfl ?_
    refine r_aload_n C dX12_pictures_35 rfl 0 rfl ?_
    refine r_geti (f := 1268) C flX12_589 dX12_pictures_36 kq_133 (by decide) (by decide) rfl ?_
    refine r_ic_ge (tgt := 56) C dX12_pictures_39 (by decide) h (fun h => ?_) (fun h => ?_)
    · refine r_iconst (v := (-1)) C dX12_pictures_56 (by decide) ?_
      exact s_X12_pictures_57 hn9 C M hk29 a2 (-1) T h
    · refine r_aload_n C dX12_pictures_42 rfl 0 rfl ?_
      refine r_getp (f := 1219) (j := 152) C flX12_66 dX12_pictures_43 kq_133 (by decide) rfl (fun W => pt_1219 kq_133 W) ?_
      refine r_aload_n C dX12_pictures_46 rfl 0 rfl ?_
      refine r_geti (f := 1267) C flX12_580 dX12_pictures_47 kq_133 (by decide) (by decide) rfl ?_
      refine r_iload_n C dX12_pictures_50 rfl 1 rfl ?_
      show Jr _ _ _ _ _ _ 51 _
      refine r_iadd C dX12_pictures_51 rfl ?_
      refine r_bald (n := 12000) C dX12_pictures_52 kq_152 lq_152 h (fun j5 hj6 h => ?_)
      refine r_goto (tgt := 57) C dX12_pictures_53 (by decide) ?_
      exact s_X12_pictures_57 hn9 C M hk29 a2 (gA T 152 j5) T h
noncomputable def f_X12_pictures_l29 (n : Nat) : Int32 → Mm → Option (Int32 × Mm) := Nat.rec (fun _ _ => none) (fun _ ih => f_X12_pictures_b29 ih) n
theorem s_X12_pictures_l29 {x : JX} {ad : Nat → Nat} {U : Mm} {S0 : Hp} {q : Int32 × Mm}  (hn9 : x_n x = 14) (C : CB x RX12 cX12_pictures) (M : CMr x 8 (some .boolean) S0 ad false U eI q) : ∀ (n : Nat), ∀ (a2 : Int32) (T : Mm), f_X12_pictures_l29  n a2 T = some q → Jr x ad false U T [(0, .ref (ad 133)), (2, .int a2)] 29 [] := by
  intro n
  induction n with
  | zero => intro a2 T  h; exact absurd h (by intro h; cases h)
  | succ n ih => exact fun a2 T  h => s_X12_pictures_b29 hn9 C M (ih) a2 T  h
noncomputable def f_X12_pictures (p1 : Int32) (T : Mm) : Option (Int32 × Mm) :=
  ix p1 7 fun j1 =>
  lb (uI T 1267 133 (gA T 153 j1)) fun T3 =>
  ix (p1 + 1) 7 fun j4 =>
  lb (uI T3 1268 133 ((gA T3 153 j4) - (gI T3 1267 133))) fun T6 =>
  f_X12_pictures_l29 FU 0 T6
set_option maxRecDepth 100000 in
set_option maxHeartbeats 4000000 in
theorem s_X12_pictures {ad : Nat → Nat} {U T : Mm} {q : Int32 × Mm}  (p1 : Int32) (h : f_X12_pictures p1 T = some q) : Cr 8 yX12_pictures cX12_pictures 14 (some .boolean) [.ref (ad 133), .int p1] ad false U T eI q := by
  refine cr_of (by decide) (Nat.le_of_ble_eq_true rfl) fun x S0 hn9 C M => ?_
  have C : CB x RX12 cX12_pictures := C
  refine Jr.eq (lv' := [(0, .ref (ad 133)), (1, .int p1)]) (st' := []) rfl rfl ?_
  unfold f_X12_pictures at h
  refine r_aload_n C dX12_pictures_0 rfl 0 rfl ?_
  refine r_aload_n C dX12_pictures_1 rfl 0 rfl ?_
  refine r_getp (f := 1220) (j := 153) C flX12_69 dX12_pictures_2 kq_133 (by decide) rfl (fun W => pt_1220 kq_133 W) ?_
  refine r_iload_n C dX12_pictures_5 rfl 1 rfl ?_
  refine r_iald (n := 7) C dX12_pictures_6 kq_153 lq_153 h (fun j1 hj2 h => ?_)
  show Jr _ _ _ _ _ _ 7 _
  refine r_puti (f := 1267) C flX12_580 (by decide) rfl rfl dX12_pictures_7 kq_133 rfl h (fun T3 h => ?_)
  refine r_aload_n C dX12_pictures_10 rfl 0 rfl ?_
  refine r_aload_n C dX12_pictures_11 rfl 0 rfl ?_
  refine r_getp (f := 1220) (j := 153) C flX12_69 dX12_pictures_12 kq_133 (by decide) rfl (fun W => pt_1220 kq_133 W) ?_
  refine r_iload_n C dX12_pictures_15 rfl 1 rfl ?_
  refine r_iconst (v := 1) C dX12_pictures_16 (by decide) ?_
  show Jr _ _ _ _ _ _ 17 _
  refine r_iadd C dX12_pictures_17 rfl ?_
  refine r_iald (n := 7) C dX12_pictures_18 kq_153 lq_153 h (fun j4 hj5 h => ?_)
  refine r_aload_n C dX12_pictures_19 rfl 0 rfl ?_
  refine r_geti (f := 1267) C flX12_580 dX12_pictures_20 kq_133 (by decide) (by decide) rfl ?_
  refine r_isub C dX12_pictures_23 rfl ?_
  refine r_puti (f := 1268) C flX12_589 (by decide) rfl rfl dX12_pictures_24 kq_133 rfl h (fun T6 h => ?_)
  show Jr _ _ _ _ _ _ 27 _
  refine r_iconst (v := 0) C dX12_pictures_27 (by decide) ?_
  refine r_istore_n (lv' := [(2, .int 0), (0, .ref (ad 133)), (1, .int p1)]) C dX12_pictures_28 rfl (by rw [hn9]; decide) rfl ?_
  refine Jr.sub [1, 0] (lv' := [(0, .ref (ad 133)), (2, .int 0)]) rfl ?_
  exact s_X12_pictures_l29 hn9 C M  FU 0 T6 h
