/-- a world by its tables -/
def Wt (kL : List Nat) (nL : List (Nat × Nat)) (pL qL : List (Nat × Nat × Nat)) (ad : Nat → Nat) (S : Hp) : Prop := (∀ i k, kL[i]? = some k → ad i ∈ hL S ∧ Kd S (ad i) k) ∧ (∀ p ∈ nL, Ln S (ad p.1) p.2) ∧ (∀ p ∈ pL, hR S p.1 (ad p.2.1) = some (ad p.2.2)) ∧ ∀ p ∈ qL, aR S (ad p.1) p.2.1 = some (ad p.2.2)
def s9K : List Nat := [9, 0, 14, 14, 2, 8, 14, 14, 14, 17, 14, 14, 14, 8, 14, 20, 10, 15, 8, 14, 13, 14, 1, 7, 14, 4, 14, 10, 15, 14, 14, 1, 7, 14, 4, 14, 10, 15, 14, 14, 18, 19, 14, 10, 15, 10, 15, 10, 15, 10, 15, 10, 15, 10, 15, 10, 15, 10, 15, 10, 15, 10, 15, 10, 15, 10, 15, 10, 15, 10, 15, 10, 15, 10, 15, 1, 7, 14, 4, 14, 10, 15, 14, 14, 1, 7, 14, 4, 14, 10, 15, 14, 14, 1, 7, 14, 4, 14, 10, 15, 14, 14, 5, 5, 5, 5]
def s9N : List (Nat × Nat) := [(2, 20000), (3, 25), (6, 16), (7, 119), (8, 4352), (9, 400), (10, 2470), (11, 15808), (12, 8), (14, 16), (15, 16), (17, 16), (19, 16), (20, 24000), (21, 16), (24, 40), (26, 20), (28, 16), (29, 8), (30, 8), (33, 40), (35, 20), (37, 16), (38, 8), (39, 8), (40, 3), (41, 4), (42, 12), (44, 16), (46, 16), (48, 16), (50, 16), (52, 16), (54, 16), (56, 16), (58, 16), (60, 16), (62, 16), (64, 16), (66, 16), (68, 16), (70, 16), (72, 16), (74, 16), (77, 40), (79, 20), (81, 16), (82, 8), (83, 8), (86, 40), (88, 20), (90, 16), (91, 8), (92, 8), (95, 40), (97, 20), (99, 16), (100, 8), (101, 8)]
def s9P : List (Nat × Nat × Nat) := [(901, 0, 1), (0, 1, 2), (1, 1, 3), (902, 0, 4), (200, 4, 5), (800, 5, 6), (201, 4, 7), (202, 4, 8), (203, 4, 9), (204, 4, 10), (205, 4, 11), (207, 4, 12), (903, 0, 13), (800, 13, 14), (904, 0, 15), (905, 0, 16), (1003, 16, 17), (906, 0, 18), (800, 18, 19), (907, 0, 20), (908, 0, 21), (909, 0, 22), (100, 22, 23), (712, 23, 24), (101, 22, 25), (407, 25, 26), (102, 22, 27), (1003, 27, 28), (103, 22, 29), (104, 22, 30), (910, 0, 31), (100, 31, 32), (712, 32, 33), (101, 31, 34), (407, 34, 35), (102, 31, 36), (1003, 36, 37), (103, 31, 38), (104, 31, 39), (911, 0, 40), (912, 0, 41), (917, 0, 42), (1003, 43, 44), (1003, 45, 46), (1003, 47, 48), (1003, 49, 50), (1003, 51, 52), (1003, 53, 54), (1003, 55, 56), (1003, 57, 58), (1003, 59, 60), (1003, 61, 62), (1003, 63, 64), (1003, 65, 66), (1003, 67, 68), (1003, 69, 70), (1003, 71, 72), (1003, 73, 74), (100, 75, 76), (712, 76, 77), (101, 75, 78), (407, 78, 79), (102, 75, 80), (1003, 80, 81), (103, 75, 82), (104, 75, 83), (100, 84, 85), (712, 85, 86), (101, 84, 87), (407, 87, 88), (102, 84, 89), (1003, 89, 90), (103, 84, 91), (104, 84, 92), (100, 93, 94), (712, 94, 95), (101, 93, 96), (407, 96, 97), (102, 93, 98), (1003, 98, 99), (103, 93, 100), (104, 93, 101)]
def s9Q : List (Nat × Nat × Nat) := [(15, 0, 43), (15, 1, 45), (15, 2, 47), (15, 3, 49), (15, 4, 51), (15, 5, 53), (15, 6, 55), (15, 7, 57), (15, 8, 59), (15, 9, 61), (15, 10, 63), (15, 11, 65), (15, 12, 67), (15, 13, 69), (15, 14, 71), (15, 15, 73), (40, 0, 75), (40, 1, 84), (40, 2, 93), (41, 0, 102), (41, 1, 103), (41, 2, 104), (41, 3, 105)]

theorem dX9_init_0 : decode cX9_init 0 = .ok (.aload_n 0, 1) := by decide +kernel
theorem dX9_init_1 : decode cX9_init 1 = .ok (.invokespecial 3, 3) := by decide +kernel
theorem dX9_init_4 : decode cX9_init 4 = .ok (.aload_n 0, 1) := by decide +kernel
theorem dX9_init_5 : decode cX9_init 5 = .ok (.new 9, 3) := by decide +kernel
theorem dX9_init_8 : decode cX9_init 8 = .ok (.dup, 1) := by decide +kernel
theorem dX9_init_9 : decode cX9_init 9 = .ok (.invokespecial 11, 3) := by decide +kernel
theorem dX9_init_12 : decode cX9_init 12 = .ok (.putfield 12, 3) := by decide +kernel
theorem dX9_init_15 : decode cX9_init 15 = .ok (.aload_n 0, 1) := by decide +kernel
theorem dX9_init_16 : decode cX9_init 16 = .ok (.new 18, 3) := by decide +kernel
theorem dX9_init_19 : decode cX9_init 19 = .ok (.dup, 1) := by decide +kernel
theorem dX9_init_20 : decode cX9_init 20 = .ok (.invokespecial 20, 3) := by decide +kernel
theorem dX9_init_23 : decode cX9_init 23 = .ok (.putfield 21, 3) := by decide +kernel
theorem dX9_init_26 : decode cX9_init 26 = .ok (.aload_n 0, 1) := by decide +kernel
theorem dX9_init_27 : decode cX9_init 27 = .ok (.new 25, 3) := by decide +kernel
theorem dX9_init_30 : decode cX9_init 30 = .ok (.dup, 1) := by decide +kernel
theorem dX9_init_31 : decode cX9_init 31 = .ok (.invokespecial 27, 3) := by decide +kernel
theorem dX9_init_34 : decode cX9_init 34 = .ok (.putfield 28, 3) := by decide +kernel
theorem dX9_init_37 : decode cX9_init 37 = .ok (.aload_n 0, 1) := by decide +kernel
theorem dX9_init_38 : decode cX9_init 38 = .ok (.bipush 16, 2) := by decide +kernel
theorem dX9_init_40 : decode cX9_init 40 = .ok (.anewarray 32, 3) := by decide +kernel
theorem dX9_init_43 : decode cX9_init 43 = .ok (.putfield 34, 3) := by decide +kernel
theorem dX9_init_46 : decode cX9_init 46 = .ok (.aload_n 0, 1) := by decide +kernel
theorem dX9_init_47 : decode cX9_init 47 = .ok (.new 32, 3) := by decide +kernel
theorem dX9_init_50 : decode cX9_init 50 = .ok (.dup, 1) := by decide +kernel
theorem dX9_init_51 : decode cX9_init 51 = .ok (.invokespecial 38, 3) := by decide +kernel
theorem dX9_init_54 : decode cX9_init 54 = .ok (.putfield 39, 3) := by decide +kernel
theorem dX9_init_57 : decode cX9_init 57 = .ok (.aload_n 0, 1) := by decide +kernel
theorem dX9_init_58 : decode cX9_init 58 = .ok (.new 25, 3) := by decide +kernel
theorem dX9_init_61 : decode cX9_init 61 = .ok (.dup, 1) := by decide +kernel
theorem dX9_init_62 : decode cX9_init 62 = .ok (.invokespecial 27, 3) := by decide +kernel
theorem dX9_init_65 : decode cX9_init 65 = .ok (.putfield 43, 3) := by decide +kernel
theorem dX9_init_68 : decode cX9_init 68 = .ok (.aload_n 0, 1) := by decide +kernel
theorem dX9_init_69 : decode cX9_init 69 = .ok (.sipush 24000, 3) := by decide +kernel
theorem dX9_init_72 : decode cX9_init 72 = .ok (.newarray .byte, 2) := by decide +kernel
theorem dX9_init_74 : decode cX9_init 74 = .ok (.putfield 46, 3) := by decide +kernel
theorem dX9_init_77 : decode cX9_init 77 = .ok (.aload_n 0, 1) := by decide +kernel
theorem dX9_init_78 : decode cX9_init 78 = .ok (.bipush 16, 2) := by decide +kernel
theorem dX9_init_80 : decode cX9_init 80 = .ok (.newarray .int, 2) := by decide +kernel
theorem dX9_init_82 : decode cX9_init 82 = .ok (.putfield 50, 3) := by decide +kernel
theorem dX9_init_85 : decode cX9_init 85 = .ok (.aload_n 0, 1) := by decide +kernel
theorem dX9_init_86 : decode cX9_init 86 = .ok (.new 54, 3) := by decide +kernel
theorem dX9_init_89 : decode cX9_init 89 = .ok (.dup, 1) := by decide +kernel
theorem dX9_init_90 : decode cX9_init 90 = .ok (.invokespecial 56, 3) := by decide +kernel
theorem dX9_init_93 : decode cX9_init 93 = .ok (.putfield 57, 3) := by decide +kernel
theorem dX9_init_96 : decode cX9_init 96 = .ok (.aload_n 0, 1) := by decide +kernel
theorem dX9_init_97 : decode cX9_init 97 = .ok (.new 54, 3) := by decide +kernel
theorem dX9_init_100 : decode cX9_init 100 = .ok (.dup, 1) := by decide +kernel
theorem dX9_init_101 : decode cX9_init 101 = .ok (.invokespecial 56, 3) := by decide +kernel
theorem dX9_init_104 : decode cX9_init 104 = .ok (.putfield 61, 3) := by decide +kernel
theorem dX9_init_107 : decode cX9_init 107 = .ok (.aload_n 0, 1) := by decide +kernel
theorem dX9_init_108 : decode cX9_init 108 = .ok (.iconst 3, 1) := by decide +kernel
theorem dX9_init_109 : decode cX9_init 109 = .ok (.anewarray 54, 3) := by decide +kernel
theorem dX9_init_112 : decode cX9_init 112 = .ok (.putfield 64, 3) := by decide +kernel
theorem dX9_init_115 : decode cX9_init 115 = .ok (.aload_n 0, 1) := by decide +kernel
theorem dX9_init_116 : decode cX9_init 116 = .ok (.iconst 4, 1) := by decide +kernel
theorem dX9_init_117 : decode cX9_init 117 = .ok (.anewarray 68, 3) := by decide +kernel
theorem dX9_init_120 : decode cX9_init 120 = .ok (.putfield 70, 3) := by decide +kernel
theorem dX9_init_123 : decode cX9_init 123 = .ok (.aload_n 0, 1) := by decide +kernel
theorem dX9_init_124 : decode cX9_init 124 = .ok (.bipush 12, 2) := by decide +kernel
theorem dX9_init_126 : decode cX9_init 126 = .ok (.newarray .int, 2) := by decide +kernel
theorem dX9_init_128 : decode cX9_init 128 = .ok (.putfield 74, 3) := by decide +kernel
theorem dX9_init_131 : decode cX9_init 131 = .ok (.aload_n 0, 1) := by decide +kernel
theorem dX9_init_132 : decode cX9_init 132 = .ok (.aload_n 1, 1) := by decide +kernel
theorem dX9_init_133 : decode cX9_init 133 = .ok (.putfield 77, 3) := by decide +kernel
theorem dX9_init_136 : decode cX9_init 136 = .ok (.iconst 0, 1) := by decide +kernel
theorem dX9_init_137 : decode cX9_init 137 = .ok (.istore_n 2, 1) := by decide +kernel
theorem dX9_init_138 : decode cX9_init 138 = .ok (.iload_n 2, 1) := by decide +kernel
theorem dX9_init_139 : decode cX9_init 139 = .ok (.aload_n 0, 1) := by decide +kernel
theorem dX9_init_140 : decode cX9_init 140 = .ok (.getfield 34, 3) := by decide +kernel
theorem dX9_init_143 : decode cX9_init 143 = .ok (.arraylength, 1) := by decide +kernel
theorem dX9_init_144 : decode cX9_init 144 = .ok (.if_icmp .ge 22, 3) := by decide +kernel
theorem dX9_init_147 : decode cX9_init 147 = .ok (.aload_n 0, 1) := by decide +kernel
theorem dX9_init_148 : decode cX9_init 148 = .ok (.getfield 34, 3) := by decide +kernel
theorem dX9_init_151 : decode cX9_init 151 = .ok (.iload_n 2, 1) := by decide +kernel
theorem dX9_init_152 : decode cX9_init 152 = .ok (.new 32, 3) := by decide +kernel
theorem dX9_init_155 : decode cX9_init 155 = .ok (.dup, 1) := by decide +kernel
theorem dX9_init_156 : decode cX9_init 156 = .ok (.invokespecial 38, 3) := by decide +kernel
theorem dX9_init_159 : decode cX9_init 159 = .ok (.aastore, 1) := by decide +kernel
theorem dX9_init_160 : decode cX9_init 160 = .ok (.iinc 2 1, 3) := by decide +kernel
theorem dX9_init_163 : decode cX9_init 163 = .ok (.goto (-25), 3) := by decide +kernel
theorem dX9_init_166 : decode cX9_init 166 = .ok (.iconst 0, 1) := by decide +kernel
theorem dX9_init_167 : decode cX9_init 167 = .ok (.istore_n 2, 1) := by decide +kernel
theorem dX9_init_168 : decode cX9_init 168 = .ok (.iload_n 2, 1) := by decide +kernel
theorem dX9_init_169 : decode cX9_init 169 = .ok (.aload_n 0, 1) := by decide +kernel
theorem dX9_init_170 : decode cX9_init 170 = .ok (.getfield 64, 3) := by decide +kernel
theorem dX9_init_173 : decode cX9_init 173 = .ok (.arraylength, 1) := by decide +kernel
theorem dX9_init_174 : decode cX9_init 174 = .ok (.if_icmp .ge 22, 3) := by decide +kernel
theorem dX9_init_177 : decode cX9_init 177 = .ok (.aload_n 0, 1) := by decide +kernel
theorem dX9_init_178 : decode cX9_init 178 = .ok (.getfield 64, 3) := by decide +kernel
theorem dX9_init_181 : decode cX9_init 181 = .ok (.iload_n 2, 1) := by decide +kernel
theorem dX9_init_182 : decode cX9_init 182 = .ok (.new 54, 3) := by decide +kernel
theorem dX9_init_185 : decode cX9_init 185 = .ok (.dup, 1) := by decide +kernel
theorem dX9_init_186 : decode cX9_init 186 = .ok (.invokespecial 56, 3) := by decide +kernel
theorem dX9_init_189 : decode cX9_init 189 = .ok (.aastore, 1) := by decide +kernel
theorem dX9_init_190 : decode cX9_init 190 = .ok (.iinc 2 1, 3) := by decide +kernel
theorem dX9_init_193 : decode cX9_init 193 = .ok (.goto (-25), 3) := by decide +kernel
theorem dX9_init_196 : decode cX9_init 196 = .ok (.iconst 0, 1) := by decide +kernel
theorem dX9_init_197 : decode cX9_init 197 = .ok (.istore_n 2, 1) := by decide +kernel
theorem dX9_init_198 : decode cX9_init 198 = .ok (.iload_n 2, 1) := by decide +kernel
theorem dX9_init_199 : decode cX9_init 199 = .ok (.aload_n 0, 1) := by decide +kernel
theorem dX9_init_200 : decode cX9_init 200 = .ok (.getfield 70, 3) := by decide +kernel
theorem dX9_init_203 : decode cX9_init 203 = .ok (.arraylength, 1) := by decide +kernel
theorem dX9_init_204 : decode cX9_init 204 = .ok (.if_icmp .ge 22, 3) := by decide +kernel
theorem dX9_init_207 : decode cX9_init 207 = .ok (.aload_n 0, 1) := by decide +kernel
theorem dX9_init_208 : decode cX9_init 208 = .ok (.getfield 70, 3) := by decide +kernel
theorem dX9_init_211 : decode cX9_init 211 = .ok (.iload_n 2, 1) := by decide +kernel
theorem dX9_init_212 : decode cX9_init 212 = .ok (.new 68, 3) := by decide +kernel
theorem dX9_init_215 : decode cX9_init 215 = .ok (.dup, 1) := by decide +kernel
theorem dX9_init_216 : decode cX9_init 216 = .ok (.invokespecial 81, 3) := by decide +kernel
theorem dX9_init_219 : decode cX9_init 219 = .ok (.aastore, 1) := by decide +kernel
theorem dX9_init_220 : decode cX9_init 220 = .ok (.iinc 2 1, 3) := by decide +kernel
theorem dX9_init_223 : decode cX9_init 223 = .ok (.goto (-25), 3) := by decide +kernel
theorem dX9_init_226 : decode cX9_init 226 = .ok (.aload_n 0, 1) := by decide +kernel
theorem dX9_init_227 : decode cX9_init 227 = .ok (.new 68, 3) := by decide +kernel
theorem dX9_init_230 : decode cX9_init 230 = .ok (.dup, 1) := by decide +kernel
theorem dX9_init_231 : decode cX9_init 231 = .ok (.invokespecial 81, 3) := by decide +kernel
theorem dX9_init_234 : decode cX9_init 234 = .ok (.putfield 82, 3) := by decide +kernel
theorem dX9_init_237 : decode cX9_init 237 = .ok (.return_, 1) := by decide +kernel

set_option maxRecDepth 100000 in
set_option maxHeartbeats 4000000 in
theorem c_X9_init (S : Hp) (h : Nat) (hm : h ∈ hL S) (hk : hK S h = 9) (s0 : Nat) : Ct 4 yX9_init cX9_init 3 none 113 68424 [.ref h, .ref s0] S (fun r S' => r = none ∧ Fm (fun _ _ => False) (fun f9 b9 => b9 = h) (fun _ => False) S S' ∧ hR S' 900 h = some s0 ∧ ∃ l : List Nat, Wt s9K s9N s9P s9Q (fun i => (h :: l).getD i 0) S' ∧ l.length = 105 ∧ NL S l S' ∧ (∀ j, aI S' ((h :: l).getD 6 0) j = 0) ∧ (∀ j, aI S' ((h :: l).getD 9 0) j = 0) ∧ (∀ j, aI S' ((h :: l).getD 14 0) j = 0) ∧ (∀ j, aI S' ((h :: l).getD 19 0) j = 0)) := by
  refine ct_of (by decide) (Nat.le_of_ble_eq_true rfl) fun x hn9 C M hm9 => ?_
  have C : CB x RX9 cX9_init := C
  refine J.eq (lv' := [(0, .ref h), (1, .ref s0)]) rfl rfl rfl ?_
  refine j_aload_n C dX9_init_0 rfl 0 rfl ?_
  refine j_objInit C mlX9_3 nst_oi (M.fl (by decide)) dX9_init_1 ?_
  refine j_aload_n C dX9_init_4 rfl 0 rfl ?_
  refine j_new (N := 15) C (ci := 0) rfl rfl klX9_9 knX0 kiX0 (M.cells (by decide)) (M.slots (by decide)) dX9_init_5 (fun q_1 hq_2 => ?_)
  have hz_3 : q_1 ∉ hL S := hq_2
  refine j_dup C dX9_init_8 rfl ?_
  have hf_4 : Fm (fun _ _ => False) (fun f9 b9 => b9 = h) (fun _ => False) S (nO S q_1 0) := ((Fm.refl (WI := (fun _ _ => False)) (WR := (fun f9 b9 => b9 = h)) (WA := (fun _ => False))).nO _ hq_2)
  refine j_callI C [] [.ref q_1, .ref h] mlX9_11 mcX0_init (c_X0_init (nO S q_1 0) q_1 mem_new (kd_nO' (k := 0))) (M.rm (by decide) (by decide) (Nat.le_of_ble_eq_true rfl) (Nat.le_of_ble_eq_true rfl)) rfl rfl (Nat.le_of_ble_eq_true rfl) dX9_init_9 (fun r_18 S_19 hp_20 => ?_)
  obtain ⟨rfl, hf_21, q_5, q_6, e_7, e_8, e_9, e_10, e_11, e_12, e_13, e_14, e_15, e_16, hNl_17⟩ := hp_20
  refine J.eq (st' := [.ref q_1, .ref h]) rfl rfl rfl ?_
  have hm_22 : h ∈ hL S_19 := hf_21.mem (mem_old hm)
  have hk_23 : Kd S_19 h 9 := hf_21.kd (mem_old hm) (kd_nO (k := 0) hq_2 hm hk)
  have hm_24 : q_1 ∈ hL S_19 := hf_21.mem mem_new
  have hk_25 : Kd S_19 q_1 0 := hf_21.kd mem_new (kd_nO' (k := 0))
  have hv_26 : hI S_19 2 q_1 = 0 := hf_21.fi mem_new (fun h9 => h9) (rd_nOI' (k := 0))
  have hv_27 : hI S_19 3 q_1 = 0 := hf_21.fi mem_new (fun h9 => h9) (rd_nOI' (k := 0))
  have hv_28 : hI S_19 4 q_1 = 0 := hf_21.fi mem_new (fun h9 => h9) (rd_nOI' (k := 0))
  have hv_29 : hI S_19 5 q_1 = 0 := hf_21.fi mem_new (fun h9 => h9) (rd_nOI' (k := 0))
  have hf_30 : Fm (fun _ _ => False) (fun f9 b9 => b9 = h) (fun _ => False) S S_19 := hf_4.then hf_21 (fun a9 ha9 => ⟨(fun f9 h9 => h9.elim), (fun f9 h9 => (fun h8 => absurd (h8 ▸ ha9) hz_3) h9), (fun h9 => h9.elim)⟩)
  have hN_31 : NL S [q_1] S_19 := NL.mono (show NL S [q_1] (nO S q_1 0) from NL.nO (NL.nil : NL S [] S) hq_2 hz_3) (fun a9 h9 => hf_21.mem h9)
  have hz_32 : q_5 ∉ hL S := fun h9 => e_7 (hf_4.mem h9)
  have hz_33 : q_6 ∉ hL S := fun h9 => e_12 (hf_4.mem h9)
  have hN_34 : NL S [q_1, q_5, q_6] S_19 := NL.app (show NL S [q_1] (nO S q_1 0) from NL.nO (NL.nil : NL S [] S) hq_2 hz_3) hNl_17 (fun a9 h9 => hf_21.mem h9) (fun a9 h9 => hf_4.mem h9)
  have hGt_35 : Gt 3 [q_1, q_5, q_6] S_19 := ⟨fun i9 k9 h9 => (match i9, h9 with | 0, h9 => (by have e9 : (0 : Nat) = k9 := Option.some.inj h9; subst e9; exact ⟨hm_24, hk_25⟩) | 1, h9 => (by have e9 : (14 : Nat) = k9 := Option.some.inj h9; subst e9; exact ⟨e_8, e_9⟩) | 2, h9 => (by have e9 : (14 : Nat) = k9 := Option.some.inj h9; subst e9; exact ⟨e_13, e_14⟩) | i9 + 3, h9 => absurd h9 (by simp [gT])), (List.forall_mem_cons.mpr ⟨e_10, (List.forall_mem_cons.mpr ⟨e_15, (fun _ h9 => absurd h9 List.not_mem_nil)⟩)⟩), (List.forall_mem_cons.mpr ⟨e_11, (List.forall_mem_cons.mpr ⟨e_16, (fun _ h9 => absurd h9 List.not_mem_nil)⟩)⟩), (fun _ h9 => absurd h9 List.not_mem_nil)⟩
  have hG_36 : Gs h [(3, [q_1, q_5, q_6])] S_19 := Gs.snoc (Gs.nil : Gs h [] S_19) (by decide) hGt_35 (List.forall_mem_cons.mpr ⟨(fun e9 => hz_3 (e9 ▸ hm)), (List.forall_mem_cons.mpr ⟨(fun e9 => hz_3 (e9 ▸ hm)), (fun _ h9 => absurd h9 List.not_mem_nil)⟩)⟩)
  refine j_putrF (f := 901) C hm9 flX9_12o (by decide) rfl rfl dX9_init_12 hm_22 hk_23 rfl ?_
  refine j_aload_n C dX9_init_15 rfl 0 rfl ?_
  show J _ _ _ _ _ 16 _
  have hf_39 : Fm (fun _ _ => False) (fun f9 b9 => b9 = h) (fun _ => False) S (sR S_19 901 h (some q_1)) := (hf_30.sR _ (fun _ => rfl))
  refine j_new (N := 10) C (ci := 2) rfl rfl klX9_18 knX2 kiX2 (M.cells (by decide)) (M.slots (by decide)) dX9_init_16 (fun q_37 hq_38 => ?_)
  have hz_40 : q_37 ∉ hL S := fun h9 => hq_38 (hf_39.mem h9)
  have gn_41 : ∀ g9 ∈ ([(3, [q_1, q_5, q_6])] : List (Nat × List Nat)), ∀ p9 ∈ (gT g9.1).2.2, g9.2.getD p9.2.1 0 ≠ q_37 := Gs.ne (Gs.sR (S := S_19) hG_36) hq_38
  refine j_dup C dX9_init_19 rfl ?_
  have hf_42 : Fm (fun _ _ => False) (fun f9 b9 => b9 = h) (fun _ => False) S (nO (sR S_19 901 h (some q_1)) q_37 2) := (hf_39.nO _ hq_38)
  refine j_callI C [] [.ref q_37, .ref h] mlX9_20 mcX2_init (c_X2_init (nO (sR S_19 901 h (some q_1)) q_37 2) q_37 mem_new (kd_nO' (k := 2))) (M.rm (by decide) (by decide) (Nat.le_of_ble_eq_true rfl) (Nat.le_of_ble_eq_true rfl)) rfl rfl (Nat.le_of_ble_eq_true rfl) dX9_init_20 (fun r_93 S_94 hp_95 => ?_)
  obtain ⟨rfl, hf_96, q_43, q_44, q_45, q_46, q_47, q_48, q_49, q_50, e_51, e_52, e_53, e_54, e_55, e_56, e_57, e_58, e_59, e_60, e_61, e_62, e_63, e_64, e_65, e_66, e_67, e_68, e_69, e_70, e_71, e_72, e_73, e_74, e_75, e_76, e_77, e_78, e_79, e_80, e_81, e_82, e_83, e_84, e_85, e_86, e_87, e_88, e_89, e_90, e_91, hNl_92⟩ := hp_95
  refine J.eq (st' := [.ref q_37, .ref h]) rfl rfl rfl ?_
  have hm_97 : h ∈ hL S_94 := hf_96.mem (mem_old hm_22)
  have hk_98 : Kd S_94 h 9 := hf_96.kd (mem_old hm_22) (kd_nO (k := 2) hq_38 hm_22 hk_23)
  have hm_99 : q_37 ∈ hL S_94 := hf_96.mem mem_new
  have hk_100 : Kd S_94 q_37 2 := hf_96.kd mem_new (kd_nO' (k := 2))
  have hv_101 : hI S_94 206 q_37 = 0 := hf_96.fi mem_new (fun h9 => h9) (rd_nOI' (k := 2))
  have hv_102 : hI S_94 209 q_37 = 0 := hf_96.fi mem_new (fun h9 => h9) (rd_nOI' (k := 2))
  have hv_103 : hR S_94 901 h = (some q_1) := hf_96.fr (mem_old hm_22) (fun q9 => (fun e9 => absurd (((kd_nO (k := 2) hq_38 hm_22 hk_23)).symm.trans ((congrArg (hK _) e9).trans (kd_nO' (k := 2)))) (by decide)) q9) (rd_nOR (k := 2) hq_38 hm_22 (rd_sR (S := S_19) (g := 901) (a := h) (v := (some q_1))))
  have hf_104 : Fm (fun _ _ => False) (fun f9 b9 => b9 = h) (fun _ => False) S S_94 := hf_42.then hf_96 (fun a9 ha9 => ⟨(fun f9 h9 => h9.elim), (fun f9 h9 => (fun h8 => absurd (h8 ▸ ha9) hz_40) h9), (fun h9 => h9.elim)⟩)
  have hN_105 : NL S [q_1, q_5, q_6, q_37] S_94 := NL.mono (show NL S [q_1, q_5, q_6, q_37] (nO (sR S_19 901 h (some q_1)) q_37 2) from NL.nO (NL.sR (S := S_19) hN_34) hq_38 hz_40) (fun a9 h9 => hf_96.mem h9)
  have hG_106 : Gs h [(3, [q_1, q_5, q_6])] S_94 := Gs.fm (show Gs h [(3, [q_1, q_5, q_6])] (nO (sR S_19 901 h (some q_1)) q_37 2) from Gs.nO (Gs.sR (S := S_19) hG_36) hq_38) hf_96 (fun g9 hg9 p9 hp9 => gn_41 g9 hg9 p9 hp9)
  have hz_107 : q_43 ∉ hL S := fun h9 => e_51 (hf_42.mem h9)
  have hz_108 : q_44 ∉ hL S := fun h9 => e_55 (hf_42.mem h9)
  have hz_109 : q_45 ∉ hL S := fun h9 => e_61 (hf_42.mem h9)
  have hz_110 : q_46 ∉ hL S := fun h9 => e_66 (hf_42.mem h9)
  have hz_111 : q_47 ∉ hL S := fun h9 => e_71 (hf_42.mem h9)
  have hz_112 : q_48 ∉ hL S := fun h9 => e_77 (hf_42.mem h9)
  have hz_113 : q_49 ∉ hL S := fun h9 => e_82 (hf_42.mem h9)
  have hz_114 : q_50 ∉ hL S := fun h9 => e_87 (hf_42.mem h9)
  have hN_115 : NL S [q_1, q_5, q_6, q_37, q_43, q_44, q_45, q_46, q_47, q_48, q_49, q_50] S_94 := NL.app (show NL S [q_1, q_5, q_6, q_37] (nO (sR S_19 901 h (some q_1)) q_37 2) from NL.nO (NL.sR (S := S_19) hN_34) hq_38 hz_40) hNl_92 (fun a9 h9 => hf_96.mem h9) (fun a9 h9 => hf_42.mem h9)
  have hGt_116 : Gt 4 [q_37, q_43, q_44, q_45, q_46, q_47, q_48, q_49, q_50] S_94 := ⟨fun i9 k9 h9 => (match i9, h9 with | 0, h9 => (by have e9 : (2 : Nat) = k9 := Option.some.inj h9; subst e9; exact ⟨hm_99, hk_100⟩) | 1, h9 => (by have e9 : (8 : Nat) = k9 := Option.some.inj h9; subst e9; exact ⟨e_52, e_53⟩) | 2, h9 => (by have e9 : (14 : Nat) = k9 := Option.some.inj h9; subst e9; exact ⟨e_56, e_57⟩) | 3, h9 => (by have e9 : (14 : Nat) = k9 := Option.some.inj h9; subst e9; exact ⟨e_62, e_63⟩) | 4, h9 => (by have e9 : (14 : Nat) = k9 := Option.some.inj h9; subst e9; exact ⟨e_67, e_68⟩) | 5, h9 => (by have e9 : (17 : Nat) = k9 := Option.some.inj h9; subst e9; exact ⟨e_72, e_73⟩) | 6, h9 => (by have e9 : (14 : Nat) = k9 := Option.some.inj h9; subst e9; exact ⟨e_78, e_79⟩) | 7, h9 => (by have e9 : (14 : Nat) = k9 := Option.some.inj h9; subst e9; exact ⟨e_83, e_84⟩) | 8, h9 => (by have e9 : (14 : Nat) = k9 := Option.some.inj h9; subst e9; exact ⟨e_88, e_89⟩) | i9 + 9, h9 => absurd h9 (by simp [gT])), (List.forall_mem_cons.mpr ⟨e_58, (List.forall_mem_cons.mpr ⟨e_64, (List.forall_mem_cons.mpr ⟨e_69, (List.forall_mem_cons.mpr ⟨e_74, (List.forall_mem_cons.mpr ⟨e_80, (List.forall_mem_cons.mpr ⟨e_85, (List.forall_mem_cons.mpr ⟨e_90, (fun _ h9 => absurd h9 List.not_mem_nil)⟩)⟩)⟩)⟩)⟩)⟩)⟩), (List.forall_mem_cons.mpr ⟨e_54, (List.forall_mem_cons.mpr ⟨e_59, (List.forall_mem_cons.mpr ⟨e_65, (List.forall_mem_cons.mpr ⟨e_70, (List.forall_mem_cons.mpr ⟨e_75, (List.forall_mem_cons.mpr ⟨e_81, (List.forall_mem_cons.mpr ⟨e_86, (List.forall_mem_cons.mpr ⟨e_91, (fun _ h9 => absurd h9 List.not_mem_nil)⟩)⟩)⟩)⟩)⟩)⟩)⟩)⟩), (List.forall_mem_cons.mpr ⟨e_60, (List.forall_mem_cons.mpr ⟨e_76, (fun _ h9 => absurd h9 List.not_mem_nil)⟩)⟩)⟩
  have hG_117 : Gs h [(3, [q_1, q_5, q_6]), (4, [q_37, q_43, q_44, q_45, q_46, q_47, q_48, q_49, q_50])] S_94 := Gs.snoc hG_106 (by decide) hGt_116 (List.forall_mem_cons.mpr ⟨(fun e9 => hz_40 (e9 ▸ hm)), (List.forall_mem_cons.mpr ⟨(fun e9 => hz_107 (e9 ▸ hm)), (List.forall_mem_cons.mpr ⟨(fun e9 => hz_40 (e9 ▸ hm)), (List.forall_mem_cons.mpr ⟨(fun e9 => hz_40 (e9 ▸ hm)), (List.forall_mem_cons.mpr ⟨(fun e9 => hz_40 (e9 ▸ hm)), (List.forall_mem_cons.mpr ⟨(fun e9 => hz_40 (e9 ▸ hm)), (List.forall_mem_cons.mpr ⟨(fun e9 => hz_40 (e9 ▸ hm)), (List.forall_mem_cons.mpr ⟨(fun e9 => hz_40 (e9 ▸ hm)), (fun _ h9 => absurd h9 List.not_mem_nil)⟩)⟩)⟩)⟩)⟩)⟩)⟩)⟩)
  refine j_putrF (f := 902) C hm9 flX9_21o (by decide) rfl rfl dX9_init_23 hm_97 hk_98 rfl ?_
  refine j_aload_n C dX9_init_26 rfl 0 rfl ?_
  have hf_120 : Fm (fun _ _ => False) (fun f9 b9 => b9 = h) (fun _ => False) S (sR S_94 902 h (some q_37)) := (hf_104.sR _ (fun _ => rfl))
  refine j_new (N := 1) C (ci := 8) rfl rfl klX9_25 knX8 kiX8 (M.cells (by decide)) (M.slots (by decide)) dX9_init_27 (fun q_118 hq_119 => ?_)
  have hz_121 : q_118 ∉ hL S := fun h9 => hq_119 (hf_120.mem h9)
  have gn_122 : ∀ g9 ∈ ([(3, [q_1, q_5, q_6]), (4, [q_37, q_43, q_44, q_45, q_46, q_47, q_48, q_49, q_50])] : List (Nat × List Nat)), ∀ p9 ∈ (gT g9.1).2.2, g9.2.getD p9.2.1 0 ≠ q_118 := Gs.ne (Gs.sR (S := S_94) hG_117) hq_119
  refine j_dup C dX9_init_30 rfl ?_
  have hf_123 : Fm (fun _ _ => False) (fun f9 b9 => b9 = h) (fun _ => False) S (nO (sR S_94 902 h (some q_37)) q_118 8) := (hf_120.nO _ hq_119)
  refine j_callI C [] [.ref q_118, .ref h] mlX9_27 mcX8_init (c_X8_init (nO (sR S_94 902 h (some q_37)) q_118 8) q_118 mem_new (kd_nO' (k := 8))) (M.rm (by decide) (by decide) (Nat.le_of_ble_eq_true rfl) (Nat.le_of_ble_eq_true rfl)) rfl rfl (Nat.le_of_ble_eq_true rfl) dX9_init_31 (fun r_132 S_133 hp_134 => ?_)
  obtain ⟨rfl, hf_135, q_124, e_125, e_126, e_127, e_128, e_129, e_130, hNl_131⟩ := hp_134
  refine J.eq (st' := [.ref q_118, .ref h]) rfl rfl rfl ?_
  have hm_136 : h ∈ hL S_133 := hf_135.mem (mem_old hm_97)
  have hk_137 : Kd S_133 h 9 := hf_135.kd (mem_old hm_97) (kd_nO (k := 8) hq_119 hm_97 hk_98)
  have hm_138 : q_118 ∈ hL S_133 := hf_135.mem mem_new
  have hk_139 : Kd S_133 q_118 8 := hf_135.kd mem_new (kd_nO' (k := 8))
  have hv_140 : hR S_133 901 h = (some q_1) := hf_135.fr (mem_old hm_97) (fun q9 => (fun e9 => absurd (((kd_nO (k := 8) hq_119 hm_97 hk_98)).symm.trans ((congrArg (hK _) e9).trans (kd_nO' (k := 8)))) (by decide)) q9) (rd_nOR (k := 8) hq_119 hm_97 (rd_sRf (S := S_94) (g := 902) (a := h) (v := (some q_37)) (by decide) hv_103))
  have hv_141 : hR S_133 902 h = (some q_37) := hf_135.fr (mem_old hm_97) (fun q9 => (fun e9 => absurd (((kd_nO (k := 8) hq_119 hm_97 hk_98)).symm.trans ((congrArg (hK _) e9).trans (kd_nO' (k := 8)))) (by decide)) q9) (rd_nOR (k := 8) hq_119 hm_97 (rd_sR (S := S_94) (g := 902) (a := h) (v := (some q_37))))
  have hf_142 : Fm (fun _ _ => False) (fun f9 b9 => b9 = h) (fun _ => False) S S_133 := hf_123.then hf_135 (fun a9 ha9 => ⟨(fun f9 h9 => h9.elim), (fun f9 h9 => (fun h8 => absurd (h8 ▸ ha9) hz_121) h9), (fun h9 => h9.elim)⟩)
  have hN_143 : NL S [q_1, q_5, q_6, q_37, q_43, q_44, q_45, q_46, q_47, q_48, q_49, q_50, q_118] S_133 := NL.mono (show NL S [q_1, q_5, q_6, q_37, q_43, q_44, q_45, q_46, q_47, q_48, q_49, q_50, q_118] (nO (sR S_94 902 h (some q_37)) q_118 8) from NL.nO (NL.sR (S := S_94) hN_115) hq_119 hz_121) (fun a9 h9 => hf_135.mem h9)
  have hG_144 : Gs h [(3, [q_1, q_5, q_6]), (4, [q_37, q_43, q_44, q_45, q_46, q_47, q_48, q_49, q_50])] S_133 := Gs.fm (show Gs h [(3, [q_1, q_5, q_6]), (4, [q_37, q_43, q_44, q_45, q_46, q_47, q_48, q_49, q_50])] (nO (sR S_94 902 h (some q_37)) q_118 8) from Gs.nO (Gs.sR (S := S_94) hG_117) hq_119) hf_135 (fun g9 hg9 p9 hp9 => gn_122 g9 hg9 p9 hp9)
  have hz_145 : q_124 ∉ hL S := fun h9 => e_125 (hf_123.mem h9)
  have hN_146 : NL S [q_1, q_5, q_6, q_37, q_43, q_44, q_45, q_46, q_47, q_48, q_49, q_50, q_118, q_124] S_133 := NL.app (show NL S [q_1, q_5, q_6, q_37, q_43, q_44, q_45, q_46, q_47, q_48, q_49, q_50, q_118] (nO (sR S_94 902 h (some q_37)) q_118 8) from NL.nO (NL.sR (S := S_94) hN_115) hq_119 hz_121) hNl_131 (fun a9 h9 => hf_135.mem h9) (fun a9 h9 => hf_123.mem h9)
  have hGt_147 : Gt 0 [q_118, q_124] S_133 := ⟨fun i9 k9 h9 => (match i9, h9 with | 0, h9 => (by have e9 : (8 : Nat) = k9 := Option.some.inj h9; subst e9; exact ⟨hm_138, hk_139⟩) | 1, h9 => (by have e9 : (14 : Nat) = k9 := Option.some.inj h9; subst e9; exact ⟨e_126, e_127⟩) | i9 + 2, h9 => absurd h9 (by simp [gT])), (List.forall_mem_cons.mpr ⟨e_128, (fun _ h9 => absurd h9 List.not_mem_nil)⟩), (List.forall_mem_cons.mpr ⟨e_129, (fun _ h9 => absurd h9 List.not_mem_nil)⟩), (List.forall_mem_cons.mpr ⟨e_130, (fun _ h9 => absurd h9 List.not_mem_nil)⟩)⟩
  have hG_148 : Gs h [(3, [q_1, q_5, q_6]), (4, [q_37, q_43, q_44, q_45, q_46, q_47, q_48, q_49, q_50]), (0, [q_118, q_124])] S_133 := Gs.snoc hG_144 (by decide) hGt_147 (List.forall_mem_cons.mpr ⟨(fun e9 => hz_121 (e9 ▸ hm)), (fun _ h9 => absurd h9 List.not_mem_nil)⟩)
  show J _ _ _ _ _ 34 _
  refine j_putrF (f := 903) C hm9 flX9_28o (by decide) rfl rfl dX9_init_34 hm_136 hk_137 rfl ?_
  refine j_aload_n C dX9_init_37 rfl 0 rfl ?_
  refine j_bipush (v := 16) C dX9_init_38 (by decide) ?_
  have hf_151 : Fm (fun _ _ => False) (fun f9 b9 => b9 = h) (fun _ => False) S (sR S_133 903 h (some q_118)) := (hf_142.sR _ (fun _ => rfl))
  refine j_newQ (N := 16) C 20 (by decide) rfl klX9_32 (gx_Tile C) (by decide) (by decide) (by decide) (M.cells (by decide)) (M.slots (by decide)) dX9_init_40 (fun q_149 hq_150 => ?_)
  have hz_152 : q_149 ∉ hL S := fun h9 => hq_150 (hf_151.mem h9)
  refine j_putrF (f := 904) C hm9 flX9_34o (by decide) rfl rfl dX9_init_43 (mem_old hm_136) (kd_nA (k := 20) (n := 16) hq_150 hm_136 hk_137) rfl ?_
  refine j_aload_n C dX9_init_46 rfl 0 rfl ?_
  have hf_155 : Fm (fun _ _ => False) (fun f9 b9 => b9 = h) (fun _ => False) S (sR (nA (sR S_133 903 h (some q_118)) q_149 20 16) 904 h (some q_149)) := ((hf_151.nA _ _ hq_150).sR _ (fun _ => rfl))
  obtain ⟨S_153, eS_154⟩ : ∃ S9 : Hp, S9 = (sR (nA (sR S_133 903 h (some q_118)) q_149 20 16) 904 h (some q_149)) := ⟨_, rfl⟩
  refine J.eq (S' := S_153) eS_154.symm rfl rfl ?_
  have hm_156 : h ∈ hL S_153 := by rw [eS_154]; exact (mem_old hm_136)
  have hk_157 : Kd S_153 h 9 := by rw [eS_154]; exact (kd_nA (k := 20) (n := 16) hq_150 hm_136 hk_137)
  have hm_158 : q_149 ∈ hL S_153 := by rw [eS_154]; exact mem_new
  have hk_159 : Kd S_153 q_149 20 := by rw [eS_154]; exact (kd_nA' (k := 20) (n := 16))
  have hn_160 : Ln S_153 q_149 16 := by rw [eS_154]; exact (ln_nA' (k := 20))
  have hz_161 : ∀ j, aI S_153 q_149 j = 0 := by rw [eS_154]; exact (fun j9 => rd_nAI' (k := 20) (n := 16))
  have hv_162 : hR S_153 901 h = (some q_1) := by rw [eS_154]; exact (rd_sRf (S := (nA (sR S_133 903 h (some q_118)) q_149 20 16)) (g := 904) (a := h) (v := (some q_149)) (by decide) (rd_sRf (S := S_133) (g := 903) (a := h) (v := (some q_118)) (by decide) hv_140))
  have hv_163 : hR S_153 902 h = (some q_37) := by rw [eS_154]; exact (rd_sRf (S := (nA (sR S_133 903 h (some q_118)) q_149 20 16)) (g := 904) (a := h) (v := (some q_149)) (by decide) (rd_sRf (S := S_133) (g := 903) (a := h) (v := (some q_118)) (by decide) hv_141))
  have hv_164 : hR S_153 903 h = (some q_118) := by rw [eS_154]; exact (rd_sRf (S := (nA (sR S_133 903 h (some q_118)) q_149 20 16)) (g := 904) (a := h) (v := (some q_149)) (by decide) (rd_sR (S := S_133) (g := 903) (a := h) (v := (some q_118))))
  have hv_165 : hR S_153 904 h = (some q_149) := by rw [eS_154]; exact (rd_sR (S := (nA (sR S_133 903 h (some q_118)) q_149 20 16)) (g := 904) (a := h) (v := (some q_149)))
  have hf_166 : Fm (fun _ _ => False) (fun f9 b9 => b9 = h) (fun _ => False) S S_153 := by rw [eS_154]; exact hf_155
  have hN_167 : NL S [q_1, q_5, q_6, q_37, q_43, q_44, q_45, q_46, q_47, q_48, q_49, q_50, q_118, q_124, q_149] S_153 := by rw [eS_154]; exact (NL.sR (S := (nA (sR S_133 903 h (some q_118)) q_149 20 16)) (show NL S [q_1, q_5, q_6, q_37, q_43, q_44, q_45, q_46, q_47, q_48, q_49, q_50, q_118, q_124, q_149] (nA (sR S_133 903 h (some q_118)) q_149 20 16) from NL.nA (NL.sR (S := S_133) hN_146) hq_150 hz_152))
  have hG_168 : Gs h [(3, [q_1, q_5, q_6]), (4, [q_37, q_43, q_44, q_45, q_46, q_47, q_48, q_49, q_50]), (0, [q_118, q_124])] S_153 := by rw [eS_154]; exact (Gs.sR (S := (nA (sR S_133 903 h (some q_118)) q_149 20 16)) (show Gs h [(3, [q_1, q_5, q_6]), (4, [q_37, q_43, q_44, q_45, q_46, q_47, q_48, q_49, q_50]), (0, [q_118, q_124])] (nA (sR S_133 903 h (some q_118)) q_149 20 16) from Gs.nA (Gs.sR (S := S_133) hG_148) hq_150))
  refine j_new (N := 4) C (ci := 10) rfl rfl klX9_32 knX10 kiX10 (M.cells (by decide)) (M.slots (by decide)) dX9_init_47 (fun q_169 hq_170 => ?_)
  have hz_171 : q_169 ∉ hL S := fun h9 => hq_170 (hf_166.mem h9)
  have gn_172 : ∀ g9 ∈ ([(3, [q_1, q_5, q_6]), (4, [q_37, q_43, q_44, q_45, q_46, q_47, q_48, q_49, q_50]), (0, [q_118, q_124])] : List (Nat × List Nat)), ∀ p9 ∈ (gT g9.1).2.2, g9.2.getD p9.2.1 0 ≠ q_169 := Gs.ne hG_168 hq_170
  refine j_dup C dX9_init_50 rfl ?_
  show J _ _ _ _ _ 51 _
  have hf_173 : Fm (fun _ _ => False) (fun f9 b9 => b9 = h) (fun _ => False) S (nO S_153 q_169 10) := (hf_166.nO _ hq_170)
  refine j_callI C [] [.ref q_169, .ref h] mlX9_38 mcX10_init (c_X10_init (nO S_153 q_169 10) q_169 mem_new (kd_nO' (k := 10))) (M.rm (by decide) (by decide) (Nat.le_of_ble_eq_true rfl) (Nat.le_of_ble_eq_true rfl)) rfl rfl (Nat.le_of_ble_eq_true rfl) dX9_init_51 (fun r_183 S_184 hp_185 => ?_)
  obtain ⟨rfl, hf_186, e_175, e_176, q_174, e_177, e_178, e_179, e_180, e_181, hNl_182⟩ := hp_185
  refine J.eq (st' := [.ref q_169, .ref h]) rfl rfl rfl ?_
  have hz_187 : ∀ j, aI S_184 q_149 j = 0 := fun j9 => (hf_186.ai (mem_old hm_158) (fun h9 => h9) j9).trans (hz_161 j9)
  have hm_188 : h ∈ hL S_184 := hf_186.mem (mem_old hm_156)
  have hk_189 : Kd S_184 h 9 := hf_186.kd (mem_old hm_156) (kd_nO (k := 10) hq_170 hm_156 hk_157)
  have hm_190 : q_149 ∈ hL S_184 := hf_186.mem (mem_old hm_158)
  have hk_191 : Kd S_184 q_149 20 := hf_186.kd (mem_old hm_158) (kd_nO (k := 10) hq_170 hm_158 hk_159)
  have hn_192 : Ln S_184 q_149 16 := hf_186.ln (mem_old hm_158) hn_160
  have hm_193 : q_169 ∈ hL S_184 := hf_186.mem mem_new
  have hk_194 : Kd S_184 q_169 10 := hf_186.kd mem_new (kd_nO' (k := 10))
  have hv_195 : hR S_184 901 h = (some q_1) := hf_186.fr (mem_old hm_156) (fun q9 => (fun e9 => absurd (((kd_nO (k := 10) hq_170 hm_156 hk_157)).symm.trans ((congrArg (hK _) e9).trans (kd_nO' (k := 10)))) (by decide)) q9) (rd_nOR (k := 10) hq_170 hm_156 hv_162)
  have hv_196 : hR S_184 902 h = (some q_37) := hf_186.fr (mem_old hm_156) (fun q9 => (fun e9 => absurd (((kd_nO (k := 10) hq_170 hm_156 hk_157)).symm.trans ((congrArg (hK _) e9).trans (kd_nO' (k := 10)))) (by decide)) q9) (rd_nOR (k := 10) hq_170 hm_156 hv_163)
  have hv_197 : hR S_184 903 h = (some q_118) := hf_186.fr (mem_old hm_156) (fun q9 => (fun e9 => absurd (((kd_nO (k := 10) hq_170 hm_156 hk_157)).symm.trans ((congrArg (hK _) e9).trans (kd_nO' (k := 10)))) (by decide)) q9) (rd_nOR (k := 10) hq_170 hm_156 hv_164)
  have hv_198 : hR S_184 904 h = (some q_149) := hf_186.fr (mem_old hm_156) (fun q9 => (fun e9 => absurd (((kd_nO (k := 10) hq_170 hm_156 hk_157)).symm.trans ((congrArg (hK _) e9).trans (kd_nO' (k := 10)))) (by decide)) q9) (rd_nOR (k := 10) hq_170 hm_156 hv_165)
  have hf_199 : Fm (fun _ _ => False) (fun f9 b9 => b9 = h) (fun _ => False) S S_184 := hf_173.then hf_186 (fun a9 ha9 => ⟨(fun f9 h9 => (fun h9 => h9.elim (fun h8 => absurd (h8.2 ▸ ha9) hz_171) (fun h8 => absurd (h8.2 ▸ ha9) hz_171)) h9), (fun f9 h9 => (fun h8 => absurd (h8 ▸ ha9) hz_171) h9), (fun h9 => h9.elim)⟩)
  have hN_200 : NL S [q_1, q_5, q_6, q_37, q_43, q_44, q_45, q_46, q_47, q_48, q_49, q_50, q_118, q_124, q_149, q_169] S_184 := NL.mono (show NL S [q_1, q_5, q_6, q_37, q_43, q_44, q_45, q_46, q_47, q_48, q_49, q_50, q_118, q_124, q_149, q_169] (nO S_153 q_169 10) from NL.nO hN_167 hq_170 hz_171) (fun a9 h9 => hf_186.mem h9)
  have hG_201 : Gs h [(3, [q_1, q_5, q_6]), (4, [q_37, q_43, q_44, q_45, q_46, q_47, q_48, q_49, q_50]), (0, [q_118, q_124])] S_184 := Gs.fm (show Gs h [(3, [q_1, q_5, q_6]), (4, [q_37, q_43, q_44, q_45, q_46, q_47, q_48, q_49, q_50]), (0, [q_118, q_124])] (nO S_153 q_169 10) from Gs.nO hG_168 hq_170) hf_186 (fun g9 hg9 p9 hp9 => gn_172 g9 hg9 p9 hp9)
  have hz_202 : q_174 ∉ hL S := fun h9 => e_177 (hf_173.mem h9)
  have hN_203 : NL S [q_1, q_5, q_6, q_37, q_43, q_44, q_45, q_46, q_47, q_48, q_49, q_50, q_118, q_124, q_149, q_169, q_174] S_184 := NL.app (show NL S [q_1, q_5, q_6, q_37, q_43, q_44, q_45, q_46, q_47, q_48, q_49, q_50, q_118, q_124, q_149, q_169] (nO S_153 q_169 10) from NL.nO hN_167 hq_170 hz_171) hNl_182 (fun a9 h9 => hf_186.mem h9) (fun a9 h9 => hf_173.mem h9)
  have hGt_204 : Gt 1 [q_169, q_174] S_184 := ⟨fun i9 k9 h9 => (match i9, h9 with | 0, h9 => (by have e9 : (10 : Nat) = k9 := Option.some.inj h9; subst e9; exact ⟨hm_193, hk_194⟩) | 1, h9 => (by have e9 : (15 : Nat) = k9 := Option.some.inj h9; subst e9; exact ⟨e_178, e_179⟩) | i9 + 2, h9 => absurd h9 (by simp [gT])), (List.forall_mem_cons.mpr ⟨e_180, (fun _ h9 => absurd h9 List.not_mem_nil)⟩), (List.forall_mem_cons.mpr ⟨e_181, (fun _ h9 => absurd h9 List.not_mem_nil)⟩), (fun _ h9 => absurd h9 List.not_mem_nil)⟩
  have hG_205 : Gs h [(3, [q_1, q_5, q_6]), (4, [q_37, q_43, q_44, q_45, q_46, q_47, q_48, q_49, q_50]), (0, [q_118, q_124]), (1, [q_169, q_174])] S_184 := Gs.snoc hG_201 (by decide) hGt_204 (List.forall_mem_cons.mpr ⟨(fun e9 => hz_171 (e9 ▸ hm)), (fun _ h9 => absurd h9 List.not_mem_nil)⟩)
  refine j_putrF (f := 905) C hm9 flX9_39o (by decide) rfl rfl dX9_init_54 hm_188 hk_189 rfl ?_
  refine j_aload_n C dX9_init_57 rfl 0 rfl ?_
  have hf_208 : Fm (fun _ _ => False) (fun f9 b9 => b9 = h) (fun _ => False) S (sR S_184 905 h (some q_169)) := (hf_199.sR _ (fun _ => rfl))
  refine j_new (N := 1) C (ci := 8) rfl rfl klX9_25 knX8 kiX8 (M.cells (by decide)) (M.slots (by decide)) dX9_init_58 (fun q_206 hq_207 => ?_)
  have hz_209 : q_206 ∉ hL S := fun h9 => hq_207 (hf_208.mem h9)
  have gn_210 : ∀ g9 ∈ ([(3, [q_1, q_5, q_6]), (4, [q_37, q_43, q_44, q_45, q_46, q_47, q_48, q_49, q_50]), (0, [q_118, q_124]), (1, [q_169, q_174])] : List (Nat × List Nat)), ∀ p9 ∈ (gT g9.1).2.2, g9.2.getD p9.2.1 0 ≠ q_206 := Gs.ne (Gs.sR (S := S_184) hG_205) hq_207
  refine j_dup C dX9_init_61 rfl ?_
  have hf_211 : Fm (fun _ _ => False) (fun f9 b9 => b9 = h) (fun _ => False) S (nO (sR S_184 905 h (some q_169)) q_206 8) := (hf_208.nO _ hq_207)
  refine j_callI C [] [.ref q_206, .ref h] mlX9_27 mcX8_init (c_X8_init (nO (sR S_184 905 h (some q_169)) q_206 8) q_206 mem_new (kd_nO' (k := 8))) (M.rm (by decide) (by decide) (Nat.le_of_ble_eq_true rfl) (Nat.le_of_ble_eq_true rfl)) rfl rfl (Nat.le_of_ble_eq_true rfl) dX9_init_62 (fun r_220 S_221 hp_222 => ?_)
  obtain ⟨rfl, hf_223, q_212, e_213, e_214, e_215, e_216, e_217, e_218, hNl_219⟩ := hp_222
  refine J.eq (st' := [.ref q_206, .ref h]) rfl rfl rfl ?_
  have hz_224 : ∀ j, aI S_221 q_149 j = 0 := fun j9 => (hf_223.ai (mem_old hm_190) (fun h9 => h9) j9).trans (hz_187 j9)
  have hm_225 : h ∈ hL S_221 := hf_223.mem (mem_old hm_188)
  have hk_226 : Kd S_221 h 9 := hf_223.kd (mem_old hm_188) (kd_nO (k := 8) hq_207 hm_188 hk_189)
  have hm_227 : q_149 ∈ hL S_221 := hf_223.mem (mem_old hm_190)
  have hk_228 : Kd S_221 q_149 20 := hf_223.kd (mem_old hm_190) (kd_nO (k := 8) hq_207 hm_190 hk_191)
  have hn_229 : Ln S_221 q_149 16 := hf_223.ln (mem_old hm_190) hn_192
  have hm_230 : q_206 ∈ hL S_221 := hf_223.mem mem_new
  have hk_231 : Kd S_221 q_206 8 := hf_223.kd mem_new (kd_nO' (k := 8))
  have hv_232 : hR S_221 901 h = (some q_1) := hf_223.fr (mem_old hm_188) (fun q9 => (fun e9 => absurd (((kd_nO (k := 8) hq_207 hm_188 hk_189)).symm.trans ((congrArg (hK _) e9).trans (kd_nO' (k := 8)))) (by decide)) q9) (rd_nOR (k := 8) hq_207 hm_188 (rd_sRf (S := S_184) (g := 905) (a := h) (v := (some q_169)) (by decide) hv_195))
  have hv_233 : hR S_221 902 h = (some q_37) := hf_223.fr (mem_old hm_188) (fun q9 => (fun e9 => absurd (((kd_nO (k := 8) hq_207 hm_188 hk_189)).symm.trans ((congrArg (hK _) e9).trans (kd_nO' (k := 8)))) (by decide)) q9) (rd_nOR (k := 8) hq_207 hm_188 (rd_sRf (S := S_184) (g := 905) (a := h) (v := (some q_169)) (by decide) hv_196))
  have hv_234 : hR S_221 903 h = (some q_118) := hf_223.fr (mem_old hm_188) (fun q9 => (fun e9 => absurd (((kd_nO (k := 8) hq_207 hm_188 hk_189)).symm.trans ((congrArg (hK _) e9).trans (kd_nO' (k := 8)))) (by decide)) q9) (rd_nOR (k := 8) hq_207 hm_188 (rd_sRf (S := S_184) (g := 905) (a := h) (v := (some q_169)) (by decide) hv_197))
  have hv_235 : hR S_221 904 h = (some q_149) := hf_223.fr (mem_old hm_188) (fun q9 => (fun e9 => absurd (((kd_nO (k := 8) hq_207 hm_188 hk_189)).symm.trans ((congrArg (hK _) e9).trans (kd_nO' (k := 8)))) (by decide)) q9) (rd_nOR (k := 8) hq_207 hm_188 (rd_sRf (S := S_184) (g := 905) (a := h) (v := (some q_169)) (by decide) hv_198))
  have hv_236 : hR S_221 905 h = (some q_169) := hf_223.fr (mem_old hm_188) (fun q9 => (fun e9 => absurd (((kd_nO (k := 8) hq_207 hm_188 hk_189)).symm.trans ((congrArg (hK _) e9).trans (kd_nO' (k := 8)))) (by decide)) q9) (rd_nOR (k := 8) hq_207 hm_188 (rd_sR (S := S_184) (g := 905) (a := h) (v := (some q_169))))
  have hf_237 : Fm (fun _ _ => False) (fun f9 b9 => b9 = h) (fun _ => False) S S_221 := hf_211.then hf_223 (fun a9 ha9 => ⟨(fun f9 h9 => h9.elim), (fun f9 h9 => (fun h8 => absurd (h8 ▸ ha9) hz_209) h9), (fun h9 => h9.elim)⟩)
  have hN_238 : NL S [q_1, q_5, q_6, q_37, q_43, q_44, q_45, q_46, q_47, q_48, q_49, q_50, q_118, q_124, q_149, q_169, q_174, q_206] S_221 := NL.mono (show NL S [q_1, q_5, q_6, q_37, q_43, q_44, q_45, q_46, q_47, q_48, q_49, q_50, q_118, q_124, q_149, q_169, q_174, q_206] (nO (sR S_184 905 h (some q_169)) q_206 8) from NL.nO (NL.sR (S := S_184) hN_203) hq_207 hz_209) (fun a9 h9 => hf_223.mem h9)
  have hG_239 : Gs h [(3, [q_1, q_5, q_6]), (4, [q_37, q_43, q_44, q_45, q_46, q_47, q_48, q_49, q_50]), (0, [q_118, q_124]), (1, [q_169, q_174])] S_221 := Gs.fm (show Gs h [(3, [q_1, q_5, q_6]), (4, [q_37, q_43, q_44, q_45, q_46, q_47, q_48, q_49, q_50]), (0, [q_118, q_124]), (1, [q_169, q_174])] (nO (sR S_184 905 h (some q_169)) q_206 8) from Gs.nO (Gs.sR (S := S_184) hG_205) hq_207) hf_223 (fun g9 hg9 p9 hp9 => gn_210 g9 hg9 p9 hp9)
  have hz_240 : q_212 ∉ hL S := fun h9 => e_213 (hf_211.mem h9)
  have hN_241 : NL S [q_1, q_5, q_6, q_37, q_43, q_44, q_45, q_46, q_47, q_48, q_49, q_50, q_118, q_124, q_149, q_169, q_174, q_206, q_212] S_221 := NL.app (show NL S [q_1, q_5, q_6, q_37, q_43, q_44, q_45, q_46, q_47, q_48, q_49, q_50, q_118, q_124, q_149, q_169, q_174, q_206] (nO (sR S_184 905 h (some q_169)) q_206 8) from NL.nO (NL.sR (S := S_184) hN_203) hq_207 hz_209) hNl_219 (fun a9 h9 => hf_223.mem h9) (fun a9 h9 => hf_211.mem h9)
  have hGt_242 : Gt 0 [q_206, q_212] S_221 := ⟨fun i9 k9 h9 => (match i9, h9 with | 0, h9 => (by have e9 : (8 : Nat) = k9 := Option.some.inj h9; subst e9; exact ⟨hm_230, hk_231⟩) | 1, h9 => (by have e9 : (14 : Nat) = k9 := Option.some.inj h9; subst e9; exact ⟨e_214, e_215⟩) | i9 + 2, h9 => absurd h9 (by simp [gT])), (List.forall_mem_cons.mpr ⟨e_216, (fun _ h9 => absurd h9 List.not_mem_nil)⟩), (List.forall_mem_cons.mpr ⟨e_217, (fun _ h9 => absurd h9 List.not_mem_nil)⟩), (List.forall_mem_cons.mpr ⟨e_218, (fun _ h9 => absurd h9 List.not_mem_nil)⟩)⟩
  have hG_243 : Gs h [(3, [q_1, q_5, q_6]), (4, [q_37, q_43, q_44, q_45, q_46, q_47, q_48, q_49, q_50]), (0, [q_118, q_124]), (1, [q_169, q_174]), (0, [q_206, q_212])] S_221 := Gs.snoc hG_239 (by decide) hGt_242 (List.forall_mem_cons.mpr ⟨(fun e9 => hz_209 (e9 ▸ hm)), (fun _ h9 => absurd h9 List.not_mem_nil)⟩)
  refine j_putrF (f := 906) C hm9 flX9_43o (by decide) rfl rfl dX9_init_65 hm_225 hk_226 rfl ?_
  refine j_aload_n C dX9_init_68 rfl 0 rfl ?_
  show J _ _ _ _ _ 69 _
  refine j_sipush (v := 24000) C dX9_init_69 (by decide) ?_
  have hf_246 : Fm (fun _ _ => False) (fun f9 b9 => b9 = h) (fun _ => False) S (sR S_221 906 h (some q_206)) := (hf_237.sR _ (fun _ => rfl))
  refine j_newB (N := 24000) C ka_byte (by decide) (by decide) (Nat.le_of_ble_eq_true rfl) (M.cells (by decide)) (M.slots (Nat.le_of_ble_eq_true rfl)) dX9_init_72 (fun q_244 hq_245 => ?_)
  have hz_247 : q_244 ∉ hL S := fun h9 => hq_245 (hf_246.mem h9)
  refine j_putrF (f := 907) C hm9 flX9_46o (by decide) rfl rfl dX9_init_74 (mem_old hm_225) (kd_nA (k := 13) (n := 24000) hq_245 hm_225 hk_226) rfl ?_
  refine j_aload_n C dX9_init_77 rfl 0 rfl ?_
  refine j_bipush (v := 16) C dX9_init_78 (by decide) ?_
  have hf_250 : Fm (fun _ _ => False) (fun f9 b9 => b9 = h) (fun _ => False) S (sR (nA (sR S_221 906 h (some q_206)) q_244 13 24000) 907 h (some q_244)) := ((hf_246.nA _ _ hq_245).sR _ (fun _ => rfl))
  obtain ⟨S_248, eS_249⟩ : ∃ S9 : Hp, S9 = (sR (nA (sR S_221 906 h (some q_206)) q_244 13 24000) 907 h (some q_244)) := ⟨_, rfl⟩
  refine J.eq (S' := S_248) eS_249.symm rfl rfl ?_
  have hm_251 : h ∈ hL S_248 := by rw [eS_249]; exact (mem_old hm_225)
  have hk_252 : Kd S_248 h 9 := by rw [eS_249]; exact (kd_nA (k := 13) (n := 24000) hq_245 hm_225 hk_226)
  have hm_253 : q_149 ∈ hL S_248 := by rw [eS_249]; exact (mem_old hm_227)
  have hk_254 : Kd S_248 q_149 20 := by rw [eS_249]; exact (kd_nA (k := 13) (n := 24000) hq_245 hm_227 hk_228)
  have hn_255 : Ln S_248 q_149 16 := by rw [eS_249]; exact (ln_nA (k := 13) hq_245 hm_227 hn_229)
  have hz_256 : ∀ j, aI S_248 q_149 j = 0 := by rw [eS_249]; exact (fun j9 => rd_nAI (k := 13) (n := 24000) hq_245 hm_227 (hz_224 j9))
  have hm_257 : q_244 ∈ hL S_248 := by rw [eS_249]; exact mem_new
  have hk_258 : Kd S_248 q_244 13 := by rw [eS_249]; exact (kd_nA' (k := 13) (n := 24000))
  have hn_259 : Ln S_248 q_244 24000 := by rw [eS_249]; exact (ln_nA' (k := 13))
  have hz_260 : ∀ j, aI S_248 q_244 j = 0 := by rw [eS_249]; exact (fun j9 => rd_nAI' (k := 13) (n := 24000))
  have hv_261 : hR S_248 901 h = (some q_1) := by rw [eS_249]; exact (rd_sRf (S := (nA (sR S_221 906 h (some q_206)) q_244 13 24000)) (g := 907) (a := h) (v := (some q_244)) (by decide) (rd_sRf (S := S_221) (g := 906) (a := h) (v := (some q_206)) (by decide) hv_232))
  have hv_262 : hR S_248 902 h = (some q_37) := by rw [eS_249]; exact (rd_sRf (S := (nA (sR S_221 906 h (some q_206)) q_244 13 24000)) (g := 907) (a := h) (v := (some q_244)) (by decide) (rd_sRf (S := S_221) (g := 906) (a := h) (v := (some q_206)) (by decide) hv_233))
  have hv_263 : hR S_248 903 h = (some q_118) := by rw [eS_249]; exact (rd_sRf (S := (nA (sR S_221 906 h (some q_206)) q_244 13 24000)) (g := 907) (a := h) (v := (some q_244)) (by decide) (rd_sRf (S := S_221) (g := 906) (a := h) (v := (some q_206)) (by decide) hv_234))
  have hv_264 : hR S_248 904 h = (some q_149) := by rw [eS_249]; exact (rd_sRf (S := (nA (sR S_221 906 h (some q_206)) q_244 13 24000)) (g := 907) (a := h) (v := (some q_244)) (by decide) (rd_sRf (S := S_221) (g := 906) (a := h) (v := (some q_206)) (by decide) hv_235))
  have hv_265 : hR S_248 905 h = (some q_169) := by rw [eS_249]; exact (rd_sRf (S := (nA (sR S_221 906 h (some q_206)) q_244 13 24000)) (g := 907) (a := h) (v := (some q_244)) (by decide) (rd_sRf (S := S_221) (g := 906) (a := h) (v := (some q_206)) (by decide) hv_236))
  have hv_266 : hR S_248 906 h = (some q_206) := by rw [eS_249]; exact (rd_sRf (S := (nA (sR S_221 906 h (some q_206)) q_244 13 24000)) (g := 907) (a := h) (v := (some q_244)) (by decide) (rd_sR (S := S_221) (g := 906) (a := h) (v := (some q_206))))
  have hv_267 : hR S_248 907 h = (some q_244) := by rw [eS_249]; exact (rd_sR (S := (nA (sR S_221 906 h (some q_206)) q_244 13 24000)) (g := 907) (a := h) (v := (some q_244)))
  have hf_268 : Fm (fun _ _ => False) (fun f9 b9 => b9 = h) (fun _ => False) S S_248 := by rw [eS_249]; exact hf_250
  have hN_269 : NL S [q_1, q_5, q_6, q_37, q_43, q_44, q_45, q_46, q_47, q_48, q_49, q_50, q_118, q_124, q_149, q_169, q_174, q_206, q_212, q_244] S_248 := by rw [eS_249]; exact (NL.sR (S := (nA (sR S_221 906 h (some q_206)) q_244 13 24000)) (show NL S [q_1, q_5, q_6, q_37, q_43, q_44, q_45, q_46, q_47, q_48, q_49, q_50, q_118, q_124, q_149, q_169, q_174, q_206, q_212, q_244] (nA (sR S_221 906 h (some q_206)) q_244 13 24000) from NL.nA (NL.sR (S := S_221) hN_241) hq_245 hz_247))
  have hG_270 : Gs h [(3, [q_1, q_5, q_6]), (4, [q_37, q_43, q_44, q_45, q_46, q_47, q_48, q_49, q_50]), (0, [q_118, q_124]), (1, [q_169, q_174]), (0, [q_206, q_212])] S_248 := by rw [eS_249]; exact (Gs.sR (S := (nA (sR S_221 906 h (some q_206)) q_244 13 24000)) (show Gs h [(3, [q_1, q_5, q_6]), (4, [q_37, q_43, q_44, q_45, q_46, q_47, q_48, q_49, q_50]), (0, [q_118, q_124]), (1, [q_169, q_174]), (0, [q_206, q_212])] (nA (sR S_221 906 h (some q_206)) q_244 13 24000) from Gs.nA (Gs.sR (S := S_221) hG_243) hq_245))
  refine j_newI (N := 16) C ka_int (by decide) (by decide) (Nat.le_of_ble_eq_true rfl) (M.cells (by decide)) (M.slots (Nat.le_of_ble_eq_true rfl)) dX9_init_80 (fun q_271 hq_272 => ?_)
  have hz_273 : q_271 ∉ hL S := fun h9 => hq_272 (hf_268.mem h9)
  refine j_putrF (f := 908) C hm9 flX9_50o (by decide) rfl rfl dX9_init_82 (mem_old hm_251) (kd_nA (k := 14) (n := 16) hq_272 hm_251 hk_252) rfl ?_
  refine j_aload_n C dX9_init_85 rfl 0 rfl ?_
  show J _ _ _ _ _ 86 _
  have hf_276 : Fm (fun _ _ => False) (fun f9 b9 => b9 = h) (fun _ => False) S (sR (nA S_248 q_271 14 16) 908 h (some q_271)) := ((hf_268.nA _ _ hq_272).sR _ (fun _ => rfl))
  obtain ⟨S_274, eS_275⟩ : ∃ S9 : Hp, S9 = (sR (nA S_248 q_271 14 16) 908 h (some q_271)) := ⟨_, rfl⟩
  refine J.eq (S' := S_274) eS_275.symm rfl rfl ?_
  have hm_277 : h ∈ hL S_274 := by rw [eS_275]; exact (mem_old hm_251)
  have hk_278 : Kd S_274 h 9 := by rw [eS_275]; exact (kd_nA (k := 14) (n := 16) hq_272 hm_251 hk_252)
  have hm_279 : q_149 ∈ hL S_274 := by rw [eS_275]; exact (mem_old hm_253)
  have hk_280 : Kd S_274 q_149 20 := by rw [eS_275]; exact (kd_nA (k := 14) (n := 16) hq_272 hm_253 hk_254)
  have hn_281 : Ln S_274 q_149 16 := by rw [eS_275]; exact (ln_nA (k := 14) hq_272 hm_253 hn_255)
  have hz_282 : ∀ j, aI S_274 q_149 j = 0 := by rw [eS_275]; exact (fun j9 => rd_nAI (k := 14) (n := 16) hq_272 hm_253 (hz_256 j9))
  have hm_283 : q_244 ∈ hL S_274 := by rw [eS_275]; exact (mem_old hm_257)
  have hk_284 : Kd S_274 q_244 13 := by rw [eS_275]; exact (kd_nA (k := 14) (n := 16) hq_272 hm_257 hk_258)
  have hn_285 : Ln S_274 q_244 24000 := by rw [eS_275]; exact (ln_nA (k := 14) hq_272 hm_257 hn_259)
  have hz_286 : ∀ j, aI S_274 q_244 j = 0 := by rw [eS_275]; exact (fun j9 => rd_nAI (k := 14) (n := 16) hq_272 hm_257 (hz_260 j9))
  have hm_287 : q_271 ∈ hL S_274 := by rw [eS_275]; exact mem_new
  have hk_288 : Kd S_274 q_271 14 := by rw [eS_275]; exact (kd_nA' (k := 14) (n := 16))
  have hn_289 : Ln S_274 q_271 16 := by rw [eS_275]; exact (ln_nA' (k := 14))
  have hz_290 : ∀ j, aI S_274 q_271 j = 0 := by rw [eS_275]; exact (fun j9 => rd_nAI' (k := 14) (n := 16))
  have hv_291 : hR S_274 901 h = (some q_1) := by rw [eS_275]; exact (rd_sRf (S := (nA S_248 q_271 14 16)) (g := 908) (a := h) (v := (some q_271)) (by decide) hv_261)
  have hv_292 : hR S_274 902 h = (some q_37) := by rw [eS_275]; exact (rd_sRf (S := (nA S_248 q_271 14 16)) (g := 908) (a := h) (v := (some q_271)) (by decide) hv_262)
  have hv_293 : hR S_274 903 h = (some q_118) := by rw [eS_275]; exact (rd_sRf (S := (nA S_248 q_271 14 16)) (g := 908) (a := h) (v := (some q_271)) (by decide) hv_263)
  have hv_294 : hR S_274 904 h = (some q_149) := by rw [eS_275]; exact (rd_sRf (S := (nA S_248 q_271 14 16)) (g := 908) (a := h) (v := (some q_271)) (by decide) hv_264)
  have hv_295 : hR S_274 905 h = (some q_169) := by rw [eS_275]; exact (rd_sRf (S := (nA S_248 q_271 14 16)) (g := 908) (a := h) (v := (some q_271)) (by decide) hv_265)
  have hv_296 : hR S_274 906 h = (some q_206) := by rw [eS_275]; exact (rd_sRf (S := (nA S_248 q_271 14 16)) (g := 908) (a := h) (v := (some q_271)) (by decide) hv_266)
  have hv_297 : hR S_274 907 h = (some q_244) := by rw [eS_275]; exact (rd_sRf (S := (nA S_248 q_271 14 16)) (g := 908) (a := h) (v := (some q_271)) (by decide) hv_267)
  have hv_298 : hR S_274 908 h = (some q_271) := by rw [eS_275]; exact (rd_sR (S := (nA S_248 q_271 14 16)) (g := 908) (a := h) (v := (some q_271)))
  have hf_299 : Fm (fun _ _ => False) (fun f9 b9 => b9 = h) (fun _ => False) S S_274 := by rw [eS_275]; exact hf_276
  have hN_300 : NL S [q_1, q_5, q_6, q_37, q_43, q_44, q_45, q_46, q_47, q_48, q_49, q_50, q_118, q_124, q_149, q_169, q_174, q_206, q_212, q_244, q_271] S_274 := by rw [eS_275]; exact (NL.sR (S := (nA S_248 q_271 14 16)) (show NL S [q_1, q_5, q_6, q_37, q_43, q_44, q_45, q_46, q_47, q_48, q_49, q_50, q_118, q_124, q_149, q_169, q_174, q_206, q_212, q_244, q_271] (nA S_248 q_271 14 16) from NL.nA hN_269 hq_272 hz_273))
  have hG_301 : Gs h [(3, [q_1, q_5, q_6]), (4, [q_37, q_43, q_44, q_45, q_46, q_47, q_48, q_49, q_50]), (0, [q_118, q_124]), (1, [q_169, q_174]), (0, [q_206, q_212])] S_274 := by rw [eS_275]; exact (Gs.sR (S := (nA S_248 q_271 14 16)) (show Gs h [(3, [q_1, q_5, q_6]), (4, [q_37, q_43, q_44, q_45, q_46, q_47, q_48, q_49, q_50]), (0, [q_118, q_124]), (1, [q_169, q_174]), (0, [q_206, q_212])] (nA S_248 q_271 14 16) from Gs.nA hG_270 hq_272))
  refine j_new (N := 21) C (ci := 1) rfl rfl klX9_54 knX1 kiX1 (M.cells (by decide)) (M.slots (by decide)) dX9_init_86 (fun q_302 hq_303 => ?_)
  have hz_304 : q_302 ∉ hL S := fun h9 => hq_303 (hf_299.mem h9)
  have gn_305 : ∀ g9 ∈ ([(3, [q_1, q_5, q_6]), (4, [q_37, q_43, q_44, q_45, q_46, q_47, q_48, q_49, q_50]), (0, [q_118, q_124]), (1, [q_169, q_174]), (0, [q_206, q_212])] : List (Nat × List Nat)), ∀ p9 ∈ (gT g9.1).2.2, g9.2.getD p9.2.1 0 ≠ q_302 := Gs.ne hG_301 hq_303
  refine j_dup C dX9_init_89 rfl ?_
  have hf_306 : Fm (fun _ _ => False) (fun f9 b9 => b9 = h) (fun _ => False) S (nO S_274 q_302 1) := (hf_299.nO _ hq_303)
  refine j_callI C [] [.ref q_302, .ref h] mlX9_56 mcX1_init (c_X1_init (nO S_274 q_302 1) q_302 mem_new (kd_nO' (k := 1))) (M.rm (by decide) (by decide) (Nat.le_of_ble_eq_true rfl) (Nat.le_of_ble_eq_true rfl)) rfl rfl (Nat.le_of_ble_eq_true rfl) dX9_init_90 (fun r_353 S_354 hp_355 => ?_)
  obtain ⟨rfl, hf_356, q_307, q_308, q_309, q_310, q_311, q_312, q_313, q_314, e_315, e_316, e_317, e_318, e_319, e_320, e_321, e_322, e_323, e_324, e_325, e_326, e_327, e_328, e_329, e_330, e_331, e_332, e_333, e_334, e_335, e_336, e_337, e_338, e_339, e_340, e_341, e_342, e_343, e_344, e_345, e_346, e_347, e_348, e_349, e_350, e_351, hNl_352⟩ := hp_355
  refine J.eq (st' := [.ref q_302, .ref h]) rfl rfl rfl ?_
  have hz_357 : ∀ j, aI S_354 q_149 j = 0 := fun j9 => (hf_356.ai (mem_old hm_279) (fun h9 => h9) j9).trans (hz_282 j9)
  have hz_358 : ∀ j, aI S_354 q_244 j = 0 := fun j9 => (hf_356.ai (mem_old hm_283) (fun h9 => h9) j9).trans (hz_286 j9)
  have hz_359 : ∀ j, aI S_354 q_271 j = 0 := fun j9 => (hf_356.ai (mem_old hm_287) (fun h9 => h9) j9).trans (hz_290 j9)
  have hm_360 : h ∈ hL S_354 := hf_356.mem (mem_old hm_277)
  have hk_361 : Kd S_354 h 9 := hf_356.kd (mem_old hm_277) (kd_nO (k := 1) hq_303 hm_277 hk_278)
  have hm_362 : q_149 ∈ hL S_354 := hf_356.mem (mem_old hm_279)
  have hk_363 : Kd S_354 q_149 20 := hf_356.kd (mem_old hm_279) (kd_nO (k := 1) hq_303 hm_279 hk_280)
  have hn_364 : Ln S_354 q_149 16 := hf_356.ln (mem_old hm_279) hn_281
  have hm_365 : q_244 ∈ hL S_354 := hf_356.mem (mem_old hm_283)
  have hk_366 : Kd S_354 q_244 13 := hf_356.kd (mem_old hm_283) (kd_nO (k := 1) hq_303 hm_283 hk_284)
  have hn_367 : Ln S_354 q_244 24000 := hf_356.ln (mem_old hm_283) hn_285
  have hm_368 : q_271 ∈ hL S_354 := hf_356.mem (mem_old hm_287)
  have hk_369 : Kd S_354 q_271 14 := hf_356.kd (mem_old hm_287) (kd_nO (k := 1) hq_303 hm_287 hk_288)
  have hn_370 : Ln S_354 q_271 16 := hf_356.ln (mem_old hm_287) hn_289
  have hm_371 : q_302 ∈ hL S_354 := hf_356.mem mem_new
  have hk_372 : Kd S_354 q_302 1 := hf_356.kd mem_new (kd_nO' (k := 1))
  have hv_373 : hR S_354 901 h = (some q_1) := hf_356.fr (mem_old hm_277) (fun q9 => (fun e9 => absurd (((kd_nO (k := 1) hq_303 hm_277 hk_278)).symm.trans ((congrArg (hK _) e9).trans (kd_nO' (k := 1)))) (by decide)) q9) (rd_nOR (k := 1) hq_303 hm_277 hv_291)
  have hv_374 : hR S_354 902 h = (some q_37) := hf_356.fr (mem_old hm_277) (fun q9 => (fun e9 => absurd (((kd_nO (k := 1) hq_303 hm_277 hk_278)).symm.trans ((congrArg (hK _) e9).trans (kd_nO' (k := 1)))) (by decide)) q9) (rd_nOR (k := 1) hq_303 hm_277 hv_292)
  have hv_375 : hR S_354 903 h = (some q_118) := hf_356.fr (mem_old hm_277) (fun q9 => (fun e9 => absurd (((kd_nO (k := 1) hq_303 hm_277 hk_278)).symm.trans ((congrArg (hK _) e9).trans (kd_nO' (k := 1)))) (by decide)) q9) (rd_nOR (k := 1) hq_303 hm_277 hv_293)
  have hv_376 : hR S_354 904 h = (some q_149) := hf_356.fr (mem_old hm_277) (fun q9 => (fun e9 => absurd (((kd_nO (k := 1) hq_303 hm_277 hk_278)).symm.trans ((congrArg (hK _) e9).trans (kd_nO' (k := 1)))) (by decide)) q9) (rd_nOR (k := 1) hq_303 hm_277 hv_294)
  have hv_377 : hR S_354 905 h = (some q_169) := hf_356.fr (mem_old hm_277) (fun q9 => (fun e9 => absurd (((kd_nO (k := 1) hq_303 hm_277 hk_278)).symm.trans ((congrArg (hK _) e9).trans (kd_nO' (k := 1)))) (by decide)) q9) (rd_nOR (k := 1) hq_303 hm_277 hv_295)
  have hv_378 : hR S_354 906 h = (some q_206) := hf_356.fr (mem_old hm_277) (fun q9 => (fun e9 => absurd (((kd_nO (k := 1) hq_303 hm_277 hk_278)).symm.trans ((congrArg (hK _) e9).trans (kd_nO' (k := 1)))) (by decide)) q9) (rd_nOR (k := 1) hq_303 hm_277 hv_296)
  have hv_379 : hR S_354 907 h = (some q_244) := hf_356.fr (mem_old hm_277) (fun q9 => (fun e9 => absurd (((kd_nO (k := 1) hq_303 hm_277 hk_278)).symm.trans ((congrArg (hK _) e9).trans (kd_nO' (k := 1)))) (by decide)) q9) (rd_nOR (k := 1) hq_303 hm_277 hv_297)
  have hv_380 : hR S_354 908 h = (some q_271) := hf_356.fr (mem_old hm_277) (fun q9 => (fun e9 => absurd (((kd_nO (k := 1) hq_303 hm_277 hk_278)).symm.trans ((congrArg (hK _) e9).trans (kd_nO' (k := 1)))) (by decide)) q9) (rd_nOR (k := 1) hq_303 hm_277 hv_298)
  have hf_381 : Fm (fun _ _ => False) (fun f9 b9 => b9 = h) (fun _ => False) S S_354 := hf_306.then hf_356 (fun a9 ha9 => ⟨(fun f9 h9 => h9.elim), (fun f9 h9 => (fun h8 => absurd (h8 ▸ ha9) hz_304) h9), (fun h9 => h9.elim)⟩)
  have hN_382 : NL S [q_1, q_5, q_6, q_37, q_43, q_44, q_45, q_46, q_47, q_48, q_49, q_50, q_118, q_124, q_149, q_169, q_174, q_206, q_212, q_244, q_271, q_302] S_354 := NL.mono (show NL S [q_1, q_5, q_6, q_37, q_43, q_44, q_45, q_46, q_47, q_48, q_49, q_50, q_118, q_124, q_149, q_169, q_174, q_206, q_212, q_244, q_271, q_302] (nO S_274 q_302 1) from NL.nO hN_300 hq_303 hz_304) (fun a9 h9 => hf_356.mem h9)
  have hG_383 : Gs h [(3, [q_1, q_5, q_6]), (4, [q_37, q_43, q_44, q_45, q_46, q_47, q_48, q_49, q_50]), (0, [q_118, q_124]), (1, [q_169, q_174]), (0, [q_206, q_212])] S_354 := Gs.fm (show Gs h [(3, [q_1, q_5, q_6]), (4, [q_37, q_43, q_44, q_45, q_46, q_47, q_48, q_49, q_50]), (0, [q_118, q_124]), (1, [q_169, q_174]), (0, [q_206, q_212])] (nO S_274 q_302 1) from Gs.nO hG_301 hq_303) hf_356 (fun g9 hg9 p9 hp9 => gn_305 g9 hg9 p9 hp9)
  have hz_384 : q_307 ∉ hL S := fun h9 => e_315 (hf_306.mem h9)
  have hz_385 : q_308 ∉ hL S := fun h9 => e_319 (hf_306.mem h9)
  have hz_386 : q_309 ∉ hL S := fun h9 => e_324 (hf_306.mem h9)
  have hz_387 : q_310 ∉ hL S := fun h9 => e_328 (hf_306.mem h9)
  have hz_388 : q_311 ∉ hL S := fun h9 => e_333 (hf_306.mem h9)
  have hz_389 : q_312 ∉ hL S := fun h9 => e_337 (hf_306.mem h9)
  have hz_390 : q_313 ∉ hL S := fun h9 => e_342 (hf_306.mem h9)
  have hz_391 : q_314 ∉ hL S := fun h9 => e_347 (hf_306.mem h9)
  have hN_392 : NL S [q_1, q_5, q_6, q_37, q_43, q_44, q_45, q_46, q_47, q_48, q_49, q_50, q_118, q_124, q_149, q_169, q_174, q_206, q_212, q_244, q_271, q_302, q_307, q_308, q_309, q_310, q_311, q_312, q_313, q_314] S_354 := NL.app (show NL S [q_1, q_5, q_6, q_37, q_43, q_44, q_45, q_46, q_47, q_48, q_49, q_50, q_118, q_124, q_149, q_169, q_174, q_206, q_212, q_244, q_271, q_302] (nO S_274 q_302 1) from NL.nO hN_300 hq_303 hz_304) hNl_352 (fun a9 h9 => hf_356.mem h9) (fun a9 h9 => hf_306.mem h9)
  have hGt_393 : Gt 2 [q_302, q_307, q_308, q_309, q_310, q_311, q_312, q_313, q_314] S_354 := ⟨fun i9 k9 h9 => (match i9, h9 with | 0, h9 => (by have e9 : (1 : Nat) = k9 := Option.some.inj h9; subst e9; exact ⟨hm_371, hk_372⟩) | 1, h9 => (by have e9 : (7 : Nat) = k9 := Option.some.inj h9; subst e9; exact ⟨e_316, e_317⟩) | 2, h9 => (by have e9 : (14 : Nat) = k9 := Option.some.inj h9; subst e9; exact ⟨e_320, e_321⟩) | 3, h9 => (by have e9 : (4 : Nat) = k9 := Option.some.inj h9; subst e9; exact ⟨e_325, e_326⟩) | 4, h9 => (by have e9 : (14 : Nat) = k9 := Option.some.inj h9; subst e9; exact ⟨e_329, e_330⟩) | 5, h9 => (by have e9 : (10 : Nat) = k9 := Option.some.inj h9; subst e9; exact ⟨e_334, e_335⟩) | 6, h9 => (by have e9 : (15 : Nat) = k9 := Option.some.inj h9; subst e9; exact ⟨e_338, e_339⟩) | 7, h9 => (by have e9 : (14 : Nat) = k9 := Option.some.inj h9; subst e9; exact ⟨e_343, e_344⟩) | 8, h9 => (by have e9 : (14 : Nat) = k9 := Option.some.inj h9; subst e9; exact ⟨e_348, e_349⟩) | i9 + 9, h9 => absurd h9 (by simp [gT])), (List.forall_mem_cons.mpr ⟨e_322, (List.forall_mem_cons.mpr ⟨e_331, (List.forall_mem_cons.mpr ⟨e_340, (List.forall_mem_cons.mpr ⟨e_345, (List.forall_mem_cons.mpr ⟨e_350, (fun _ h9 => absurd h9 List.not_mem_nil)⟩)⟩)⟩)⟩)⟩), (List.forall_mem_cons.mpr ⟨e_318, (List.forall_mem_cons.mpr ⟨e_323, (List.forall_mem_cons.mpr ⟨e_327, (List.forall_mem_cons.mpr ⟨e_332, (List.forall_mem_cons.mpr ⟨e_336, (List.forall_mem_cons.mpr ⟨e_341, (List.forall_mem_cons.mpr ⟨e_346, (List.forall_mem_cons.mpr ⟨e_351, (fun _ h9 => absurd h9 List.not_mem_nil)⟩)⟩)⟩)⟩)⟩)⟩)⟩)⟩), (fun _ h9 => absurd h9 List.not_mem_nil)⟩
  have hG_394 : Gs h [(3, [q_1, q_5, q_6]), (4, [q_37, q_43, q_44, q_45, q_46, q_47, q_48, q_49, q_50]), (0, [q_118, q_124]), (1, [q_169, q_174]), (0, [q_206, q_212]), (2, [q_302, q_307, q_308, q_309, q_310, q_311, q_312, q_313, q_314])] S_354 := Gs.snoc hG_383 (by decide) hGt_393 (List.forall_mem_cons.mpr ⟨(fun e9 => hz_304 (e9 ▸ hm)), (List.forall_mem_cons.mpr ⟨(fun e9 => hz_384 (e9 ▸ hm)), (List.forall_mem_cons.mpr ⟨(fun e9 => hz_304 (e9 ▸ hm)), (List.forall_mem_cons.mpr ⟨(fun e9 => hz_386 (e9 ▸ hm)), (List.forall_mem_cons.mpr ⟨(fun e9 => hz_304 (e9 ▸ hm)), (List.forall_mem_cons.mpr ⟨(fun e9 => hz_388 (e9 ▸ hm)), (List.forall_mem_cons.mpr ⟨(fun e9 => hz_304 (e9 ▸ hm)), (List.forall_mem_cons.mpr ⟨(fun e9 => hz_304 (e9 ▸ hm)), (fun _ h9 => absurd h9 List.not_mem_nil)⟩)⟩)⟩)⟩)⟩)⟩)⟩)⟩)
  refine j_putrF (f := 909) C hm9 flX9_57o (by decide) rfl rfl dX9_init_93 hm_360 hk_361 rfl ?_
  refine j_aload_n C dX9_init_96 rfl 0 rfl ?_
  have hf_397 : Fm (fun _ _ => False) (fun f9 b9 => b9 = h) (fun _ => False) S (sR S_354 909 h (some q_302)) := (hf_381.sR _ (fun _ => rfl))
  refine j_new (N := 21) C (ci := 1) rfl rfl klX9_54 knX1 kiX1 (M.cells (by decide)) (M.slots (by decide)) dX9_init_97 (fun q_395 hq_396 => ?_)
  have hz_398 : q_395 ∉ hL S := fun h9 => hq_396 (hf_397.mem h9)
  have gn_399 : ∀ g9 ∈ ([(3, [q_1, q_5, q_6]), (4, [q_37, q_43, q_44, q_45, q_46, q_47, q_48, q_49, q_50]), (0, [q_118, q_124]), (1, [q_169, q_174]), (0, [q_206, q_212]), (2, [q_302, q_307, q_308, q_309, q_310, q_311, q_312, q_313, q_314])] : List (Nat × List Nat)), ∀ p9 ∈ (gT g9.1).2.2, g9.2.getD p9.2.1 0 ≠ q_395 := Gs.ne (Gs.sR (S := S_354) hG_394) hq_396
  refine j_dup C dX9_init_100 rfl ?_
  have hf_400 : Fm (fun _ _ => False) (fun f9 b9 => b9 = h) (fun _ => False) S (nO (sR S_354 909 h (some q_302)) q_395 1) := (hf_397.nO _ hq_396)
  refine j_callI C [] [.ref q_395, .ref h] mlX9_56 mcX1_init (c_X1_init (nO (sR S_354 909 h (some q_302)) q_395 1) q_395 mem_new (kd_nO' (k := 1))) (M.rm (by decide) (by decide) (Nat.le_of_ble_eq_true rfl) (Nat.le_of_ble_eq_true rfl)) rfl rfl (Nat.le_of_ble_eq_true rfl) dX9_init_101 (fun r_447 S_448 hp_449 => ?_)
  obtain ⟨rfl, hf_450, q_401, q_402, q_403, q_404, q_405, q_406, q_407, q_408, e_409, e_410, e_411, e_412, e_413, e_414, e_415, e_416, e_417, e_418, e_419, e_420, e_421, e_422, e_423, e_424, e_425, e_426, e_427, e_428, e_429, e_430, e_431, e_432, e_433, e_434, e_435, e_436, e_437, e_438, e_439, e_440, e_441, e_442, e_443, e_444, e_445, hNl_446⟩ := hp_449
  refine J.eq (st' := [.ref q_395, .ref h]) rfl rfl rfl ?_
  have hz_451 : ∀ j, aI S_448 q_149 j = 0 := fun j9 => (hf_450.ai (mem_old hm_362) (fun h9 => h9) j9).trans (hz_357 j9)
  have hz_452 : ∀ j, aI S_448 q_244 j = 0 := fun j9 => (hf_450.ai (mem_old hm_365) (fun h9 => h9) j9).trans (hz_358 j9)
  have hz_453 : ∀ j, aI S_448 q_271 j = 0 := fun j9 => (hf_450.ai (mem_old hm_368) (fun h9 => h9) j9).trans (hz_359 j9)
  have hm_454 : h ∈ hL S_448 := hf_450.mem (mem_old hm_360)
  have hk_455 : Kd S_448 h 9 := hf_450.kd (mem_old hm_360) (kd_nO (k := 1) hq_396 hm_360 hk_361)
  have hm_456 : q_149 ∈ hL S_448 := hf_450.mem (mem_old hm_362)
  have hk_457 : Kd S_448 q_149 20 := hf_450.kd (mem_old hm_362) (kd_nO (k := 1) hq_396 hm_362 hk_363)
  have hn_458 : Ln S_448 q_149 16 := hf_450.ln (mem_old hm_362) hn_364
  have hm_459 : q_244 ∈ hL S_448 := hf_450.mem (mem_old hm_365)
  have hk_460 : Kd S_448 q_244 13 := hf_450.kd (mem_old hm_365) (kd_nO (k := 1) hq_396 hm_365 hk_366)
  have hn_461 : Ln S_448 q_244 24000 := hf_450.ln (mem_old hm_365) hn_367
  have hm_462 : q_271 ∈ hL S_448 := hf_450.mem (mem_old hm_368)
  have hk_463 : Kd S_448 q_271 14 := hf_450.kd (mem_old hm_368) (kd_nO (k := 1) hq_396 hm_368 hk_369)
  have hn_464 : Ln S_448 q_271 16 := hf_450.ln (mem_old hm_368) hn_370
  have hm_465 : q_395 ∈ hL S_448 := hf_450.mem mem_new
  have hk_466 : Kd S_448 q_395 1 := hf_450.kd mem_new (kd_nO' (k := 1))
  have hv_467 : hR S_448 901 h = (some q_1) := hf_450.fr (mem_old hm_360) (fun q9 => (fun e9 => absurd (((kd_nO (k := 1) hq_396 hm_360 hk_361)).symm.trans ((congrArg (hK _) e9).trans (kd_nO' (k := 1)))) (by decide)) q9) (rd_nOR (k := 1) hq_396 hm_360 (rd_sRf (S := S_354) (g := 909) (a := h) (v := (some q_302)) (by decide) hv_373))
  have hv_468 : hR S_448 902 h = (some q_37) := hf_450.fr (mem_old hm_360) (fun q9 => (fun e9 => absurd (((kd_nO (k := 1) hq_396 hm_360 hk_361)).symm.trans ((congrArg (hK _) e9).trans (kd_nO' (k := 1)))) (by decide)) q9) (rd_nOR (k := 1) hq_396 hm_360 (rd_sRf (S := S_354) (g := 909) (a := h) (v := (some q_302)) (by decide) hv_374))
  have hv_469 : hR S_448 903 h = (some q_118) := hf_450.fr (mem_old hm_360) (fun q9 => (fun e9 => absurd (((kd_nO (k := 1) hq_396 hm_360 hk_361)).symm.trans ((congrArg (hK _) e9).trans (kd_nO' (k := 1)))) (by decide)) q9) (rd_nOR (k := 1) hq_396 hm_360 (rd_sRf (S := S_354) (g := 909) (a := h) (v := (some q_302)) (by decide) hv_375))
  have hv_470 : hR S_448 904 h = (some q_149) := hf_450.fr (mem_old hm_360) (fun q9 => (fun e9 => absurd (((kd_nO (k := 1) hq_396 hm_360 hk_361)).symm.trans ((congrArg (hK _) e9).trans (kd_nO' (k := 1)))) (by decide)) q9) (rd_nOR (k := 1) hq_396 hm_360 (rd_sRf (S := S_354) (g := 909) (a := h) (v := (some q_302)) (by decide) hv_376))
  have hv_471 : hR S_448 905 h = (some q_169) := hf_450.fr (mem_old hm_360) (fun q9 => (fun e9 => absurd (((kd_nO (k := 1) hq_396 hm_360 hk_361)).symm.trans ((congrArg (hK _) e9).trans (kd_nO' (k := 1)))) (by decide)) q9) (rd_nOR (k := 1) hq_396 hm_360 (rd_sRf (S := S_354) (g := 909) (a := h) (v := (some q_302)) (by decide) hv_377))
  have hv_472 : hR S_448 906 h = (some q_206) := hf_450.fr (mem_old hm_360) (fun q9 => (fun e9 => absurd (((kd_nO (k := 1) hq_396 hm_360 hk_361)).symm.trans ((congrArg (hK _) e9).trans (kd_nO' (k := 1)))) (by decide)) q9) (rd_nOR (k := 1) hq_396 hm_360 (rd_sRf (S := S_354) (g := 909) (a := h) (v := (some q_302)) (by decide) hv_378))
  have hv_473 : hR S_448 907 h = (some q_244) := hf_450.fr (mem_old hm_360) (fun q9 => (fun e9 => absurd (((kd_nO (k := 1) hq_396 hm_360 hk_361)).symm.trans ((congrArg (hK _) e9).trans (kd_nO' (k := 1)))) (by decide)) q9) (rd_nOR (k := 1) hq_396 hm_360 (rd_sRf (S := S_354) (g := 909) (a := h) (v := (some q_302)) (by decide) hv_379))
  have hv_474 : hR S_448 908 h = (some q_271) := hf_450.fr (mem_old hm_360) (fun q9 => (fun e9 => absurd (((kd_nO (k := 1) hq_396 hm_360 hk_361)).symm.trans ((congrArg (hK _) e9).trans (kd_nO' (k := 1)))) (by decide)) q9) (rd_nOR (k := 1) hq_396 hm_360 (rd_sRf (S := S_354) (g := 909) (a := h) (v := (some q_302)) (by decide) hv_380))
  have hv_475 : hR S_448 909 h = (some q_302) := hf_450.fr (mem_old hm_360) (fun q9 => (fun e9 => absurd (((kd_nO (k := 1) hq_396 hm_360 hk_361)).symm.trans ((congrArg (hK _) e9).trans (kd_nO' (k := 1)))) (by decide)) q9) (rd_nOR (k := 1) hq_396 hm_360 (rd_sR (S := S_354) (g := 909) (a := h) (v := (some q_302))))
  have hf_476 : Fm (fun _ _ => False) (fun f9 b9 => b9 = h) (fun _ => False) S S_448 := hf_400.then hf_450 (fun a9 ha9 => ⟨(fun f9 h9 => h9.elim), (fun f9 h9 => (fun h8 => absurd (h8 ▸ ha9) hz_398) h9), (fun h9 => h9.elim)⟩)
  have hN_477 : NL S [q_1, q_5, q_6, q_37, q_43, q_44, q_45, q_46, q_47, q_48, q_49, q_50, q_118, q_124, q_149, q_169, q_174, q_206, q_212, q_244, q_271, q_302, q_307, q_308, q_309, q_310, q_311, q_312, q_313, q_314, q_395] S_448 := NL.mono (show NL S [q_1, q_5, q_6, q_37, q_43, q_44, q_45, q_46, q_47, q_48, q_49, q_50, q_118, q_124, q_149, q_169, q_174, q_206, q_212, q_244, q_271, q_302, q_307, q_308, q_309, q_310, q_311, q_312, q_313, q_314, q_395] (nO (sR S_354 909 h (some q_302)) q_395 1) from NL.nO (NL.sR (S := S_354) hN_392) hq_396 hz_398) (fun a9 h9 => hf_450.mem h9)
  have hG_478 : Gs h [(3, [q_1, q_5, q_6]), (4, [q_37, q_43, q_44, q_45, q_46, q_47, q_48, q_49, q_50]), (0, [q_118, q_124]), (1, [q_169, q_174]), (0, [q_206, q_212]), (2, [q_302, q_307, q_308, q_309, q_310, q_311, q_312, q_313, q_314])] S_448 := Gs.fm (show Gs h [(3, [q_1, q_5, q_6]), (4, [q_37, q_43, q_44, q_45, q_46, q_47, q_48, q_49, q_50]), (0, [q_118, q_124]), (1, [q_169, q_174]), (0, [q_206, q_212]), (2, [q_302, q_307, q_308, q_309, q_310, q_311, q_312, q_313, q_314])] (nO (sR S_354 909 h (some q_302)) q_395 1) from Gs.nO (Gs.sR (S := S_354) hG_394) hq_396) hf_450 (fun g9 hg9 p9 hp9 => gn_399 g9 hg9 p9 hp9)
  have hz_479 : q_401 ∉ hL S := fun h9 => e_409 (hf_400.mem h9)
  have hz_480 : q_402 ∉ hL S := fun h9 => e_413 (hf_400.mem h9)
  have hz_481 : q_403 ∉ hL S := fun h9 => e_418 (hf_400.mem h9)
  have hz_482 : q_404 ∉ hL S := fun h9 => e_422 (hf_400.mem h9)
  have hz_483 : q_405 ∉ hL S := fun h9 => e_427 (hf_400.mem h9)
  have hz_484 : q_406 ∉ hL S := fun h9 => e_431 (hf_400.mem h9)
  have hz_485 : q_407 ∉ hL S := fun h9 => e_436 (hf_400.mem h9)
  have hz_486 : q_408 ∉ hL S := fun h9 => e_441 (hf_400.mem h9)
  have hN_487 : NL S [q_1, q_5, q_6, q_37, q_43, q_44, q_45, q_46, q_47, q_48, q_49, q_50, q_118, q_124, q_149, q_169, q_174, q_206, q_212, q_244, q_271, q_302, q_307, q_308, q_309, q_310, q_311, q_312, q_313, q_314, q_395, q_401, q_402, q_403, q_404, q_405, q_406, q_407, q_408] S_448 := NL.app (show NL S [q_1, q_5, q_6, q_37, q_43, q_44, q_45, q_46, q_47, q_48, q_49, q_50, q_118, q_124, q_149, q_169, q_174, q_206, q_212, q_244, q_271, q_302, q_307, q_308, q_309, q_310, q_311, q_312, q_313, q_314, q_395] (nO (sR S_354 909 h (some q_302)) q_395 1) from NL.nO (NL.sR (S := S_354) hN_392) hq_396 hz_398) hNl_446 (fun a9 h9 => hf_450.mem h9) (fun a9 h9 => hf_400.mem h9)
  have hGt_488 : Gt 2 [q_395, q_401, q_402, q_403, q_404, q_405, q_406, q_407, q_408] S_448 := ⟨fun i9 k9 h9 => (match i9, h9 with | 0, h9 => (by have e9 : (1 : Nat) = k9 := Option.some.inj h9; subst e9; exact ⟨hm_465, hk_466⟩) | 1, h9 => (by have e9 : (7 : Nat) = k9 := Option.some.inj h9; subst e9; exact ⟨e_410, e_411⟩) | 2, h9 => (by have e9 : (14 : Nat) = k9 := Option.some.inj h9; subst e9; exact ⟨e_414, e_415⟩) | 3, h9 => (by have e9 : (4 : Nat) = k9 := Option.some.inj h9; subst e9; exact ⟨e_419, e_420⟩) | 4, h9 => (by have e9 : (14 : Nat) = k9 := Option.some.inj h9; subst e9; exact ⟨e_423, e_424⟩) | 5, h9 => (by have e9 : (10 : Nat) = k9 := Option.some.inj h9; subst e9; exact ⟨e_428, e_429⟩) | 6, h9 => (by have e9 : (15 : Nat) = k9 := Option.some.inj h9; subst e9; exact ⟨e_432, e_433⟩) | 7, h9 => (by have e9 : (14 : Nat) = k9 := Option.some.inj h9; subst e9; exact ⟨e_437, e_438⟩) | 8, h9 => (by have e9 : (14 : Nat) = k9 := Option.some.inj h9; subst e9; exact ⟨e_442, e_443⟩) | i9 + 9, h9 => absurd h9 (by simp [gT])), (List.forall_mem_cons.mpr ⟨e_416, (List.forall_mem_cons.mpr ⟨e_425, (List.forall_mem_cons.mpr ⟨e_434, (List.forall_mem_cons.mpr ⟨e_439, (List.forall_mem_cons.mpr ⟨e_444, (fun _ h9 => absurd h9 List.not_mem_nil)⟩)⟩)⟩)⟩)⟩), (List.forall_mem_cons.mpr ⟨e_412, (List.forall_mem_cons.mpr ⟨e_417, (List.forall_mem_cons.mpr ⟨e_421, (List.forall_mem_cons.mpr ⟨e_426, (List.forall_mem_cons.mpr ⟨e_430, (List.forall_mem_cons.mpr ⟨e_435, (List.forall_mem_cons.mpr ⟨e_440, (List.forall_mem_cons.mpr ⟨e_445, (fun _ h9 => absurd h9 List.not_mem_nil)⟩)⟩)⟩)⟩)⟩)⟩)⟩)⟩), (fun _ h9 => absurd h9 List.not_mem_nil)⟩
  have hG_489 : Gs h [(3, [q_1, q_5, q_6]), (4, [q_37, q_43, q_44, q_45, q_46, q_47, q_48, q_49, q_50]), (0, [q_118, q_124]), (1, [q_169, q_174]), (0, [q_206, q_212]), (2, [q_302, q_307, q_308, q_309, q_310, q_311, q_312, q_313, q_314]), (2, [q_395, q_401, q_402, q_403, q_404, q_405, q_406, q_407, q_408])] S_448 := Gs.snoc hG_478 (by decide) hGt_488 (List.forall_mem_cons.mpr ⟨(fun e9 => hz_398 (e9 ▸ hm)), (List.forall_mem_cons.mpr ⟨(fun e9 => hz_479 (e9 ▸ hm)), (List.forall_mem_cons.mpr ⟨(fun e9 => hz_398 (e9 ▸ hm)), (List.forall_mem_cons.mpr ⟨(fun e9 => hz_481 (e9 ▸ hm)), (List.forall_mem_cons.mpr ⟨(fun e9 => hz_398 (e9 ▸ hm)), (List.forall_mem_cons.mpr ⟨(fun e9 => hz_483 (e9 ▸ hm)), (List.forall_mem_cons.mpr ⟨(fun e9 => hz_398 (e9 ▸ hm)), (List.forall_mem_cons.mpr ⟨(fun e9 => hz_398 (e9 ▸ hm)), (fun _ h9 => absurd h9 List.not_mem_nil)⟩)⟩)⟩)⟩)⟩)⟩)⟩)⟩)
  show J _ _ _ _ _ 104 _
  refine j_putrF (f := 910) C hm9 flX9_61o (by decide) rfl rfl dX9_init_104 hm_454 hk_455 rfl ?_
  refine j_aload_n C dX9_init_107 rfl 0 rfl ?_
  refine j_iconst (v := 3) C dX9_init_108 (by decide) ?_
  have hf_492 : Fm (fun _ _ => False) (fun f9 b9 => b9 = h) (fun _ => False) S (sR S_448 910 h (some q_395)) := (hf_476.sR _ (fun _ => rfl))
  refine j_newQ (N := 3) C 18 (by decide) rfl klX9_54 (gx_Environment C) (by decide) (by decide) (by decide) (M.cells (by decide)) (M.slots (by decide)) dX9_init_109 (fun q_490 hq_491 => ?_)
  have hz_493 : q_490 ∉ hL S := fun h9 => hq_491 (hf_492.mem h9)
  refine j_putrF (f := 911) C hm9 flX9_64o (by decide) rfl rfl dX9_init_112 (mem_old hm_454) (kd_nA (k := 18) (n := 3) hq_491 hm_454 hk_455) rfl ?_
  refine j_aload_n C dX9_init_115 rfl 0 rfl ?_
  refine j_iconst (v := 4) C dX9_init_116 (by decide) ?_
  have hf_496 : Fm (fun _ _ => False) (fun f9 b9 => b9 = h) (fun _ => False) S (sR (nA (sR S_448 910 h (some q_395)) q_490 18 3) 911 h (some q_490)) := ((hf_492.nA _ _ hq_491).sR _ (fun _ => rfl))
  obtain ⟨S_494, eS_495⟩ : ∃ S9 : Hp, S9 = (sR (nA (sR S_448 910 h (some q_395)) q_490 18 3) 911 h (some q_490)) := ⟨_, rfl⟩
  refine J.eq (S' := S_494) eS_495.symm rfl rfl ?_
  have hm_497 : h ∈ hL S_494 := by rw [eS_495]; exact (mem_old hm_454)
  have hk_498 : Kd S_494 h 9 := by rw [eS_495]; exact (kd_nA (k := 18) (n := 3) hq_491 hm_454 hk_455)
  have hm_499 : q_149 ∈ hL S_494 := by rw [eS_495]; exact (mem_old hm_456)
  have hk_500 : Kd S_494 q_149 20 := by rw [eS_495]; exact (kd_nA (k := 18) (n := 3) hq_491 hm_456 hk_457)
  have hn_501 : Ln S_494 q_149 16 := by rw [eS_495]; exact (ln_nA (k := 18) hq_491 hm_456 hn_458)
  have hz_502 : ∀ j, aI S_494 q_149 j = 0 := by rw [eS_495]; exact (fun j9 => rd_nAI (k := 18) (n := 3) hq_491 hm_456 (hz_451 j9))
  have hm_503 : q_244 ∈ hL S_494 := by rw [eS_495]; exact (mem_old hm_459)
  have hk_504 : Kd S_494 q_244 13 := by rw [eS_495]; exact (kd_nA (k := 18) (n := 3) hq_491 hm_459 hk_460)
  have hn_505 : Ln S_494 q_244 24000 := by rw [eS_495]; exact (ln_nA (k := 18) hq_491 hm_459 hn_461)
  have hz_506 : ∀ j, aI S_494 q_244 j = 0 := by rw [eS_495]; exact (fun j9 => rd_nAI (k := 18) (n := 3) hq_491 hm_459 (hz_452 j9))
  have hm_507 : q_271 ∈ hL S_494 := by rw [eS_495]; exact (mem_old hm_462)
  have hk_508 : Kd S_494 q_271 14 := by rw [eS_495]; exact (kd_nA (k := 18) (n := 3) hq_491 hm_462 hk_463)
  have hn_509 : Ln S_494 q_271 16 := by rw [eS_495]; exact (ln_nA (k := 18) hq_491 hm_462 hn_464)
  have hz_510 : ∀ j, aI S_494 q_271 j = 0 := by rw [eS_495]; exact (fun j9 => rd_nAI (k := 18) (n := 3) hq_491 hm_462 (hz_453 j9))
  have hm_511 : q_490 ∈ hL S_494 := by rw [eS_495]; exact mem_new
  have hk_512 : Kd S_494 q_490 18 := by rw [eS_495]; exact (kd_nA' (k := 18) (n := 3))
  have hn_513 : Ln S_494 q_490 3 := by rw [eS_495]; exact (ln_nA' (k := 18))
  have hz_514 : ∀ j, aI S_494 q_490 j = 0 := by rw [eS_495]; exact (fun j9 => rd_nAI' (k := 18) (n := 3))
  have hv_515 : hR S_494 901 h = (some q_1) := by rw [eS_495]; exact (rd_sRf (S := (nA (sR S_448 910 h (some q_395)) q_490 18 3)) (g := 911) (a := h) (v := (some q_490)) (by decide) (rd_sRf (S := S_448) (g := 910) (a := h) (v := (some q_395)) (by decide) hv_467))
  have hv_516 : hR S_494 902 h = (some q_37) := by rw [eS_495]; exact (rd_sRf (S := (nA (sR S_448 910 h (some q_395)) q_490 18 3)) (g := 911) (a := h) (v := (some q_490)) (by decide) (rd_sRf (S := S_448) (g := 910) (a := h) (v := (some q_395)) (by decide) hv_468))
  have hv_517 : hR S_494 903 h = (some q_118) := by rw [eS_495]; exact (rd_sRf (S := (nA (sR S_448 910 h (some q_395)) q_490 18 3)) (g := 911) (a := h) (v := (some q_490)) (by decide) (rd_sRf (S := S_448) (g := 910) (a := h) (v := (some q_395)) (by decide) hv_469))
  have hv_518 : hR S_494 904 h = (some q_149) := by rw [eS_495]; exact (rd_sRf (S := (nA (sR S_448 910 h (some q_395)) q_490 18 3)) (g := 911) (a := h) (v := (some q_490)) (by decide) (rd_sRf (S := S_448) (g := 910) (a := h) (v := (some q_395)) (by decide) hv_470))
  have hv_519 : hR S_494 905 h = (some q_169) := by rw [eS_495]; exact (rd_sRf (S := (nA (sR S_448 910 h (some q_395)) q_490 18 3)) (g := 911) (a := h) (v := (some q_490)) (by decide) (rd_sRf (S := S_448) (g := 910) (a := h) (v := (some q_395)) (by decide) hv_471))
  have hv_520 : hR S_494 906 h = (some q_206) := by rw [eS_495]; exact (rd_sRf (S := (nA (sR S_448 910 h (some q_395)) q_490 18 3)) (g := 911) (a := h) (v := (some q_490)) (by decide) (rd_sRf (S := S_448) (g := 910) (a := h) (v := (some q_395)) (by decide) hv_472))
  have hv_521 : hR S_494 907 h = (some q_244) := by rw [eS_495]; exact (rd_sRf (S := (nA (sR S_448 910 h (some q_395)) q_490 18 3)) (g := 911) (a := h) (v := (some q_490)) (by decide) (rd_sRf (S := S_448) (g := 910) (a := h) (v := (some q_395)) (by decide) hv_473))
  have hv_522 : hR S_494 908 h = (some q_271) := by rw [eS_495]; exact (rd_sRf (S := (nA (sR S_448 910 h (some q_395)) q_490 18 3)) (g := 911) (a := h) (v := (some q_490)) (by decide) (rd_sRf (S := S_448) (g := 910) (a := h) (v := (some q_395)) (by decide) hv_474))
  have hv_523 : hR S_494 909 h = (some q_302) := by rw [eS_495]; exact (rd_sRf (S := (nA (sR S_448 910 h (some q_395)) q_490 18 3)) (g := 911) (a := h) (v := (some q_490)) (by decide) (rd_sRf (S := S_448) (g := 910) (a := h) (v := (some q_395)) (by decide) hv_475))
  have hv_524 : hR S_494 910 h = (some q_395) := by rw [eS_495]; exact (rd_sRf (S := (nA (sR S_448 910 h (some q_395)) q_490 18 3)) (g := 911) (a := h) (v := (some q_490)) (by decide) (rd_sR (S := S_448) (g := 910) (a := h) (v := (some q_395))))
  have hv_525 : hR S_494 911 h = (some q_490) := by rw [eS_495]; exact (rd_sR (S := (nA (sR S_448 910 h (some q_395)) q_490 18 3)) (g := 911) (a := h) (v := (some q_490)))
  have hf_526 : Fm (fun _ _ => False) (fun f9 b9 => b9 = h) (fun _ => False) S S_494 := by rw [eS_495]; exact hf_496
  have hN_527 : NL S [q_1, q_5, q_6, q_37, q_43, q_44, q_45, q_46, q_47, q_48, q_49, q_50, q_118, q_124, q_149, q_169, q_174, q_206, q_212, q_244, q_271, q_302, q_307, q_308, q_309, q_310, q_311, q_312, q_313, q_314, q_395, q_401, q_402, q_403, q_404, q_405, q_406, q_407, q_408, q_490] S_494 := by rw [eS_495]; exact (NL.sR (S := (nA (sR S_448 910 h (some q_395)) q_490 18 3)) (show NL S [q_1, q_5, q_6, q_37, q_43, q_44, q_45, q_46, q_47, q_48, q_49, q_50, q_118, q_124, q_149, q_169, q_174, q_206, q_212, q_244, q_271, q_302, q_307, q_308, q_309, q_310, q_311, q_312, q_313, q_314, q_395, q_401, q_402, q_403, q_404, q_405, q_406, q_407, q_408, q_490] (nA (sR S_448 910 h (some q_395)) q_490 18 3) from NL.nA (NL.sR (S := S_448) hN_487) hq_491 hz_493))
  have hG_528 : Gs h [(3, [q_1, q_5, q_6]), (4, [q_37, q_43, q_44, q_45, q_46, q_47, q_48, q_49, q_50]), (0, [q_118, q_124]), (1, [q_169, q_174]), (0, [q_206, q_212]), (2, [q_302, q_307, q_308, q_309, q_310, q_311, q_312, q_313, q_314]), (2, [q_395, q_401, q_402, q_403, q_404, q_405, q_406, q_407, q_408])] S_494 := by rw [eS_495]; exact (Gs.sR (S := (nA (sR S_448 910 h (some q_395)) q_490 18 3)) (show Gs h [(3, [q_1, q_5, q_6]), (4, [q_37, q_43, q_44, q_45, q_46, q_47, q_48, q_49, q_50]), (0, [q_118, q_124]), (1, [q_169, q_174]), (0, [q_206, q_212]), (2, [q_302, q_307, q_308, q_309, q_310, q_311, q_312, q_313, q_314]), (2, [q_395, q_401, q_402, q_403, q_404, q_405, q_406, q_407, q_408])] (nA (sR S_448 910 h (some q_395)) q_490 18 3) from Gs.nA (Gs.sR (S := S_448) hG_489) hq_491))
  refine j_newQ (N := 4) C 19 (by decide) rfl klX9_68 (gx_Reading C) (by decide) (by decide) (by decide) (M.cells (by decide)) (M.slots (by decide)) dX9_init_117 (fun q_529 hq_530 => ?_)
  have hz_531 : q_529 ∉ hL S := fun h9 => hq_530 (hf_526.mem h9)
  show J _ _ _ _ _ 120 _
  refine j_putrF (f := 912) C hm9 flX9_70o (by decide) rfl rfl dX9_init_120 (mem_old hm_497) (kd_nA (k := 19) (n := 4) hq_530 hm_497 hk_498) rfl ?_
  refine j_aload_n C dX9_init_123 rfl 0 rfl ?_
  refine j_bipush (v := 12) C dX9_init_124 (by decide) ?_
  have hf_534 : Fm (fun _ _ => False) (fun f9 b9 => b9 = h) (fun _ => False) S (sR (nA S_494 q_529 19 4) 912 h (some q_529)) := ((hf_526.nA _ _ hq_530).sR _ (fun _ => rfl))
  obtain ⟨S_532, eS_533⟩ : ∃ S9 : Hp, S9 = (sR (nA S_494 q_529 19 4) 912 h (some q_529)) := ⟨_, rfl⟩
  refine J.eq (S' := S_532) eS_533.symm rfl rfl ?_
  have hm_535 : h ∈ hL S_532 := by rw [eS_533]; exact (mem_old hm_497)
  have hk_536 : Kd S_532 h 9 := by rw [eS_533]; exact (kd_nA (k := 19) (n := 4) hq_530 hm_497 hk_498)
  have hm_537 : q_149 ∈ hL S_532 := by rw [eS_533]; exact (mem_old hm_499)
  have hk_538 : Kd S_532 q_149 20 := by rw [eS_533]; exact (kd_nA (k := 19) (n := 4) hq_530 hm_499 hk_500)
  have hn_539 : Ln S_532 q_149 16 := by rw [eS_533]; exact (ln_nA (k := 19) hq_530 hm_499 hn_501)
  have hz_540 : ∀ j, aI S_532 q_149 j = 0 := by rw [eS_533]; exact (fun j9 => rd_nAI (k := 19) (n := 4) hq_530 hm_499 (hz_502 j9))
  have hm_541 : q_244 ∈ hL S_532 := by rw [eS_533]; exact (mem_old hm_503)
  have hk_542 : Kd S_532 q_244 13 := by rw [eS_533]; exact (kd_nA (k := 19) (n := 4) hq_530 hm_503 hk_504)
  have hn_543 : Ln S_532 q_244 24000 := by rw [eS_533]; exact (ln_nA (k := 19) hq_530 hm_503 hn_505)
  have hz_544 : ∀ j, aI S_532 q_244 j = 0 := by rw [eS_533]; exact (fun j9 => rd_nAI (k := 19) (n := 4) hq_530 hm_503 (hz_506 j9))
  have hm_545 : q_271 ∈ hL S_532 := by rw [eS_533]; exact (mem_old hm_507)
  have hk_546 : Kd S_532 q_271 14 := by rw [eS_533]; exact (kd_nA (k := 19) (n := 4) hq_530 hm_507 hk_508)
  have hn_547 : Ln S_532 q_271 16 := by rw [eS_533]; exact (ln_nA (k := 19) hq_530 hm_507 hn_509)
  have hz_548 : ∀ j, aI S_532 q_271 j = 0 := by rw [eS_533]; exact (fun j9 => rd_nAI (k := 19) (n := 4) hq_530 hm_507 (hz_510 j9))
  have hm_549 : q_490 ∈ hL S_532 := by rw [eS_533]; exact (mem_old hm_511)
  have hk_550 : Kd S_532 q_490 18 := by rw [eS_533]; exact (kd_nA (k := 19) (n := 4) hq_530 hm_511 hk_512)
  have hn_551 : Ln S_532 q_490 3 := by rw [eS_533]; exact (ln_nA (k := 19) hq_530 hm_511 hn_513)
  have hz_552 : ∀ j, aI S_532 q_490 j = 0 := by rw [eS_533]; exact (fun j9 => rd_nAI (k := 19) (n := 4) hq_530 hm_511 (hz_514 j9))
  have hm_553 : q_529 ∈ hL S_532 := by rw [eS_533]; exact mem_new
  have hk_554 : Kd S_532 q_529 19 := by rw [eS_533]; exact (kd_nA' (k := 19) (n := 4))
  have hn_555 : Ln S_532 q_529 4 := by rw [eS_533]; exact (ln_nA' (k := 19))
  have hz_556 : ∀ j, aI S_532 q_529 j = 0 := by rw [eS_533]; exact (fun j9 => rd_nAI' (k := 19) (n := 4))
  have hv_557 : hR S_532 901 h = (some q_1) := by rw [eS_533]; exact (rd_sRf (S := (nA S_494 q_529 19 4)) (g := 912) (a := h) (v := (some q_529)) (by decide) hv_515)
  have hv_558 : hR S_532 902 h = (some q_37) := by rw [eS_533]; exact (rd_sRf (S := (nA S_494 q_529 19 4)) (g := 912) (a := h) (v := (some q_529)) (by decide) hv_516)
  have hv_559 : hR S_532 903 h = (some q_118) := by rw [eS_533]; exact (rd_sRf (S := (nA S_494 q_529 19 4)) (g := 912) (a := h) (v := (some q_529)) (by decide) hv_517)
  have hv_560 : hR S_532 904 h = (some q_149) := by rw [eS_533]; exact (rd_sRf (S := (nA S_494 q_529 19 4)) (g := 912) (a := h) (v := (some q_529)) (by decide) hv_518)
  have hv_561 : hR S_532 905 h = (some q_169) := by rw [eS_533]; exact (rd_sRf (S := (nA S_494 q_529 19 4)) (g := 912) (a := h) (v := (some q_529)) (by decide) hv_519)
  have hv_562 : hR S_532 906 h = (some q_206) := by rw [eS_533]; exact (rd_sRf (S := (nA S_494 q_529 19 4)) (g := 912) (a := h) (v := (some q_529)) (by decide) hv_520)
  have hv_563 : hR S_532 907 h = (some q_244) := by rw [eS_533]; exact (rd_sRf (S := (nA S_494 q_529 19 4)) (g := 912) (a := h) (v := (some q_529)) (by decide) hv_521)
  have hv_564 : hR S_532 908 h = (some q_271) := by rw [eS_533]; exact (rd_sRf (S := (nA S_494 q_529 19 4)) (g := 912) (a := h) (v := (some q_529)) (by decide) hv_522)
  have hv_565 : hR S_532 909 h = (some q_302) := by rw [eS_533]; exact (rd_sRf (S := (nA S_494 q_529 19 4)) (g := 912) (a := h) (v := (some q_529)) (by decide) hv_523)
  have hv_566 : hR S_532 910 h = (some q_395) := by rw [eS_533]; exact (rd_sRf (S := (nA S_494 q_529 19 4)) (g := 912) (a := h) (v := (some q_529)) (by decide) hv_524)
  have hv_567 : hR S_532 911 h = (some q_490) := by rw [eS_533]; exact (rd_sRf (S := (nA S_494 q_529 19 4)) (g := 912) (a := h) (v := (some q_529)) (by decide) hv_525)
  have hv_568 : hR S_532 912 h = (some q_529) := by rw [eS_533]; exact (rd_sR (S := (nA S_494 q_529 19 4)) (g := 912) (a := h) (v := (some q_529)))
  have hf_569 : Fm (fun _ _ => False) (fun f9 b9 => b9 = h) (fun _ => False) S S_532 := by rw [eS_533]; exact hf_534
  have hN_570 : NL S [q_1, q_5, q_6, q_37, q_43, q_44, q_45, q_46, q_47, q_48, q_49, q_50, q_118, q_124, q_149, q_169, q_174, q_206, q_212, q_244, q_271, q_302, q_307, q_308, q_309, q_310, q_311, q_312, q_313, q_314, q_395, q_401, q_402, q_403, q_404, q_405, q_406, q_407, q_408, q_490, q_529] S_532 := by rw [eS_533]; exact (NL.sR (S := (nA S_494 q_529 19 4)) (show NL S [q_1, q_5, q_6, q_37, q_43, q_44, q_45, q_46, q_47, q_48, q_49, q_50, q_118, q_124, q_149, q_169, q_174, q_206, q_212, q_244, q_271, q_302, q_307, q_308, q_309, q_310, q_311, q_312, q_313, q_314, q_395, q_401, q_402, q_403, q_404, q_405, q_406, q_407, q_408, q_490, q_529] (nA S_494 q_529 19 4) from NL.nA hN_527 hq_530 hz_531))
  have hG_571 : Gs h [(3, [q_1, q_5, q_6]), (4, [q_37, q_43, q_44, q_45, q_46, q_47, q_48, q_49, q_50]), (0, [q_118, q_124]), (1, [q_169, q_174]), (0, [q_206, q_212]), (2, [q_302, q_307, q_308, q_309, q_310, q_311, q_312, q_313, q_314]), (2, [q_395, q_401, q_402, q_403, q_404, q_405, q_406, q_407, q_408])] S_532 := by rw [eS_533]; exact (Gs.sR (S := (nA S_494 q_529 19 4)) (show Gs h [(3, [q_1, q_5, q_6]), (4, [q_37, q_43, q_44, q_45, q_46, q_47, q_48, q_49, q_50]), (0, [q_118, q_124]), (1, [q_169, q_174]), (0, [q_206, q_212]), (2, [q_302, q_307, q_308, q_309, q_310, q_311, q_312, q_313, q_314]), (2, [q_395, q_401, q_402, q_403, q_404, q_405, q_406, q_407, q_408])] (nA S_494 q_529 19 4) from Gs.nA hG_528 hq_530))
  refine j_newI (N := 12) C ka_int (by decide) (by decide) (Nat.le_of_ble_eq_true rfl) (M.cells (by decide)) (M.slots (Nat.le_of_ble_eq_true rfl)) dX9_init_126 (fun q_572 hq_573 => ?_)
  have hz_574 : q_572 ∉ hL S := fun h9 => hq_573 (hf_569.mem h9)
  refine j_putrF (f := 917) C hm9 flX9_74o (by decide) rfl rfl dX9_init_128 (mem_old hm_535) (kd_nA (k := 14) (n := 12) hq_573 hm_535 hk_536) rfl ?_
  refine j_aload_n C dX9_init_131 rfl 0 rfl ?_
  refine j_aload_n C dX9_init_132 rfl 1 rfl ?_
  refine j_putrF (f := 900) C hm9 flX9_77o (by decide) rfl rfl dX9_init_133 (mem_old hm_535) (kd_nA (k := 14) (n := 12) hq_573 hm_535 hk_536) rfl ?_
  show J _ _ _ _ _ 136 _
  refine j_iconst (v := 0) C dX9_init_136 (by decide) ?_
  refine j_istore_n (lv' := [(2, .int 0), (0, .ref h), (1, .ref s0)]) C dX9_init_137 rfl (by rw [hn9]; decide) rfl ?_
  refine j_iload_n C dX9_init_138 rfl 0 rfl ?_
  refine j_aload_n C dX9_init_139 rfl 1 rfl ?_
  refine j_getr (f := 904) (v := q_149) C flX9_34 dX9_init_140 (mem_old hm_535) (kd_nA (k := 14) (n := 12) hq_573 hm_535 hk_536) (by decide) rfl (rd_sRf (S := (sR (nA S_532 q_572 14 12) 917 h (some q_572))) (g := 900) (a := h) (v := (some s0)) (by decide) (rd_sRf (S := (nA S_532 q_572 14 12)) (g := 917) (a := h) (v := (some q_572)) (by decide) hv_560)) ?_
  refine j_alen (v := 16) C dX9_init_143 (mem_old hm_537) (kd_nA (k := 14) (n := 12) hq_573 hm_537 hk_538) (by decide) (by decide) (len_of (n := 16) (ln_nA (k := 14) hq_573 hm_537 hn_539) (by decide)) ?_
  refine j_ic_ge (tgt := 166) C dX9_init_144 (by decide) (fun c9 => absurd c9 (by decide)) (fun c9 => ?_)
  refine j_aload_n C dX9_init_147 rfl 1 rfl ?_
  show J _ _ _ _ _ 148 _
  refine j_getr (f := 904) (v := q_149) C flX9_34 dX9_init_148 (mem_old hm_535) (kd_nA (k := 14) (n := 12) hq_573 hm_535 hk_536) (by decide) rfl (rd_sRf (S := (sR (nA S_532 q_572 14 12) 917 h (some q_572))) (g := 900) (a := h) (v := (some s0)) (by decide) (rd_sRf (S := (nA S_532 q_572 14 12)) (g := 917) (a := h) (v := (some q_572)) (by decide) hv_560)) ?_
  refine j_iload_n C dX9_init_151 rfl 0 rfl ?_
  have hf_577 : Fm (fun _ _ => False) (fun f9 b9 => b9 = h) (fun _ => False) S (sR (sR (nA S_532 q_572 14 12) 917 h (some q_572)) 900 h (some s0)) := (((hf_569.nA _ _ hq_573).sR _ (fun _ => rfl)).sR _ (fun _ => rfl))
  obtain ⟨S_575, eS_576⟩ : ∃ S9 : Hp, S9 = (sR (sR (nA S_532 q_572 14 12) 917 h (some q_572)) 900 h (some s0)) := ⟨_, rfl⟩
  refine J.eq (S' := S_575) eS_576.symm rfl rfl ?_
  have hm_578 : h ∈ hL S_575 := by rw [eS_576]; exact (mem_old hm_535)
  have hk_579 : Kd S_575 h 9 := by rw [eS_576]; exact (kd_nA (k := 14) (n := 12) hq_573 hm_535 hk_536)
  have hm_580 : q_149 ∈ hL S_575 := by rw [eS_576]; exact (mem_old hm_537)
  have hk_581 : Kd S_575 q_149 20 := by rw [eS_576]; exact (kd_nA (k := 14) (n := 12) hq_573 hm_537 hk_538)
  have hn_582 : Ln S_575 q_149 16 := by rw [eS_576]; exact (ln_nA (k := 14) hq_573 hm_537 hn_539)
  have hz_583 : ∀ j, aI S_575 q_149 j = 0 := by rw [eS_576]; exact (fun j9 => rd_nAI (k := 14) (n := 12) hq_573 hm_537 (hz_540 j9))
  have hm_584 : q_244 ∈ hL S_575 := by rw [eS_576]; exact (mem_old hm_541)
  have hk_585 : Kd S_575 q_244 13 := by rw [eS_576]; exact (kd_nA (k := 14) (n := 12) hq_573 hm_541 hk_542)
  have hn_586 : Ln S_575 q_244 24000 := by rw [eS_576]; exact (ln_nA (k := 14) hq_573 hm_541 hn_543)
  have hz_587 : ∀ j, aI S_575 q_244 j = 0 := by rw [eS_576]; exact (fun j9 => rd_nAI (k := 14) (n := 12) hq_573 hm_541 (hz_544 j9))
  have hm_588 : q_271 ∈ hL S_575 := by rw [eS_576]; exact (mem_old hm_545)
  have hk_589 : Kd S_575 q_271 14 := by rw [eS_576]; exact (kd_nA (k := 14) (n := 12) hq_573 hm_545 hk_546)
  have hn_590 : Ln S_575 q_271 16 := by rw [eS_576]; exact (ln_nA (k := 14) hq_573 hm_545 hn_547)
  have hz_591 : ∀ j, aI S_575 q_271 j = 0 := by rw [eS_576]; exact (fun j9 => rd_nAI (k := 14) (n := 12) hq_573 hm_545 (hz_548 j9))
  have hm_592 : q_490 ∈ hL S_575 := by rw [eS_576]; exact (mem_old hm_549)
  have hk_593 : Kd S_575 q_490 18 := by rw [eS_576]; exact (kd_nA (k := 14) (n := 12) hq_573 hm_549 hk_550)
  have hn_594 : Ln S_575 q_490 3 := by rw [eS_576]; exact (ln_nA (k := 14) hq_573 hm_549 hn_551)
  have hz_595 : ∀ j, aI S_575 q_490 j = 0 := by rw [eS_576]; exact (fun j9 => rd_nAI (k := 14) (n := 12) hq_573 hm_549 (hz_552 j9))
  have hm_596 : q_529 ∈ hL S_575 := by rw [eS_576]; exact (mem_old hm_553)
  have hk_597 : Kd S_575 q_529 19 := by rw [eS_576]; exact (kd_nA (k := 14) (n := 12) hq_573 hm_553 hk_554)
  have hn_598 : Ln S_575 q_529 4 := by rw [eS_576]; exact (ln_nA (k := 14) hq_573 hm_553 hn_555)
  have hz_599 : ∀ j, aI S_575 q_529 j = 0 := by rw [eS_576]; exact (fun j9 => rd_nAI (k := 14) (n := 12) hq_573 hm_553 (hz_556 j9))
  have hm_600 : q_572 ∈ hL S_575 := by rw [eS_576]; exact mem_new
  have hk_601 : Kd S_575 q_572 14 := by rw [eS_576]; exact (kd_nA' (k := 14) (n := 12))
  have hn_602 : Ln S_575 q_572 12 := by rw [eS_576]; exact (ln_nA' (k := 14))
  have hz_603 : ∀ j, aI S_575 q_572 j = 0 := by rw [eS_576]; exact (fun j9 => rd_nAI' (k := 14) (n := 12))
  have hv_604 : hR S_575 900 h = (some s0) := by rw [eS_576]; exact (rd_sR (S := (sR (nA S_532 q_572 14 12) 917 h (some q_572))) (g := 900) (a := h) (v := (some s0)))
  have hv_605 : hR S_575 901 h = (some q_1) := by rw [eS_576]; exact (rd_sRf (S := (sR (nA S_532 q_572 14 12) 917 h (some q_572))) (g := 900) (a := h) (v := (some s0)) (by decide) (rd_sRf (S := (nA S_532 q_572 14 12)) (g := 917) (a := h) (v := (some q_572)) (by decide) hv_557))
  have hv_606 : hR S_575 902 h = (some q_37) := by rw [eS_576]; exact (rd_sRf (S := (sR (nA S_532 q_572 14 12) 917 h (some q_572))) (g := 900) (a := h) (v := (some s0)) (by decide) (rd_sRf (S := (nA S_532 q_572 14 12)) (g := 917) (a := h) (v := (some q_572)) (by decide) hv_558))
  have hv_607 : hR S_575 903 h = (some q_118) := by rw [eS_576]; exact (rd_sRf (S := (sR (nA S_532 q_572 14 12) 917 h (some q_572))) (g := 900) (a := h) (v := (some s0)) (by decide) (rd_sRf (S := (nA S_532 q_572 14 12)) (g := 917) (a := h) (v := (some q_572)) (by decide) hv_559))
  have hv_608 : hR S_575 904 h = (some q_149) := by rw [eS_576]; exact (rd_sRf (S := (sR (nA S_532 q_572 14 12) 917 h (some q_572))) (g := 900) (a := h) (v := (some s0)) (by decide) (rd_sRf (S := (nA S_532 q_572 14 12)) (g := 917) (a := h) (v := (some q_572)) (by decide) hv_560))
  have hv_609 : hR S_575 905 h = (some q_169) := by rw [eS_576]; exact (rd_sRf (S := (sR (nA S_532 q_572 14 12) 917 h (some q_572))) (g := 900) (a := h) (v := (some s0)) (by decide) (rd_sRf (S := (nA S_532 q_572 14 12)) (g := 917) (a := h) (v := (some q_572)) (by decide) hv_561))
  have hv_610 : hR S_575 906 h = (some q_206) := by rw [eS_576]; exact (rd_sRf (S := (sR (nA S_532 q_572 14 12) 917 h (some q_572))) (g := 900) (a := h) (v := (some s0)) (by decide) (rd_sRf (S := (nA S_532 q_572 14 12)) (g := 917) (a := h) (v := (some q_572)) (by decide) hv_562))
  have hv_611 : hR S_575 907 h = (some q_244) := by rw [eS_576]; exact (rd_sRf (S := (sR (nA S_532 q_572 14 12) 917 h (some q_572))) (g := 900) (a := h) (v := (some s0)) (by decide) (rd_sRf (S := (nA S_532 q_572 14 12)) (g := 917) (a := h) (v := (some q_572)) (by decide) hv_563))
  have hv_612 : hR S_575 908 h = (some q_271) := by rw [eS_576]; exact (rd_sRf (S := (sR (nA S_532 q_572 14 12) 917 h (some q_572))) (g := 900) (a := h) (v := (some s0)) (by decide) (rd_sRf (S := (nA S_532 q_572 14 12)) (g := 917) (a := h) (v := (some q_572)) (by decide) hv_564))
  have hv_613 : hR S_575 909 h = (some q_302) := by rw [eS_576]; exact (rd_sRf (S := (sR (nA S_532 q_572 14 12) 917 h (some q_572))) (g := 900) (a := h) (v := (some s0)) (by decide) (rd_sRf (S := (nA S_532 q_572 14 12)) (g := 917) (a := h) (v := (some q_572)) (by decide) hv_565))
  have hv_614 : hR S_575 910 h = (some q_395) := by rw [eS_576]; exact (rd_sRf (S := (sR (nA S_532 q_572 14 12) 917 h (some q_572))) (g := 900) (a := h) (v := (some s0)) (by decide) (rd_sRf (S := (nA S_532 q_572 14 12)) (g := 917) (a := h) (v := (some q_572)) (by decide) hv_566))
  have hv_615 : hR S_575 911 h = (some q_490) := by rw [eS_576]; exact (rd_sRf (S := (sR (nA S_532 q_572 14 12) 917 h (some q_572))) (g := 900) (a := h) (v := (some s0)) (by decide) (rd_sRf (S := (nA S_532 q_572 14 12)) (g := 917) (a := h) (v := (some q_572)) (by decide) hv_567))
  have hv_616 : hR S_575 912 h = (some q_529) := by rw [eS_576]; exact (rd_sRf (S := (sR (nA S_532 q_572 14 12) 917 h (some q_572))) (g := 900) (a := h) (v := (some s0)) (by decide) (rd_sRf (S := (nA S_532 q_572 14 12)) (g := 917) (a := h) (v := (some q_572)) (by decide) hv_568))
  have hv_617 : hR S_575 917 h = (some q_572) := by rw [eS_576]; exact (rd_sRf (S := (sR (nA S_532 q_572 14 12) 917 h (some q_572))) (g := 900) (a := h) (v := (some s0)) (by decide) (rd_sR (S := (nA S_532 q_572 14 12)) (g := 917) (a := h) (v := (some q_572))))
  have hf_618 : Fm (fun _ _ => False) (fun f9 b9 => b9 = h) (fun _ => False) S S_575 := by rw [eS_576]; exact hf_577
  have hN_619 : NL S [q_1, q_5, q_6, q_37, q_43, q_44, q_45, q_46, q_47, q_48, q_49, q_50, q_118, q_124, q_149, q_169, q_174, q_206, q_212, q_244, q_271, q_302, q_307, q_308, q_309, q_310, q_311, q_312, q_313, q_314, q_395, q_401, q_402, q_403, q_404, q_405, q_406, q_407, q_408, q_490, q_529, q_572] S_575 := by rw [eS_576]; exact (NL.sR (S := (sR (nA S_532 q_572 14 12) 917 h (some q_572))) (NL.sR (S := (nA S_532 q_572 14 12)) (show NL S [q_1, q_5, q_6, q_37, q_43, q_44, q_45, q_46, q_47, q_48, q_49, q_50, q_118, q_124, q_149, q_169, q_174, q_206, q_212, q_244, q_271, q_302, q_307, q_308, q_309, q_310, q_311, q_312, q_313, q_314, q_395, q_401, q_402, q_403, q_404, q_405, q_406, q_407, q_408, q_490, q_529, q_572] (nA S_532 q_572 14 12) from NL.nA hN_570 hq_573 hz_574)))
  have hG_620 : Gs h [(3, [q_1, q_5, q_6]), (4, [q_37, q_43, q_44, q_45, q_46, q_47, q_48, q_49, q_50]), (0, [q_118, q_124]), (1, [q_169, q_174]), (0, [q_206, q_212]), (2, [q_302, q_307, q_308, q_309, q_310, q_311, q_312, q_313, q_314]), (2, [q_395, q_401, q_402, q_403, q_404, q_405, q_406, q_407, q_408])] S_575 := by rw [eS_576]; exact (Gs.sR (S := (sR (nA S_532 q_572 14 12) 917 h (some q_572))) (Gs.sR (S := (nA S_532 q_572 14 12)) (show Gs h [(3, [q_1, q_5, q_6]), (4, [q_37, q_43, q_44, q_45, q_46, q_47, q_48, q_49, q_50]), (0, [q_118, q_124]), (1, [q_169, q_174]), (0, [q_206, q_212]), (2, [q_302, q_307, q_308, q_309, q_310, q_311, q_312, q_313, q_314]), (2, [q_395, q_401, q_402, q_403, q_404, q_405, q_406, q_407, q_408])] (nA S_532 q_572 14 12) from Gs.nA hG_571 hq_573)))
  refine j_new (N := 4) C (ci := 10) rfl rfl klX9_32 knX10 kiX10 (M.cells (by decide)) (M.slots (by decide)) dX9_init_152 (fun q_621 hq_622 => ?_)
  have hz_623 : q_621 ∉ hL S := fun h9 => hq_622 (hf_618.mem h9)
  have gn_624 : ∀ g9 ∈ ([(3, [q_1, q_5, q_6]), (4, [q_37, q_43, q_44, q_45, q_46, q_47, q_48, q_49, q_50]), (0, [q_118, q_124]), (1, [q_169, q_174]), (0, [q_206, q_212]), (2, [q_302, q_307, q_308, q_309, q_310, q_311, q_312, q_313, q_314]), (2, [q_395, q_401, q_402, q_403, q_404, q_405, q_406, q_407, q_408])] : List (Nat × List Nat)), ∀ p9 ∈ (gT g9.1).2.2, g9.2.getD p9.2.1 0 ≠ q_621 := Gs.ne hG_620 hq_622
  refine j_dup C dX9_init_155 rfl ?_
  have hf_625 : Fm (fun _ _ => False) (fun f9 b9 => b9 = h) (fun _ => False) S (nO S_575 q_621 10) := (hf_618.nO _ hq_622)
  refine j_callI C [] [.ref q_621, .int 0, .ref q_149] mlX9_38 mcX10_init (c_X10_init (nO S_575 q_621 10) q_621 mem_new (kd_nO' (k := 10))) (M.rm (by decide) (by decide) (Nat.le_of_ble_eq_true rfl) (Nat.le_of_ble_eq_true rfl)) rfl rfl (Nat.le_of_ble_eq_true rfl) dX9_init_156 (fun r_635 S_636 hp_637 => ?_)
  obtain ⟨rfl, hf_638, e_627, e_628, q_626, e_629, e_630, e_631, e_632, e_633, hNl_634⟩ := hp_637
  refine J.eq (st' := [.ref q_621, .int 0, .ref q_149]) rfl rfl rfl ?_
  have hz_639 : ∀ j, aI S_636 q_149 j = 0 := fun j9 => (hf_638.ai (mem_old hm_580) (fun h9 => h9) j9).trans (hz_583 j9)
  have hz_640 : ∀ j, aI S_636 q_244 j = 0 := fun j9 => (hf_638.ai (mem_old hm_584) (fun h9 => h9) j9).trans (hz_587 j9)
  have hz_641 : ∀ j, aI S_636 q_271 j = 0 := fun j9 => (hf_638.ai (mem_old hm_588) (fun h9 => h9) j9).trans (hz_591 j9)
  have hz_642 : ∀ j, aI S_636 q_490 j = 0 := fun j9 => (hf_638.ai (mem_old hm_592) (fun h9 => h9) j9).trans (hz_595 j9)
  have hz_643 : ∀ j, aI S_636 q_529 j = 0 := fun j9 => (hf_638.ai (mem_old hm_596) (fun h9 => h9) j9).trans (hz_599 j9)
  have hz_644 : ∀ j, aI S_636 q_572 j = 0 := fun j9 => (hf_638.ai (mem_old hm_600) (fun h9 => h9) j9).trans (hz_603 j9)
  have hm_645 : h ∈ hL S_636 := hf_638.mem (mem_old hm_578)
  have hk_646 : Kd S_636 h 9 := hf_638.kd (mem_old hm_578) (kd_nO (k := 10) hq_622 hm_578 hk_579)
  have hm_647 : q_149 ∈ hL S_636 := hf_638.mem (mem_old hm_580)
  have hk_648 : Kd S_636 q_149 20 := hf_638.kd (mem_old hm_580) (kd_nO (k := 10) hq_622 hm_580 hk_581)
  have hn_649 : Ln S_636 q_149 16 := hf_638.ln (mem_old hm_580) hn_582
  have hm_650 : q_244 ∈ hL S_636 := hf_638.mem (mem_old hm_584)
  have hk_651 : Kd S_636 q_244 13 := hf_638.kd (mem_old hm_584) (kd_nO (k := 10) hq_622 hm_584 hk_585)
  have hn_652 : Ln S_636 q_244 24000 := hf_638.ln (mem_old hm_584) hn_586
  have hm_653 : q_271 ∈ hL S_636 := hf_638.mem (mem_old hm_588)
  have hk_654 : Kd S_636 q_271 14 := hf_638.kd (mem_old hm_588) (kd_nO (k := 10) hq_622 hm_588 hk_589)
  have hn_655 : Ln S_636 q_271 16 := hf_638.ln (mem_old hm_588) hn_590
  have hm_656 : q_490 ∈ hL S_636 := hf_638.mem (mem_old hm_592)
  have hk_657 : Kd S_636 q_490 18 := hf_638.kd (mem_old hm_592) (kd_nO (k := 10) hq_622 hm_592 hk_593)
  have hn_658 : Ln S_636 q_490 3 := hf_638.ln (mem_old hm_592) hn_594
  have hm_659 : q_529 ∈ hL S_636 := hf_638.mem (mem_old hm_596)
  have hk_660 : Kd S_636 q_529 19 := hf_638.kd (mem_old hm_596) (kd_nO (k := 10) hq_622 hm_596 hk_597)
  have hn_661 : Ln S_636 q_529 4 := hf_638.ln (mem_old hm_596) hn_598
  have hm_662 : q_572 ∈ hL S_636 := hf_638.mem (mem_old hm_600)
  have hk_663 : Kd S_636 q_572 14 := hf_638.kd (mem_old hm_600) (kd_nO (k := 10) hq_622 hm_600 hk_601)
  have hn_664 : Ln S_636 q_572 12 := hf_638.ln (mem_old hm_600) hn_602
  have hm_665 : q_621 ∈ hL S_636 := hf_638.mem mem_new
  have hk_666 : Kd S_636 q_621 10 := hf_638.kd mem_new (kd_nO' (k := 10))
  have hv_667 : hR S_636 900 h = (some s0) := hf_638.fr (mem_old hm_578) (fun q9 => (fun e9 => absurd (((kd_nO (k := 10) hq_622 hm_578 hk_579)).symm.trans ((congrArg (hK _) e9).trans (kd_nO' (k := 10)))) (by decide)) q9) (rd_nOR (k := 10) hq_622 hm_578 hv_604)
  have hv_668 : hR S_636 901 h = (some q_1) := hf_638.fr (mem_old hm_578) (fun q9 => (fun e9 => absurd (((kd_nO (k := 10) hq_622 hm_578 hk_579)).symm.trans ((congrArg (hK _) e9).trans (kd_nO' (k := 10)))) (by decide)) q9) (rd_nOR (k := 10) hq_622 hm_578 hv_605)
  have hv_669 : hR S_636 902 h = (some q_37) := hf_638.fr (mem_old hm_578) (fun q9 => (fun e9 => absurd (((kd_nO (k := 10) hq_622 hm_578 hk_579)).symm.trans ((congrArg (hK _) e9).trans (kd_nO' (k := 10)))) (by decide)) q9) (rd_nOR (k := 10) hq_622 hm_578 hv_606)
  have hv_670 : hR S_636 903 h = (some q_118) := hf_638.fr (mem_old hm_578) (fun q9 => (fun e9 => absurd (((kd_nO (k := 10) hq_622 hm_578 hk_579)).symm.trans ((congrArg (hK _) e9).trans (kd_nO' (k := 10)))) (by decide)) q9) (rd_nOR (k := 10) hq_622 hm_578 hv_607)
  have hv_671 : hR S_636 904 h = (some q_149) := hf_638.fr (mem_old hm_578) (fun q9 => (fun e9 => absurd (((kd_nO (k := 10) hq_622 hm_578 hk_579)).symm.trans ((congrArg (hK _) e9).trans (kd_nO' (k := 10)))) (by decide)) q9) (rd_nOR (k := 10) hq_622 hm_578 hv_608)
  have hv_672 : hR S_636 905 h = (some q_169) := hf_638.fr (mem_old hm_578) (fun q9 => (fun e9 => absurd (((kd_nO (k := 10) hq_622 hm_578 hk_579)).symm.trans ((congrArg (hK _) e9).trans (kd_nO' (k := 10)))) (by decide)) q9) (rd_nOR (k := 10) hq_622 hm_578 hv_609)
  have hv_673 : hR S_636 906 h = (some q_206) := hf_638.fr (mem_old hm_578) (fun q9 => (fun e9 => absurd (((kd_nO (k := 10) hq_622 hm_578 hk_579)).symm.trans ((congrArg (hK _) e9).trans (kd_nO' (k := 10)))) (by decide)) q9) (rd_nOR (k := 10) hq_622 hm_578 hv_610)
  have hv_674 : hR S_636 907 h = (some q_244) := hf_638.fr (mem_old hm_578) (fun q9 => (fun e9 => absurd (((kd_nO (k := 10) hq_622 hm_578 hk_579)).symm.trans ((congrArg (hK _) e9).trans (kd_nO' (k := 10)))) (by decide)) q9) (rd_nOR (k := 10) hq_622 hm_578 hv_611)
  have hv_675 : hR S_636 908 h = (some q_271) := hf_638.fr (mem_old hm_578) (fun q9 => (fun e9 => absurd (((kd_nO (k := 10) hq_622 hm_578 hk_579)).symm.trans ((congrArg (hK _) e9).trans (kd_nO' (k := 10)))) (by decide)) q9) (rd_nOR (k := 10) hq_622 hm_578 hv_612)
  have hv_676 : hR S_636 909 h = (some q_302) := hf_638.fr (mem_old hm_578) (fun q9 => (fun e9 => absurd (((kd_nO (k := 10) hq_622 hm_578 hk_579)).symm.trans ((congrArg (hK _) e9).trans (kd_nO' (k := 10)))) (by decide)) q9) (rd_nOR (k := 10) hq_622 hm_578 hv_613)
  have hv_677 : hR S_636 910 h = (some q_395) := hf_638.fr (mem_old hm_578) (fun q9 => (fun e9 => absurd (((kd_nO (k := 10) hq_622 hm_578 hk_579)).symm.trans ((congrArg (hK _) e9).trans (kd_nO' (k := 10)))) (by decide)) q9) (rd_nOR (k := 10) hq_622 hm_578 hv_614)
  have hv_678 : hR S_636 911 h = (some q_490) := hf_638.fr (mem_old hm_578) (fun q9 => (fun e9 => absurd (((kd_nO (k := 10) hq_622 hm_578 hk_579)).symm.trans ((congrArg (hK _) e9).trans (kd_nO' (k := 10)))) (by decide)) q9) (rd_nOR (k := 10) hq_622 hm_578 hv_615)
  have hv_679 : hR S_636 912 h = (some q_529) := hf_638.fr (mem_old hm_578) (fun q9 => (fun e9 => absurd (((kd_nO (k := 10) hq_622 hm_578 hk_579)).symm.trans ((congrArg (hK _) e9).trans (kd_nO' (k := 10)))) (by decide)) q9) (rd_nOR (k := 10) hq_622 hm_578 hv_616)
  have hv_680 : hR S_636 917 h = (some q_572) := hf_638.fr (mem_old hm_578) (fun q9 => (fun e9 => absurd (((kd_nO (k := 10) hq_622 hm_578 hk_579)).symm.trans ((congrArg (hK _) e9).trans (kd_nO' (k := 10)))) (by decide)) q9) (rd_nOR (k := 10) hq_622 hm_578 hv_617)
  have hf_681 : Fm (fun _ _ => False) (fun f9 b9 => b9 = h) (fun _ => False) S S_636 := hf_625.then hf_638 (fun a9 ha9 => ⟨(fun f9 h9 => (fun h9 => h9.elim (fun h8 => absurd (h8.2 ▸ ha9) hz_623) (fun h8 => absurd (h8.2 ▸ ha9) hz_623)) h9), (fun f9 h9 => (fun h8 => absurd (h8 ▸ ha9) hz_623) h9), (fun h9 => h9.elim)⟩)
  have hN_682 : NL S [q_1, q_5, q_6, q_37, q_43, q_44, q_45, q_46, q_47, q_48, q_49, q_50, q_118, q_124, q_149, q_169, q_174, q_206, q_212, q_244, q_271, q_302, q_307, q_308, q_309, q_310, q_311, q_312, q_313, q_314, q_395, q_401, q_402, q_403, q_404, q_405, q_406, q_407, q_408, q_490, q_529, q_572, q_621] S_636 := NL.mono (show NL S [q_1, q_5, q_6, q_37, q_43, q_44, q_45, q_46, q_47, q_48, q_49, q_50, q_118, q_124, q_149, q_169, q_174, q_206, q_212, q_244, q_271, q_302, q_307, q_308, q_309, q_310, q_311, q_312, q_313, q_314, q_395, q_401, q_402, q_403, q_404, q_405, q_406, q_407, q_408, q_490, q_529, q_572, q_621] (nO S_575 q_621 10) from NL.nO hN_619 hq_622 hz_623) (fun a9 h9 => hf_638.mem h9)
  have hG_683 : Gs h [(3, [q_1, q_5, q_6]), (4, [q_37, q_43, q_44, q_45, q_46, q_47, q_48, q_49, q_50]), (0, [q_118, q_124]), (1, [q_169, q_174]), (0, [q_206, q_212]), (2, [q_302, q_307, q_308, q_309, q_310, q_311, q_312, q_313, q_314]), (2, [q_395, q_401, q_402, q_403, q_404, q_405, q_406, q_407, q_408])] S_636 := Gs.fm (show Gs h [(3, [q_1, q_5, q_6]), (4, [q_37, q_43, q_44, q_45, q_46, q_47, q_48, q_49, q_50]), (0, [q_118, q_124]), (1, [q_169, q_174]), (0, [q_206, q_212]), (2, [q_302, q_307, q_308, q_309, q_310, q_311, q_312, q_313, q_314]), (2, [q_395, q_401, q_402, q_403, q_404, q_405, q_406, q_407, q_408])] (nO S_575 q_621 10) from Gs.nO hG_620 hq_622) hf_638 (fun g9 hg9 p9 hp9 => gn_624 g9 hg9 p9 hp9)
  have hz_684 : q_626 ∉ hL S := fun h9 => e_629 (hf_625.mem h9)
  have hN_685 : NL S [q_1, q_5, q_6, q_37, q_43, q_44, q_45, q_46, q_47, q_48, q_49, q_50, q_118, q_124, q_149, q_169, q_174, q_206, q_212, q_244, q_271, q_302, q_307, q_308, q_309, q_310, q_311, q_312, q_313, q_314, q_395, q_401, q_402, q_403, q_404, q_405, q_406, q_407, q_408, q_490, q_529, q_572, q_621, q_626] S_636 := NL.app (show NL S [q_1, q_5, q_6, q_37, q_43, q_44, q_45, q_46, q_47, q_48, q_49, q_50, q_118, q_124, q_149, q_169, q_174, q_206, q_212, q_244, q_271, q_302, q_307, q_308, q_309, q_310, q_311, q_312, q_313, q_314, q_395, q_401, q_402, q_403, q_404, q_405, q_406, q_407, q_408, q_490, q_529, q_572, q_621] (nO S_575 q_621 10) from NL.nO hN_619 hq_622 hz_623) hNl_634 (fun a9 h9 => hf_638.mem h9) (fun a9 h9 => hf_625.mem h9)
  have hGt_686 : Gt 1 [q_621, q_626] S_636 := ⟨fun i9 k9 h9 => (match i9, h9 with | 0, h9 => (by have e9 : (10 : Nat) = k9 := Option.some.inj h9; subst e9; exact ⟨hm_665, hk_666⟩) | 1, h9 => (by have e9 : (15 : Nat) = k9 := Option.some.inj h9; subst e9; exact ⟨e_630, e_631⟩) | i9 + 2, h9 => absurd h9 (by simp [gT])), (List.forall_mem_cons.mpr ⟨e_632, (fun _ h9 => absurd h9 List.not_mem_nil)⟩), (List.forall_mem_cons.mpr ⟨e_633, (fun _ h9 => absurd h9 List.not_mem_nil)⟩), (fun _ h9 => absurd h9 List.not_mem_nil)⟩
  have hG_687 : Gs h [(3, [q_1, q_5, q_6]), (4, [q_37, q_43, q_44, q_45, q_46, q_47, q_48, q_49, q_50]), (0, [q_118, q_124]), (1, [q_169, q_174]), (0, [q_206, q_212]), (2, [q_302, q_307, q_308, q_309, q_310, q_311, q_312, q_313, q_314]), (2, [q_395, q_401, q_402, q_403, q_404, q_405, q_406, q_407, q_408]), (1, [q_621, q_626])] S_636 := Gs.snoc hG_683 (by decide) hGt_686 (List.forall_mem_cons.mpr ⟨(fun e9 => hz_623 (e9 ▸ hm)), (fun _ h9 => absurd h9 List.not_mem_nil)⟩)
  refine j_aast (j := 0) (ci := 10) C 20  (by decide) rfl dX9_init_159 hm_647 hk_648 (inr_of (n := 16) hn_649 (vp_lit (by decide))) (by decide) hm_665 hk_666 rfl ?_
  have hf_690 : Fm (fun _ _ => False) (fun f9 b9 => b9 = h) (fun _ => False) S (tR S_636 q_149 0 (some q_621)) := (hf_681.tR _ _ (fun h9 => absurd h9 hz_152))
  obtain ⟨S_688, eS_689⟩ : ∃ S9 : Hp, S9 = (tR S_636 q_149 0 (some q_621)) := ⟨_, rfl⟩
  refine J.eq (S' := S_688) eS_689.symm rfl rfl ?_
  have hm_691 : h ∈ hL S_688 := by rw [eS_689]; exact hm_645
  have hk_692 : Kd S_688 h 9 := by rw [eS_689]; exact hk_646
  have hm_693 : q_149 ∈ hL S_688 := by rw [eS_689]; exact hm_647
  have hk_694 : Kd S_688 q_149 20 := by rw [eS_689]; exact hk_648
  have hn_695 : Ln S_688 q_149 16 := by rw [eS_689]; exact hn_649
  have hz_696 : ∀ j, aI S_688 q_149 j = 0 := by rw [eS_689]; exact hz_639
  have hm_697 : q_244 ∈ hL S_688 := by rw [eS_689]; exact hm_650
  have hk_698 : Kd S_688 q_244 13 := by rw [eS_689]; exact hk_651
  have hn_699 : Ln S_688 q_244 24000 := by rw [eS_689]; exact hn_652
  have hz_700 : ∀ j, aI S_688 q_244 j = 0 := by rw [eS_689]; exact hz_640
  have hm_701 : q_271 ∈ hL S_688 := by rw [eS_689]; exact hm_653
  have hk_702 : Kd S_688 q_271 14 := by rw [eS_689]; exact hk_654
  have hn_703 : Ln S_688 q_271 16 := by rw [eS_689]; exact hn_655
  have hz_704 : ∀ j, aI S_688 q_271 j = 0 := by rw [eS_689]; exact hz_641
  have hm_705 : q_490 ∈ hL S_688 := by rw [eS_689]; exact hm_656
  have hk_706 : Kd S_688 q_490 18 := by rw [eS_689]; exact hk_657
  have hn_707 : Ln S_688 q_490 3 := by rw [eS_689]; exact hn_658
  have hz_708 : ∀ j, aI S_688 q_490 j = 0 := by rw [eS_689]; exact hz_642
  have hm_709 : q_529 ∈ hL S_688 := by rw [eS_689]; exact hm_659
  have hk_710 : Kd S_688 q_529 19 := by rw [eS_689]; exact hk_660
  have hn_711 : Ln S_688 q_529 4 := by rw [eS_689]; exact hn_661
  have hz_712 : ∀ j, aI S_688 q_529 j = 0 := by rw [eS_689]; exact hz_643
  have hm_713 : q_572 ∈ hL S_688 := by rw [eS_689]; exact hm_662
  have hk_714 : Kd S_688 q_572 14 := by rw [eS_689]; exact hk_663
  have hn_715 : Ln S_688 q_572 12 := by rw [eS_689]; exact hn_664
  have hz_716 : ∀ j, aI S_688 q_572 j = 0 := by rw [eS_689]; exact hz_644
  have hm_717 : q_621 ∈ hL S_688 := by rw [eS_689]; exact hm_665
  have hk_718 : Kd S_688 q_621 10 := by rw [eS_689]; exact hk_666
  have hv_719 : hI S_688 1000 q_621 = 1 := by rw [eS_689]; exact e_627
  have hv_720 : hI S_688 1001 q_621 = 1 := by rw [eS_689]; exact e_628
  have hv_721 : hR S_688 1003 q_621 = (some q_626) := by rw [eS_689]; exact e_633
  have hv_722 : hR S_688 900 h = (some s0) := by rw [eS_689]; exact hv_667
  have hv_723 : hR S_688 901 h = (some q_1) := by rw [eS_689]; exact hv_668
  have hv_724 : hR S_688 902 h = (some q_37) := by rw [eS_689]; exact hv_669
  have hv_725 : hR S_688 903 h = (some q_118) := by rw [eS_689]; exact hv_670
  have hv_726 : hR S_688 904 h = (some q_149) := by rw [eS_689]; exact hv_671
  have hv_727 : hR S_688 905 h = (some q_169) := by rw [eS_689]; exact hv_672
  have hv_728 : hR S_688 906 h = (some q_206) := by rw [eS_689]; exact hv_673
  have hv_729 : hR S_688 907 h = (some q_244) := by rw [eS_689]; exact hv_674
  have hv_730 : hR S_688 908 h = (some q_271) := by rw [eS_689]; exact hv_675
  have hv_731 : hR S_688 909 h = (some q_302) := by rw [eS_689]; exact hv_676
  have hv_732 : hR S_688 910 h = (some q_395) := by rw [eS_689]; exact hv_677
  have hv_733 : hR S_688 911 h = (some q_490) := by rw [eS_689]; exact hv_678
  have hv_734 : hR S_688 912 h = (some q_529) := by rw [eS_689]; exact hv_679
  have hv_735 : hR S_688 917 h = (some q_572) := by rw [eS_689]; exact hv_680
  have hf_736 : Fm (fun _ _ => False) (fun f9 b9 => b9 = h) (fun _ => False) S S_688 := by rw [eS_689]; exact hf_690
  have hN_737 : NL S [q_1, q_5, q_6, q_37, q_43, q_44, q_45, q_46, q_47, q_48, q_49, q_50, q_118, q_124, q_149, q_169, q_174, q_206, q_212, q_244, q_271, q_302, q_307, q_308, q_309, q_310, q_311, q_312, q_313, q_314, q_395, q_401, q_402, q_403, q_404, q_405, q_406, q_407, q_408, q_490, q_529, q_572, q_621, q_626] S_688 := by rw [eS_689]; exact (NL.tR (S := S_636) hN_685)
  have hG_738 : Gs h [(3, [q_1, q_5, q_6]), (4, [q_37, q_43, q_44, q_45, q_46, q_47, q_48, q_49, q_50]), (0, [q_118, q_124]), (1, [q_169, q_174]), (0, [q_206, q_212]), (2, [q_302, q_307, q_308, q_309, q_310, q_311, q_312, q_313, q_314]), (2, [q_395, q_401, q_402, q_403, q_404, q_405, q_406, q_407, q_408]), (1, [q_621, q_626])] S_688 := by rw [eS_689]; exact (Gs.tR (S := S_636) hG_687)
  have hE_739 : ELs S_688 q_149 [q_621] := by rw [eS_689]; exact (show ELs (tR S_636 q_149 0 (some q_621)) q_149 [q_621] from ELs.snoc (ELs.nil (S := S_636) (a := q_149)) rfl)
  refine j_iinc (q := 0) (v := 1) (lv' := [(2, .int 1), (0, .ref h), (1, .ref s0)]) C dX9_init_160 rfl (by decide) (by rw [hn9]; decide) rfl ?_
  refine j_goto (tgt := 138) C dX9_init_163 (by decide) ?_
  show J _ _ _ _ _ 138 _
  refine j_iload_n C dX9_init_138 rfl 0 rfl ?_
  refine j_aload_n C dX9_init_139 rfl 1 rfl ?_
  refine j_getr (f := 904) (v := q_149) C flX9_34 dX9_init_140 hm_691 hk_692 (by decide) rfl hv_726 ?_
  refine j_alen (v := 16) C dX9_init_143 hm_693 hk_694 (by decide) (by decide) (len_of (n := 16) hn_695 (by decide)) ?_
  refine j_ic_ge (tgt := 166) C dX9_init_144 (by decide) (fun c9 => absurd c9 (by decide)) (fun c9 => ?_)
  refine j_aload_n C dX9_init_147 rfl 1 rfl ?_
  refine j_getr (f := 904) (v := q_149) C flX9_34 dX9_init_148 hm_691 hk_692 (by decide) rfl hv_726 ?_
  refine j_iload_n C dX9_init_151 rfl 0 rfl ?_
  show J _ _ _ _ _ 152 _
  refine j_new (N := 4) C (ci := 10) rfl rfl klX9_32 knX10 kiX10 (M.cells (by decide)) (M.slots (by decide)) dX9_init_152 (fun q_740 hq_741 => ?_)
  have hz_742 : q_740 ∉ hL S := fun h9 => hq_741 (hf_736.mem h9)
  have gn_743 : ∀ g9 ∈ ([(3, [q_1, q_5, q_6]), (4, [q_37, q_43, q_44, q_45, q_46, q_47, q_48, q_49, q_50]), (0, [q_118, q_124]), (1, [q_169, q_174]), (0, [q_206, q_212]), (2, [q_302, q_307, q_308, q_309, q_310, q_311, q_312, q_313, q_314]), (2, [q_395, q_401, q_402, q_403, q_404, q_405, q_406, q_407, q_408]), (1, [q_621, q_626])] : List (Nat × List Nat)), ∀ p9 ∈ (gT g9.1).2.2, g9.2.getD p9.2.1 0 ≠ q_740 := Gs.ne hG_738 hq_741
  refine j_dup C dX9_init_155 rfl ?_
  have hf_744 : Fm (fun _ _ => False) (fun f9 b9 => b9 = h) (fun _ => False) S (nO S_688 q_740 10) := (hf_736.nO _ hq_741)
  refine j_callI C [] [.ref q_740, .int 1, .ref q_149] mlX9_38 mcX10_init (c_X10_init (nO S_688 q_740 10) q_740 mem_new (kd_nO' (k := 10))) (M.rm (by decide) (by decide) (Nat.le_of_ble_eq_true rfl) (Nat.le_of_ble_eq_true rfl)) rfl rfl (Nat.le_of_ble_eq_true rfl) dX9_init_156 (fun r_754 S_755 hp_756 => ?_)
  obtain ⟨rfl, hf_757, e_746, e_747, q_745, e_748, e_749, e_750, e_751, e_752, hNl_753⟩ := hp_756
  refine J.eq (st' := [.ref q_740, .int 1, .ref q_149]) rfl rfl rfl ?_
  have hz_758 : ∀ j, aI S_755 q_149 j = 0 := fun j9 => (hf_757.ai (mem_old hm_693) (fun h9 => h9) j9).trans (hz_696 j9)
  have hz_759 : ∀ j, aI S_755 q_244 j = 0 := fun j9 => (hf_757.ai (mem_old hm_697) (fun h9 => h9) j9).trans (hz_700 j9)
  have hz_760 : ∀ j, aI S_755 q_271 j = 0 := fun j9 => (hf_757.ai (mem_old hm_701) (fun h9 => h9) j9).trans (hz_704 j9)
  have hz_761 : ∀ j, aI S_755 q_490 j = 0 := fun j9 => (hf_757.ai (mem_old hm_705) (fun h9 => h9) j9).trans (hz_708 j9)
  have hz_762 : ∀ j, aI S_755 q_529 j = 0 := fun j9 => (hf_757.ai (mem_old hm_709) (fun h9 => h9) j9).trans (hz_712 j9)
  have hz_763 : ∀ j, aI S_755 q_572 j = 0 := fun j9 => (hf_757.ai (mem_old hm_713) (fun h9 => h9) j9).trans (hz_716 j9)
  have hm_764 : h ∈ hL S_755 := hf_757.mem (mem_old hm_691)
  have hk_765 : Kd S_755 h 9 := hf_757.kd (mem_old hm_691) (kd_nO (k := 10) hq_741 hm_691 hk_692)
  have hm_766 : q_149 ∈ hL S_755 := hf_757.mem (mem_old hm_693)
  have hk_767 : Kd S_755 q_149 20 := hf_757.kd (mem_old hm_693) (kd_nO (k := 10) hq_741 hm_693 hk_694)
  have hn_768 : Ln S_755 q_149 16 := hf_757.ln (mem_old hm_693) hn_695
  have hm_769 : q_244 ∈ hL S_755 := hf_757.mem (mem_old hm_697)
  have hk_770 : Kd S_755 q_244 13 := hf_757.kd (mem_old hm_697) (kd_nO (k := 10) hq_741 hm_697 hk_698)
  have hn_771 : Ln S_755 q_244 24000 := hf_757.ln (mem_old hm_697) hn_699
  have hm_772 : q_271 ∈ hL S_755 := hf_757.mem (mem_old hm_701)
  have hk_773 : Kd S_755 q_271 14 := hf_757.kd (mem_old hm_701) (kd_nO (k := 10) hq_741 hm_701 hk_702)
  have hn_774 : Ln S_755 q_271 16 := hf_757.ln (mem_old hm_701) hn_703
  have hm_775 : q_490 ∈ hL S_755 := hf_757.mem (mem_old hm_705)
  have hk_776 : Kd S_755 q_490 18 := hf_757.kd (mem_old hm_705) (kd_nO (k := 10) hq_741 hm_705 hk_706)
  have hn_777 : Ln S_755 q_490 3 := hf_757.ln (mem_old hm_705) hn_707
  have hm_778 : q_529 ∈ hL S_755 := hf_757.mem (mem_old hm_709)
  have hk_779 : Kd S_755 q_529 19 := hf_757.kd (mem_old hm_709) (kd_nO (k := 10) hq_741 hm_709 hk_710)
  have hn_780 : Ln S_755 q_529 4 := hf_757.ln (mem_old hm_709) hn_711
  have hm_781 : q_572 ∈ hL S_755 := hf_757.mem (mem_old hm_713)
  have hk_782 : Kd S_755 q_572 14 := hf_757.kd (mem_old hm_713) (kd_nO (k := 10) hq_741 hm_713 hk_714)
  have hn_783 : Ln S_755 q_572 12 := hf_757.ln (mem_old hm_713) hn_715
  have hm_784 : q_740 ∈ hL S_755 := hf_757.mem mem_new
  have hk_785 : Kd S_755 q_740 10 := hf_757.kd mem_new (kd_nO' (k := 10))
  have hv_786 : hR S_755 900 h = (some s0) := hf_757.fr (mem_old hm_691) (fun q9 => (fun e9 => absurd (((kd_nO (k := 10) hq_741 hm_691 hk_692)).symm.trans ((congrArg (hK _) e9).trans (kd_nO' (k := 10)))) (by decide)) q9) (rd_nOR (k := 10) hq_741 hm_691 hv_722)
  have hv_787 : hR S_755 901 h = (some q_1) := hf_757.fr (mem_old hm_691) (fun q9 => (fun e9 => absurd (((kd_nO (k := 10) hq_741 hm_691 hk_692)).symm.trans ((congrArg (hK _) e9).trans (kd_nO' (k := 10)))) (by decide)) q9) (rd_nOR (k := 10) hq_741 hm_691 hv_723)
  have hv_788 : hR S_755 902 h = (some q_37) := hf_757.fr (mem_old hm_691) (fun q9 => (fun e9 => absurd (((kd_nO (k := 10) hq_741 hm_691 hk_692)).symm.trans ((congrArg (hK _) e9).trans (kd_nO' (k := 10)))) (by decide)) q9) (rd_nOR (k := 10) hq_741 hm_691 hv_724)
  have hv_789 : hR S_755 903 h = (some q_118) := hf_757.fr (mem_old hm_691) (fun q9 => (fun e9 => absurd (((kd_nO (k := 10) hq_741 hm_691 hk_692)).symm.trans ((congrArg (hK _) e9).trans (kd_nO' (k := 10)))) (by decide)) q9) (rd_nOR (k := 10) hq_741 hm_691 hv_725)
  have hv_790 : hR S_755 904 h = (some q_149) := hf_757.fr (mem_old hm_691) (fun q9 => (fun e9 => absurd (((kd_nO (k := 10) hq_741 hm_691 hk_692)).symm.trans ((congrArg (hK _) e9).trans (kd_nO' (k := 10)))) (by decide)) q9) (rd_nOR (k := 10) hq_741 hm_691 hv_726)
  have hv_791 : hR S_755 905 h = (some q_169) := hf_757.fr (mem_old hm_691) (fun q9 => (fun e9 => absurd (((kd_nO (k := 10) hq_741 hm_691 hk_692)).symm.trans ((congrArg (hK _) e9).trans (kd_nO' (k := 10)))) (by decide)) q9) (rd_nOR (k := 10) hq_741 hm_691 hv_727)
  have hv_792 : hR S_755 906 h = (some q_206) := hf_757.fr (mem_old hm_691) (fun q9 => (fun e9 => absurd (((kd_nO (k := 10) hq_741 hm_691 hk_692)).symm.trans ((congrArg (hK _) e9).trans (kd_nO' (k := 10)))) (by decide)) q9) (rd_nOR (k := 10) hq_741 hm_691 hv_728)
  have hv_793 : hR S_755 907 h = (some q_244) := hf_757.fr (mem_old hm_691) (fun q9 => (fun e9 => absurd (((kd_nO (k := 10) hq_741 hm_691 hk_692)).symm.trans ((congrArg (hK _) e9).trans (kd_nO' (k := 10)))) (by decide)) q9) (rd_nOR (k := 10) hq_741 hm_691 hv_729)
  have hv_794 : hR S_755 908 h = (some q_271) := hf_757.fr (mem_old hm_691) (fun q9 => (fun e9 => absurd (((kd_nO (k := 10) hq_741 hm_691 hk_692)).symm.trans ((congrArg (hK _) e9).trans (kd_nO' (k := 10)))) (by decide)) q9) (rd_nOR (k := 10) hq_741 hm_691 hv_730)
  have hv_795 : hR S_755 909 h = (some q_302) := hf_757.fr (mem_old hm_691) (fun q9 => (fun e9 => absurd (((kd_nO (k := 10) hq_741 hm_691 hk_692)).symm.trans ((congrArg (hK _) e9).trans (kd_nO' (k := 10)))) (by decide)) q9) (rd_nOR (k := 10) hq_741 hm_691 hv_731)
  have hv_796 : hR S_755 910 h = (some q_395) := hf_757.fr (mem_old hm_691) (fun q9 => (fun e9 => absurd (((kd_nO (k := 10) hq_741 hm_691 hk_692)).symm.trans ((congrArg (hK _) e9).trans (kd_nO' (k := 10)))) (by decide)) q9) (rd_nOR (k := 10) hq_741 hm_691 hv_732)
  have hv_797 : hR S_755 911 h = (some q_490) := hf_757.fr (mem_old hm_691) (fun q9 => (fun e9 => absurd (((kd_nO (k := 10) hq_741 hm_691 hk_692)).symm.trans ((congrArg (hK _) e9).trans (kd_nO' (k := 10)))) (by decide)) q9) (rd_nOR (k := 10) hq_741 hm_691 hv_733)
  have hv_798 : hR S_755 912 h = (some q_529) := hf_757.fr (mem_old hm_691) (fun q9 => (fun e9 => absurd (((kd_nO (k := 10) hq_741 hm_691 hk_692)).symm.trans ((congrArg (hK _) e9).trans (kd_nO' (k := 10)))) (by decide)) q9) (rd_nOR (k := 10) hq_741 hm_691 hv_734)
  have hv_799 : hR S_755 917 h = (some q_572) := hf_757.fr (mem_old hm_691) (fun q9 => (fun e9 => absurd (((kd_nO (k := 10) hq_741 hm_691 hk_692)).symm.trans ((congrArg (hK _) e9).trans (kd_nO' (k := 10)))) (by decide)) q9) (rd_nOR (k := 10) hq_741 hm_691 hv_735)
  have hf_800 : Fm (fun _ _ => False) (fun f9 b9 => b9 = h) (fun _ => False) S S_755 := hf_744.then hf_757 (fun a9 ha9 => ⟨(fun f9 h9 => (fun h9 => h9.elim (fun h8 => absurd (h8.2 ▸ ha9) hz_742) (fun h8 => absurd (h8.2 ▸ ha9) hz_742)) h9), (fun f9 h9 => (fun h8 => absurd (h8 ▸ ha9) hz_742) h9), (fun h9 => h9.elim)⟩)
  have hN_801 : NL S [q_1, q_5, q_6, q_37, q_43, q_44, q_45, q_46, q_47, q_48, q_49, q_50, q_118, q_124, q_149, q_169, q_174, q_206, q_212, q_244, q_271, q_302, q_307, q_308, q_309, q_310, q_311, q_312, q_313, q_314, q_395, q_401, q_402, q_403, q_404, q_405, q_406, q_407, q_408, q_490, q_529, q_572, q_621, q_626, q_740] S_755 := NL.mono (show NL S [q_1, q_5, q_6, q_37, q_43, q_44, q_45, q_46, q_47, q_48, q_49, q_50, q_118, q_124, q_149, q_169, q_174, q_206, q_212, q_244, q_271, q_302, q_307, q_308, q_309, q_310, q_311, q_312, q_313, q_314, q_395, q_401, q_402, q_403, q_404, q_405, q_406, q_407, q_408, q_490, q_529, q_572, q_621, q_626, q_740] (nO S_688 q_740 10) from NL.nO hN_737 hq_741 hz_742) (fun a9 h9 => hf_757.mem h9)
  have hG_802 : Gs h [(3, [q_1, q_5, q_6]), (4, [q_37, q_43, q_44, q_45, q_46, q_47, q_48, q_49, q_50]), (0, [q_118, q_124]), (1, [q_169, q_174]), (0, [q_206, q_212]), (2, [q_302, q_307, q_308, q_309, q_310, q_311, q_312, q_313, q_314]), (2, [q_395, q_401, q_402, q_403, q_404, q_405, q_406, q_407, q_408]), (1, [q_621, q_626])] S_755 := Gs.fm (show Gs h [(3, [q_1, q_5, q_6]), (4, [q_37, q_43, q_44, q_45, q_46, q_47, q_48, q_49, q_50]), (0, [q_118, q_124]), (1, [q_169, q_174]), (0, [q_206, q_212]), (2, [q_302, q_307, q_308, q_309, q_310, q_311, q_312, q_313, q_314]), (2, [q_395, q_401, q_402, q_403, q_404, q_405, q_406, q_407, q_408]), (1, [q_621, q_626])] (nO S_688 q_740 10) from Gs.nO hG_738 hq_741) hf_757 (fun g9 hg9 p9 hp9 => gn_743 g9 hg9 p9 hp9)
  have hE_803 : ELs S_755 q_149 [q_621] := ELs.fm (ELs.nO (S := S_688) hE_739) hf_757 (mem_old hm_693) (fun h9 => h9)
  have hz_804 : q_745 ∉ hL S := fun h9 => e_748 (hf_744.mem h9)
  have hN_805 : NL S [q_1, q_5, q_6, q_37, q_43, q_44, q_45, q_46, q_47, q_48, q_49, q_50, q_118, q_124, q_149, q_169, q_174, q_206, q_212, q_244, q_271, q_302, q_307, q_308, q_309, q_310, q_311, q_312, q_313, q_314, q_395, q_401, q_402, q_403, q_404, q_405, q_406, q_407, q_408, q_490, q_529, q_572, q_621, q_626, q_740, q_745] S_755 := NL.app (show NL S [q_1, q_5, q_6, q_37, q_43, q_44, q_45, q_46, q_47, q_48, q_49, q_50, q_118, q_124, q_149, q_169, q_174, q_206, q_212, q_244, q_271, q_302, q_307, q_308, q_309, q_310, q_311, q_312, q_313, q_314, q_395, q_401, q_402, q_403, q_404, q_405, q_406, q_407, q_408, q_490, q_529, q_572, q_621, q_626, q_740] (nO S_688 q_740 10) from NL.nO hN_737 hq_741 hz_742) hNl_753 (fun a9 h9 => hf_757.mem h9) (fun a9 h9 => hf_744.mem h9)
  have hGt_806 : Gt 1 [q_740, q_745] S_755 := ⟨fun i9 k9 h9 => (match i9, h9 with | 0, h9 => (by have e9 : (10 : Nat) = k9 := Option.some.inj h9; subst e9; exact ⟨hm_784, hk_785⟩) | 1, h9 => (by have e9 : (15 : Nat) = k9 := Option.some.inj h9; subst e9; exact ⟨e_749, e_750⟩) | i9 + 2, h9 => absurd h9 (by simp [gT])), (List.forall_mem_cons.mpr ⟨e_751, (fun _ h9 => absurd h9 List.not_mem_nil)⟩), (List.forall_mem_cons.mpr ⟨e_752, (fun _ h9 => absurd h9 List.not_mem_nil)⟩), (fun _ h9 => absurd h9 List.not_mem_nil)⟩
  have hG_807 : Gs h [(3, [q_1, q_5, q_6]), (4, [q_37, q_43, q_44, q_45, q_46, q_47, q_48, q_49, q_50]), (0, [q_118, q_124]), (1, [q_169, q_174]), (0, [q_206, q_212]), (2, [q_302, q_307, q_308, q_309, q_310, q_311, q_312, q_313, q_314]), (2, [q_395, q_401, q_402, q_403, q_404, q_405, q_406, q_407, q_408]), (1, [q_621, q_626]), (1, [q_740, q_745])] S_755 := Gs.snoc hG_802 (by decide) hGt_806 (List.forall_mem_cons.mpr ⟨(fun e9 => hz_742 (e9 ▸ hm)), (fun _ h9 => absurd h9 List.not_mem_nil)⟩)
  refine j_aast (j := 1) (ci := 10) C 20  (by decide) rfl dX9_init_159 hm_766 hk_767 (inr_of (n := 16) hn_768 (vp_lit (by decide))) (by decide) hm_784 hk_785 rfl ?_
  have hf_810 : Fm (fun _ _ => False) (fun f9 b9 => b9 = h) (fun _ => False) S (tR S_755 q_149 1 (some q_740)) := (hf_800.tR _ _ (fun h9 => absurd h9 hz_152))
  obtain ⟨S_808, eS_809⟩ : ∃ S9 : Hp, S9 = (tR S_755 q_149 1 (some q_740)) := ⟨_, rfl⟩
  refine J.eq (S' := S_808) eS_809.symm rfl rfl ?_
  have hm_811 : h ∈ hL S_808 := by rw [eS_809]; exact hm_764
  have hk_812 : Kd S_808 h 9 := by rw [eS_809]; exact hk_765
  have hm_813 : q_149 ∈ hL S_808 := by rw [eS_809]; exact hm_766
  have hk_814 : Kd S_808 q_149 20 := by rw [eS_809]; exact hk_767
  have hn_815 : Ln S_808 q_149 16 := by rw [eS_809]; exact hn_768
  have hz_816 : ∀ j, aI S_808 q_149 j = 0 := by rw [eS_809]; exact hz_758
  have hm_817 : q_244 ∈ hL S_808 := by rw [eS_809]; exact hm_769
  have hk_818 : Kd S_808 q_244 13 := by rw [eS_809]; exact hk_770
  have hn_819 : Ln S_808 q_244 24000 := by rw [eS_809]; exact hn_771
  have hz_820 : ∀ j, aI S_808 q_244 j = 0 := by rw [eS_809]; exact hz_759
  have hm_821 : q_271 ∈ hL S_808 := by rw [eS_809]; exact hm_772
  have hk_822 : Kd S_808 q_271 14 := by rw [eS_809]; exact hk_773
  have hn_823 : Ln S_808 q_271 16 := by rw [eS_809]; exact hn_774
  have hz_824 : ∀ j, aI S_808 q_271 j = 0 := by rw [eS_809]; exact hz_760
  have hm_825 : q_490 ∈ hL S_808 := by rw [eS_809]; exact hm_775
  have hk_826 : Kd S_808 q_490 18 := by rw [eS_809]; exact hk_776
  have hn_827 : Ln S_808 q_490 3 := by rw [eS_809]; exact hn_777
  have hz_828 : ∀ j, aI S_808 q_490 j = 0 := by rw [eS_809]; exact hz_761
  have hm_829 : q_529 ∈ hL S_808 := by rw [eS_809]; exact hm_778
  have hk_830 : Kd S_808 q_529 19 := by rw [eS_809]; exact hk_779
  have hn_831 : Ln S_808 q_529 4 := by rw [eS_809]; exact hn_780
  have hz_832 : ∀ j, aI S_808 q_529 j = 0 := by rw [eS_809]; exact hz_762
  have hm_833 : q_572 ∈ hL S_808 := by rw [eS_809]; exact hm_781
  have hk_834 : Kd S_808 q_572 14 := by rw [eS_809]; exact hk_782
  have hn_835 : Ln S_808 q_572 12 := by rw [eS_809]; exact hn_783
  have hz_836 : ∀ j, aI S_808 q_572 j = 0 := by rw [eS_809]; exact hz_763
  have hm_837 : q_740 ∈ hL S_808 := by rw [eS_809]; exact hm_784
  have hk_838 : Kd S_808 q_740 10 := by rw [eS_809]; exact hk_785
  have hv_839 : hI S_808 1000 q_740 = 1 := by rw [eS_809]; exact e_746
  have hv_840 : hI S_808 1001 q_740 = 1 := by rw [eS_809]; exact e_747
  have hv_841 : hR S_808 1003 q_740 = (some q_745) := by rw [eS_809]; exact e_752
  have hv_842 : hR S_808 900 h = (some s0) := by rw [eS_809]; exact hv_786
  have hv_843 : hR S_808 901 h = (some q_1) := by rw [eS_809]; exact hv_787
  have hv_844 : hR S_808 902 h = (some q_37) := by rw [eS_809]; exact hv_788
  have hv_845 : hR S_808 903 h = (some q_118) := by rw [eS_809]; exact hv_789
  have hv_846 : hR S_808 904 h = (some q_149) := by rw [eS_809]; exact hv_790
  have hv_847 : hR S_808 905 h = (some q_169) := by rw [eS_809]; exact hv_791
  have hv_848 : hR S_808 906 h = (some q_206) := by rw [eS_809]; exact hv_792
  have hv_849 : hR S_808 907 h = (some q_244) := by rw [eS_809]; exact hv_793
  have hv_850 : hR S_808 908 h = (some q_271) := by rw [eS_809]; exact hv_794
  have hv_851 : hR S_808 909 h = (some q_302) := by rw [eS_809]; exact hv_795
  have hv_852 : hR S_808 910 h = (some q_395) := by rw [eS_809]; exact hv_796
  have hv_853 : hR S_808 911 h = (some q_490) := by rw [eS_809]; exact hv_797
  have hv_854 : hR S_808 912 h = (some q_529) := by rw [eS_809]; exact hv_798
  have hv_855 : hR S_808 917 h = (some q_572) := by rw [eS_809]; exact hv_799
  have hf_856 : Fm (fun _ _ => False) (fun f9 b9 => b9 = h) (fun _ => False) S S_808 := by rw [eS_809]; exact hf_810
  have hN_857 : NL S [q_1, q_5, q_6, q_37, q_43, q_44, q_45, q_46, q_47, q_48, q_49, q_50, q_118, q_124, q_149, q_169, q_174, q_206, q_212, q_244, q_271, q_302, q_307, q_308, q_309, q_310, q_311, q_312, q_313, q_314, q_395, q_401, q_402, q_403, q_404, q_405, q_406, q_407, q_408, q_490, q_529, q_572, q_621, q_626, q_740, q_745] S_808 := by rw [eS_809]; exact (NL.tR (S := S_755) hN_805)
  have hG_858 : Gs h [(3, [q_1, q_5, q_6]), (4, [q_37, q_43, q_44, q_45, q_46, q_47, q_48, q_49, q_50]), (0, [q_118, q_124]), (1, [q_169, q_174]), (0, [q_206, q_212]), (2, [q_302, q_307, q_308, q_309, q_310, q_311, q_312, q_313, q_314]), (2, [q_395, q_401, q_402, q_403, q_404, q_405, q_406, q_407, q_408]), (1, [q_621, q_626]), (1, [q_740, q_745])] S_808 := by rw [eS_809]; exact (Gs.tR (S := S_755) hG_807)
  have hE_859 : ELs S_808 q_149 [q_621, q_740] := by rw [eS_809]; exact (show ELs (tR S_755 q_149 1 (some q_740)) q_149 [q_621, q_740] from ELs.snoc hE_803 rfl)
  refine j_iinc (q := 0) (v := 2) (lv' := [(2, .int 2), (0, .ref h), (1, .ref s0)]) C dX9_init_160 rfl (by decide) (by rw [hn9]; decide) rfl ?_
  refine j_goto (tgt := 138) C dX9_init_163 (by decide) ?_
  refine j_iload_n C dX9_init_138 rfl 0 rfl ?_
  refine j_aload_n C dX9_init_139 rfl 1 rfl ?_
  show J _ _ _ _ _ 140 _
  refine j_getr (f := 904) (v := q_149) C flX9_34 dX9_init_140 hm_811 hk_812 (by decide) rfl hv_846 ?_
  refine j_alen (v := 16) C dX9_init_143 hm_813 hk_814 (by decide) (by decide) (len_of (n := 16) hn_815 (by decide)) ?_
  refine j_ic_ge (tgt := 166) C dX9_init_144 (by decide) (fun c9 => absurd c9 (by decide)) (fun c9 => ?_)
  refine j_aload_n C dX9_init_147 rfl 1 rfl ?_
  refine j_getr (f := 904) (v := q_149) C flX9_34 dX9_init_148 hm_811 hk_812 (by decide) rfl hv_846 ?_
  refine j_iload_n C dX9_init_151 rfl 0 rfl ?_
  refine j_new (N := 4) C (ci := 10) rfl rfl klX9_32 knX10 kiX10 (M.cells (by decide)) (M.slots (by decide)) dX9_init_152 (fun q_860 hq_861 => ?_)
  have hz_862 : q_860 ∉ hL S := fun h9 => hq_861 (hf_856.mem h9)
  have gn_863 : ∀ g9 ∈ ([(3, [q_1, q_5, q_6]), (4, [q_37, q_43, q_44, q_45, q_46, q_47, q_48, q_49, q_50]), (0, [q_118, q_124]), (1, [q_169, q_174]), (0, [q_206, q_212]), (2, [q_302, q_307, q_308, q_309, q_310, q_311, q_312, q_313, q_314]), (2, [q_395, q_401, q_402, q_403, q_404, q_405, q_406, q_407, q_408]), (1, [q_621, q_626]), (1, [q_740, q_745])] : List (Nat × List Nat)), ∀ p9 ∈ (gT g9.1).2.2, g9.2.getD p9.2.1 0 ≠ q_860 := Gs.ne hG_858 hq_861
  refine j_dup C dX9_init_155 rfl ?_
  show J _ _ _ _ _ 156 _
  have hf_864 : Fm (fun _ _ => False) (fun f9 b9 => b9 = h) (fun _ => False) S (nO S_808 q_860 10) := (hf_856.nO _ hq_861)
  refine j_callI C [] [.ref q_860, .int 2, .ref q_149] mlX9_38 mcX10_init (c_X10_init (nO S_808 q_860 10) q_860 mem_new (kd_nO' (k := 10))) (M.rm (by decide) (by decide) (Nat.le_of_ble_eq_true rfl) (Nat.le_of_ble_eq_true rfl)) rfl rfl (Nat.le_of_ble_eq_true rfl) dX9_init_156 (fun r_874 S_875 hp_876 => ?_)
  obtain ⟨rfl, hf_877, e_866, e_867, q_865, e_868, e_869, e_870, e_871, e_872, hNl_873⟩ := hp_876
  refine J.eq (st' := [.ref q_860, .int 2, .ref q_149]) rfl rfl rfl ?_
  have hz_878 : ∀ j, aI S_875 q_149 j = 0 := fun j9 => (hf_877.ai (mem_old hm_813) (fun h9 => h9) j9).trans (hz_816 j9)
  have hz_879 : ∀ j, aI S_875 q_244 j = 0 := fun j9 => (hf_877.ai (mem_old hm_817) (fun h9 => h9) j9).trans (hz_820 j9)
  have hz_880 : ∀ j, aI S_875 q_271 j = 0 := fun j9 => (hf_877.ai (mem_old hm_821) (fun h9 => h9) j9).trans (hz_824 j9)
  have hz_881 : ∀ j, aI S_875 q_490 j = 0 := fun j9 => (hf_877.ai (mem_old hm_825) (fun h9 => h9) j9).trans (hz_828 j9)
  have hz_882 : ∀ j, aI S_875 q_529 j = 0 := fun j9 => (hf_877.ai (mem_old hm_829) (fun h9 => h9) j9).trans (hz_832 j9)
  have hz_883 : ∀ j, aI S_875 q_572 j = 0 := fun j9 => (hf_877.ai (mem_old hm_833) (fun h9 => h9) j9).trans (hz_836 j9)
  have hm_884 : h ∈ hL S_875 := hf_877.mem (mem_old hm_811)
  have hk_885 : Kd S_875 h 9 := hf_877.kd (mem_old hm_811) (kd_nO (k := 10) hq_861 hm_811 hk_812)
  have hm_886 : q_149 ∈ hL S_875 := hf_877.mem (mem_old hm_813)
  have hk_887 : Kd S_875 q_149 20 := hf_877.kd (mem_old hm_813) (kd_nO (k := 10) hq_861 hm_813 hk_814)
  have hn_888 : Ln S_875 q_149 16 := hf_877.ln (mem_old hm_813) hn_815
  have hm_889 : q_244 ∈ hL S_875 := hf_877.mem (mem_old hm_817)
  have hk_890 : Kd S_875 q_244 13 := hf_877.kd (mem_old hm_817) (kd_nO (k := 10) hq_861 hm_817 hk_818)
  have hn_891 : Ln S_875 q_244 24000 := hf_877.ln (mem_old hm_817) hn_819
  have hm_892 : q_271 ∈ hL S_875 := hf_877.mem (mem_old hm_821)
  have hk_893 : Kd S_875 q_271 14 := hf_877.kd (mem_old hm_821) (kd_nO (k := 10) hq_861 hm_821 hk_822)
  have hn_894 : Ln S_875 q_271 16 := hf_877.ln (mem_old hm_821) hn_823
  have hm_895 : q_490 ∈ hL S_875 := hf_877.mem (mem_old hm_825)
  have hk_896 : Kd S_875 q_490 18 := hf_877.kd (mem_old hm_825) (kd_nO (k := 10) hq_861 hm_825 hk_826)
  have hn_897 : Ln S_875 q_490 3 := hf_877.ln (mem_old hm_825) hn_827
  have hm_898 : q_529 ∈ hL S_875 := hf_877.mem (mem_old hm_829)
  have hk_899 : Kd S_875 q_529 19 := hf_877.kd (mem_old hm_829) (kd_nO (k := 10) hq_861 hm_829 hk_830)
  have hn_900 : Ln S_875 q_529 4 := hf_877.ln (mem_old hm_829) hn_831
  have hm_901 : q_572 ∈ hL S_875 := hf_877.mem (mem_old hm_833)
  have hk_902 : Kd S_875 q_572 14 := hf_877.kd (mem_old hm_833) (kd_nO (k := 10) hq_861 hm_833 hk_834)
  have hn_903 : Ln S_875 q_572 12 := hf_877.ln (mem_old hm_833) hn_835
  have hm_904 : q_860 ∈ hL S_875 := hf_877.mem mem_new
  have hk_905 : Kd S_875 q_860 10 := hf_877.kd mem_new (kd_nO' (k := 10))
  have hv_906 : hR S_875 900 h = (some s0) := hf_877.fr (mem_old hm_811) (fun q9 => (fun e9 => absurd (((kd_nO (k := 10) hq_861 hm_811 hk_812)).symm.trans ((congrArg (hK _) e9).trans (kd_nO' (k := 10)))) (by decide)) q9) (rd_nOR (k := 10) hq_861 hm_811 hv_842)
  have hv_907 : hR S_875 901 h = (some q_1) := hf_877.fr (mem_old hm_811) (fun q9 => (fun e9 => absurd (((kd_nO (k := 10) hq_861 hm_811 hk_812)).symm.trans ((congrArg (hK _) e9).trans (kd_nO' (k := 10)))) (by decide)) q9) (rd_nOR (k := 10) hq_861 hm_811 hv_843)
  have hv_908 : hR S_875 902 h = (some q_37) := hf_877.fr (mem_old hm_811) (fun q9 => (fun e9 => absurd (((kd_nO (k := 10) hq_861 hm_811 hk_812)).symm.trans ((congrArg (hK _) e9).trans (kd_nO' (k := 10)))) (by decide)) q9) (rd_nOR (k := 10) hq_861 hm_811 hv_844)
  have hv_909 : hR S_875 903 h = (some q_118) := hf_877.fr (mem_old hm_811) (fun q9 => (fun e9 => absurd (((kd_nO (k := 10) hq_861 hm_811 hk_812)).symm.trans ((congrArg (hK _) e9).trans (kd_nO' (k := 10)))) (by decide)) q9) (rd_nOR (k := 10) hq_861 hm_811 hv_845)
  have hv_910 : hR S_875 904 h = (some q_149) := hf_877.fr (mem_old hm_811) (fun q9 => (fun e9 => absurd (((kd_nO (k := 10) hq_861 hm_811 hk_812)).symm.trans ((congrArg (hK _) e9).trans (kd_nO' (k := 10)))) (by decide)) q9) (rd_nOR (k := 10) hq_861 hm_811 hv_846)
  have hv_911 : hR S_875 905 h = (some q_169) := hf_877.fr (mem_old hm_811) (fun q9 => (fun e9 => absurd (((kd_nO (k := 10) hq_861 hm_811 hk_812)).symm.trans ((congrArg (hK _) e9).trans (kd_nO' (k := 10)))) (by decide)) q9) (rd_nOR (k := 10) hq_861 hm_811 hv_847)
  have hv_912 : hR S_875 906 h = (some q_206) := hf_877.fr (mem_old hm_811) (fun q9 => (fun e9 => absurd (((kd_nO (k := 10) hq_861 hm_811 hk_812)).symm.trans ((congrArg (hK _) e9).trans (kd_nO' (k := 10)))) (by decide)) q9) (rd_nOR (k := 10) hq_861 hm_811 hv_848)
  have hv_913 : hR S_875 907 h = (some q_244) := hf_877.fr (mem_old hm_811) (fun q9 => (fun e9 => absurd (((kd_nO (k := 10) hq_861 hm_811 hk_812)).symm.trans ((congrArg (hK _) e9).trans (kd_nO' (k := 10)))) (by decide)) q9) (rd_nOR (k := 10) hq_861 hm_811 hv_849)
  have hv_914 : hR S_875 908 h = (some q_271) := hf_877.fr (mem_old hm_811) (fun q9 => (fun e9 => absurd (((kd_nO (k := 10) hq_861 hm_811 hk_812)).symm.trans ((congrArg (hK _) e9).trans (kd_nO' (k := 10)))) (by decide)) q9) (rd_nOR (k := 10) hq_861 hm_811 hv_850)
  have hv_915 : hR S_875 909 h = (some q_302) := hf_877.fr (mem_old hm_811) (fun q9 => (fun e9 => absurd (((kd_nO (k := 10) hq_861 hm_811 hk_812)).symm.trans ((congrArg (hK _) e9).trans (kd_nO' (k := 10)))) (by decide)) q9) (rd_nOR (k := 10) hq_861 hm_811 hv_851)
  have hv_916 : hR S_875 910 h = (some q_395) := hf_877.fr (mem_old hm_811) (fun q9 => (fun e9 => absurd (((kd_nO (k := 10) hq_861 hm_811 hk_812)).symm.trans ((congrArg (hK _) e9).trans (kd_nO' (k := 10)))) (by decide)) q9) (rd_nOR (k := 10) hq_861 hm_811 hv_852)
  have hv_917 : hR S_875 911 h = (some q_490) := hf_877.fr (mem_old hm_811) (fun q9 => (fun e9 => absurd (((kd_nO (k := 10) hq_861 hm_811 hk_812)).symm.trans ((congrArg (hK _) e9).trans (kd_nO' (k := 10)))) (by decide)) q9) (rd_nOR (k := 10) hq_861 hm_811 hv_853)
  have hv_918 : hR S_875 912 h = (some q_529) := hf_877.fr (mem_old hm_811) (fun q9 => (fun e9 => absurd (((kd_nO (k := 10) hq_861 hm_811 hk_812)).symm.trans ((congrArg (hK _) e9).trans (kd_nO' (k := 10)))) (by decide)) q9) (rd_nOR (k := 10) hq_861 hm_811 hv_854)
  have hv_919 : hR S_875 917 h = (some q_572) := hf_877.fr (mem_old hm_811) (fun q9 => (fun e9 => absurd (((kd_nO (k := 10) hq_861 hm_811 hk_812)).symm.trans ((congrArg (hK _) e9).trans (kd_nO' (k := 10)))) (by decide)) q9) (rd_nOR (k := 10) hq_861 hm_811 hv_855)
  have hf_920 : Fm (fun _ _ => False) (fun f9 b9 => b9 = h) (fun _ => False) S S_875 := hf_864.then hf_877 (fun a9 ha9 => ⟨(fun f9 h9 => (fun h9 => h9.elim (fun h8 => absurd (h8.2 ▸ ha9) hz_862) (fun h8 => absurd (h8.2 ▸ ha9) hz_862)) h9), (fun f9 h9 => (fun h8 => absurd (h8 ▸ ha9) hz_862) h9), (fun h9 => h9.elim)⟩)
  have hN_921 : NL S [q_1, q_5, q_6, q_37, q_43, q_44, q_45, q_46, q_47, q_48, q_49, q_50, q_118, q_124, q_149, q_169, q_174, q_206, q_212, q_244, q_271, q_302, q_307, q_308, q_309, q_310, q_311, q_312, q_313, q_314, q_395, q_401, q_402, q_403, q_404, q_405, q_406, q_407, q_408, q_490, q_529, q_572, q_621, q_626, q_740, q_745, q_860] S_875 := NL.mono (show NL S [q_1, q_5, q_6, q_37, q_43, q_44, q_45, q_46, q_47, q_48, q_49, q_50, q_118, q_124, q_149, q_169, q_174, q_206, q_212, q_244, q_271, q_302, q_307, q_308, q_309, q_310, q_311, q_312, q_313, q_314, q_395, q_401, q_402, q_403, q_404, q_405, q_406, q_407, q_408, q_490, q_529, q_572, q_621, q_626, q_740, q_745, q_860] (nO S_808 q_860 10) from NL.nO hN_857 hq_861 hz_862) (fun a9 h9 => hf_877.mem h9)
  have hG_922 : Gs h [(3, [q_1, q_5, q_6]), (4, [q_37, q_43, q_44, q_45, q_46, q_47, q_48, q_49, q_50]), (0, [q_118, q_124]), (1, [q_169, q_174]), (0, [q_206, q_212]), (2, [q_302, q_307, q_308, q_309, q_310, q_311, q_312, q_313, q_314]), (2, [q_395, q_401, q_402, q_403, q_404, q_405, q_406, q_407, q_408]), (1, [q_621, q_626]), (1, [q_740, q_745])] S_875 := Gs.fm (show Gs h [(3, [q_1, q_5, q_6]), (4, [q_37, q_43, q_44, q_45, q_46, q_47, q_48, q_49, q_50]), (0, [q_118, q_124]), (1, [q_169, q_174]), (0, [q_206, q_212]), (2, [q_302, q_307, q_308, q_309, q_310, q_311, q_312, q_313, q_314]), (2, [q_395, q_401, q_402, q_403, q_404, q_405, q_406, q_407, q_408]), (1, [q_621, q_626]), (1, [q_740, q_745])] (nO S_808 q_860 10) from Gs.nO hG_858 hq_861) hf_877 (fun g9 hg9 p9 hp9 => gn_863 g9 hg9 p9 hp9)
  have hE_923 : ELs S_875 q_149 [q_621, q_740] := ELs.fm (ELs.nO (S := S_808) hE_859) hf_877 (mem_old hm_813) (fun h9 => h9)
  have hz_924 : q_865 ∉ hL S := fun h9 => e_868 (hf_864.mem h9)
  have hN_925 : NL S [q_1, q_5, q_6, q_37, q_43, q_44, q_45, q_46, q_47, q_48, q_49, q_50, q_118, q_124, q_149, q_169, q_174, q_206, q_212, q_244, q_271, q_302, q_307, q_308, q_309, q_310, q_311, q_312, q_313, q_314, q_395, q_401, q_402, q_403, q_404, q_405, q_406, q_407, q_408, q_490, q_529, q_572, q_621, q_626, q_740, q_745, q_860, q_865] S_875 := NL.app (show NL S [q_1, q_5, q_6, q_37, q_43, q_44, q_45, q_46, q_47, q_48, q_49, q_50, q_118, q_124, q_149, q_169, q_174, q_206, q_212, q_244, q_271, q_302, q_307, q_308, q_309, q_310, q_311, q_312, q_313, q_314, q_395, q_401, q_402, q_403, q_404, q_405, q_406, q_407, q_408, q_490, q_529, q_572, q_621, q_626, q_740, q_745, q_860] (nO S_808 q_860 10) from NL.nO hN_857 hq_861 hz_862) hNl_873 (fun a9 h9 => hf_877.mem h9) (fun a9 h9 => hf_864.mem h9)
  have hGt_926 : Gt 1 [q_860, q_865] S_875 := ⟨fun i9 k9 h9 => (match i9, h9 with | 0, h9 => (by have e9 : (10 : Nat) = k9 := Option.some.inj h9; subst e9; exact ⟨hm_904, hk_905⟩) | 1, h9 => (by have e9 : (15 : Nat) = k9 := Option.some.inj h9; subst e9; exact ⟨e_869, e_870⟩) | i9 + 2, h9 => absurd h9 (by simp [gT])), (List.forall_mem_cons.mpr ⟨e_871, (fun _ h9 => absurd h9 List.not_mem_nil)⟩), (List.forall_mem_cons.mpr ⟨e_872, (fun _ h9 => absurd h9 List.not_mem_nil)⟩), (fun _ h9 => absurd h9 List.not_mem_nil)⟩
  have hG_927 : Gs h [(3, [q_1, q_5, q_6]), (4, [q_37, q_43, q_44, q_45, q_46, q_47, q_48, q_49, q_50]), (0, [q_118, q_124]), (1, [q_169, q_174]), (0, [q_206, q_212]), (2, [q_302, q_307, q_308, q_309, q_310, q_311, q_312, q_313, q_314]), (2, [q_395, q_401, q_402, q_403, q_404, q_405, q_406, q_407, q_408]), (1, [q_621, q_626]), (1, [q_740, q_745]), (1, [q_860, q_865])] S_875 := Gs.snoc hG_922 (by decide) hGt_926 (List.forall_mem_cons.mpr ⟨(fun e9 => hz_862 (e9 ▸ hm)), (fun _ h9 => absurd h9 List.not_mem_nil)⟩)
  refine j_aast (j := 2) (ci := 10) C 20  (by decide) rfl dX9_init_159 hm_886 hk_887 (inr_of (n := 16) hn_888 (vp_lit (by decide))) (by decide) hm_904 hk_905 rfl ?_
  have hf_930 : Fm (fun _ _ => False) (fun f9 b9 => b9 = h) (fun _ => False) S (tR S_875 q_149 2 (some q_860)) := (hf_920.tR _ _ (fun h9 => absurd h9 hz_152))
  obtain ⟨S_928, eS_929⟩ : ∃ S9 : Hp, S9 = (tR S_875 q_149 2 (some q_860)) := ⟨_, rfl⟩
  refine J.eq (S' := S_928) eS_929.symm rfl rfl ?_
  have hm_931 : h ∈ hL S_928 := by rw [eS_929]; exact hm_884
  have hk_932 : Kd S_928 h 9 := by rw [eS_929]; exact hk_885
  have hm_933 : q_149 ∈ hL S_928 := by rw [eS_929]; exact hm_886
  have hk_934 : Kd S_928 q_149 20 := by rw [eS_929]; exact hk_887
  have hn_935 : Ln S_928 q_149 16 := by rw [eS_929]; exact hn_888
  have hz_936 : ∀ j, aI S_928 q_149 j = 0 := by rw [eS_929]; exact hz_878
  have hm_937 : q_244 ∈ hL S_928 := by rw [eS_929]; exact hm_889
  have hk_938 : Kd S_928 q_244 13 := by rw [eS_929]; exact hk_890
  have hn_939 : Ln S_928 q_244 24000 := by rw [eS_929]; exact hn_891
  have hz_940 : ∀ j, aI S_928 q_244 j = 0 := by rw [eS_929]; exact hz_879
  have hm_941 : q_271 ∈ hL S_928 := by rw [eS_929]; exact hm_892
  have hk_942 : Kd S_928 q_271 14 := by rw [eS_929]; exact hk_893
  have hn_943 : Ln S_928 q_271 16 := by rw [eS_929]; exact hn_894
  have hz_944 : ∀ j, aI S_928 q_271 j = 0 := by rw [eS_929]; exact hz_880
  have hm_945 : q_490 ∈ hL S_928 := by rw [eS_929]; exact hm_895
  have hk_946 : Kd S_928 q_490 18 := by rw [eS_929]; exact hk_896
  have hn_947 : Ln S_928 q_490 3 := by rw [eS_929]; exact hn_897
  have hz_948 : ∀ j, aI S_928 q_490 j = 0 := by rw [eS_929]; exact hz_881
  have hm_949 : q_529 ∈ hL S_928 := by rw [eS_929]; exact hm_898
  have hk_950 : Kd S_928 q_529 19 := by rw [eS_929]; exact hk_899
  have hn_951 : Ln S_928 q_529 4 := by rw [eS_929]; exact hn_900
  have hz_952 : ∀ j, aI S_928 q_529 j = 0 := by rw [eS_929]; exact hz_882
  have hm_953 : q_572 ∈ hL S_928 := by rw [eS_929]; exact hm_901
  have hk_954 : Kd S_928 q_572 14 := by rw [eS_929]; exact hk_902
  have hn_955 : Ln S_928 q_572 12 := by rw [eS_929]; exact hn_903
  have hz_956 : ∀ j, aI S_928 q_572 j = 0 := by rw [eS_929]; exact hz_883
  have hm_957 : q_860 ∈ hL S_928 := by rw [eS_929]; exact hm_904
  have hk_958 : Kd S_928 q_860 10 := by rw [eS_929]; exact hk_905
  have hv_959 : hI S_928 1000 q_860 = 1 := by rw [eS_929]; exact e_866
  have hv_960 : hI S_928 1001 q_860 = 1 := by rw [eS_929]; exact e_867
  have hv_961 : hR S_928 1003 q_860 = (some q_865) := by rw [eS_929]; exact e_872
  have hv_962 : hR S_928 900 h = (some s0) := by rw [eS_929]; exact hv_906
  have hv_963 : hR S_928 901 h = (some q_1) := by rw [eS_929]; exact hv_907
  have hv_964 : hR S_928 902 h = (some q_37) := by rw [eS_929]; exact hv_908
  have hv_965 : hR S_928 903 h = (some q_118) := by rw [eS_929]; exact hv_909
  have hv_966 : hR S_928 904 h = (some q_149) := by rw [eS_929]; exact hv_910
  have hv_967 : hR S_928 905 h = (some q_169) := by rw [eS_929]; exact hv_911
  have hv_968 : hR S_928 906 h = (some q_206) := by rw [eS_929]; exact hv_912
  have hv_969 : hR S_928 907 h = (some q_244) := by rw [eS_929]; exact hv_913
  have hv_970 : hR S_928 908 h = (some q_271) := by rw [eS_929]; exact hv_914
  have hv_971 : hR S_928 909 h = (some q_302) := by rw [eS_929]; exact hv_915
  have hv_972 : hR S_928 910 h = (some q_395) := by rw [eS_929]; exact hv_916
  have hv_973 : hR S_928 911 h = (some q_490) := by rw [eS_929]; exact hv_917
  have hv_974 : hR S_928 912 h = (some q_529) := by rw [eS_929]; exact hv_918
  have hv_975 : hR S_928 917 h = (some q_572) := by rw [eS_929]; exact hv_919
  have hf_976 : Fm (fun _ _ => False) (fun f9 b9 => b9 = h) (fun _ => False) S S_928 := by rw [eS_929]; exact hf_930
  have hN_977 : NL S [q_1, q_5, q_6, q_37, q_43, q_44, q_45, q_46, q_47, q_48, q_49, q_50, q_118, q_124, q_149, q_169, q_174, q_206, q_212, q_244, q_271, q_302, q_307, q_308, q_309, q_310, q_311, q_312, q_313, q_314, q_395, q_401, q_402, q_403, q_404, q_405, q_406, q_407, q_408, q_490, q_529, q_572, q_621, q_626, q_740, q_745, q_860, q_865] S_928 := by rw [eS_929]; exact (NL.tR (S := S_875) hN_925)
  have hG_978 : Gs h [(3, [q_1, q_5, q_6]), (4, [q_37, q_43, q_44, q_45, q_46, q_47, q_48, q_49, q_50]), (0, [q_118, q_124]), (1, [q_169, q_174]), (0, [q_206, q_212]), (2, [q_302, q_307, q_308, q_309, q_310, q_311, q_312, q_313, q_314]), (2, [q_395, q_401, q_402, q_403, q_404, q_405, q_406, q_407, q_408]), (1, [q_621, q_626]), (1, [q_740, q_745]), (1, [q_860, q_865])] S_928 := by rw [eS_929]; exact (Gs.tR (S := S_875) hG_927)
  have hE_979 : ELs S_928 q_149 [q_621, q_740, q_860] := by rw [eS_929]; exact (show ELs (tR S_875 q_149 2 (some q_860)) q_149 [q_621, q_740, q_860] from ELs.snoc hE_923 rfl)
  refine j_iinc (q := 0) (v := 3) (lv' := [(2, .int 3), (0, .ref h), (1, .ref s0)]) C dX9_init_160 rfl (by decide) (by rw [hn9]; decide) rfl ?_
  refine j_goto (tgt := 138) C dX9_init_163 (by decide) ?_
  refine j_iload_n C dX9_init_138 rfl 0 rfl ?_
  refine j_aload_n C dX9_init_139 rfl 1 rfl ?_
  refine j_getr (f := 904) (v := q_149) C flX9_34 dX9_init_140 hm_931 hk_932 (by decide) rfl hv_966 ?_
  refine j_alen (v := 16) C dX9_init_143 hm_933 hk_934 (by decide) (by decide) (len_of (n := 16) hn_935 (by decide)) ?_
  show J _ _ _ _ _ 144 _
  refine j_ic_ge (tgt := 166) C dX9_init_144 (by decide) (fun c9 => absurd c9 (by decide)) (fun c9 => ?_)
  refine j_aload_n C dX9_init_147 rfl 1 rfl ?_
  refine j_getr (f := 904) (v := q_149) C flX9_34 dX9_init_148 hm_931 hk_932 (by decide) rfl hv_966 ?_
  refine j_iload_n C dX9_init_151 rfl 0 rfl ?_
  refine j_new (N := 4) C (ci := 10) rfl rfl klX9_32 knX10 kiX10 (M.cells (by decide)) (M.slots (by decide)) dX9_init_152 (fun q_980 hq_981 => ?_)
  have hz_982 : q_980 ∉ hL S := fun h9 => hq_981 (hf_976.mem h9)
  have gn_983 : ∀ g9 ∈ ([(3, [q_1, q_5, q_6]), (4, [q_37, q_43, q_44, q_45, q_46, q_47, q_48, q_49, q_50]), (0, [q_118, q_124]), (1, [q_169, q_174]), (0, [q_206, q_212]), (2, [q_302, q_307, q_308, q_309, q_310, q_311, q_312, q_313, q_314]), (2, [q_395, q_401, q_402, q_403, q_404, q_405, q_406, q_407, q_408]), (1, [q_621, q_626]), (1, [q_740, q_745]), (1, [q_860, q_865])] : List (Nat × List Nat)), ∀ p9 ∈ (gT g9.1).2.2, g9.2.getD p9.2.1 0 ≠ q_980 := Gs.ne hG_978 hq_981
  refine j_dup C dX9_init_155 rfl ?_
  have hf_984 : Fm (fun _ _ => False) (fun f9 b9 => b9 = h) (fun _ => False) S (nO S_928 q_980 10) := (hf_976.nO _ hq_981)
  refine j_callI C [] [.ref q_980, .int 3, .ref q_149] mlX9_38 mcX10_init (c_X10_init (nO S_928 q_980 10) q_980 mem_new (kd_nO' (k := 10))) (M.rm (by decide) (by decide) (Nat.le_of_ble_eq_true rfl) (Nat.le_of_ble_eq_true rfl)) rfl rfl (Nat.le_of_ble_eq_true rfl) dX9_init_156 (fun r_994 S_995 hp_996 => ?_)
  obtain ⟨rfl, hf_997, e_986, e_987, q_985, e_988, e_989, e_990, e_991, e_992, hNl_993⟩ := hp_996
  refine J.eq (st' := [.ref q_980, .int 3, .ref q_149]) rfl rfl rfl ?_
  have hz_998 : ∀ j, aI S_995 q_149 j = 0 := fun j9 => (hf_997.ai (mem_old hm_933) (fun h9 => h9) j9).trans (hz_936 j9)
  have hz_999 : ∀ j, aI S_995 q_244 j = 0 := fun j9 => (hf_997.ai (mem_old hm_937) (fun h9 => h9) j9).trans (hz_940 j9)
  have hz_1000 : ∀ j, aI S_995 q_271 j = 0 := fun j9 => (hf_997.ai (mem_old hm_941) (fun h9 => h9) j9).trans (hz_944 j9)
  have hz_1001 : ∀ j, aI S_995 q_490 j = 0 := fun j9 => (hf_997.ai (mem_old hm_945) (fun h9 => h9) j9).trans (hz_948 j9)
  have hz_1002 : ∀ j, aI S_995 q_529 j = 0 := fun j9 => (hf_997.ai (mem_old hm_949) (fun h9 => h9) j9).trans (hz_952 j9)
  have hz_1003 : ∀ j, aI S_995 q_572 j = 0 := fun j9 => (hf_997.ai (mem_old hm_953) (fun h9 => h9) j9).trans (hz_956 j9)
  have hm_1004 : h ∈ hL S_995 := hf_997.mem (mem_old hm_931)
  have hk_1005 : Kd S_995 h 9 := hf_997.kd (mem_old hm_931) (kd_nO (k := 10) hq_981 hm_931 hk_932)
  have hm_1006 : q_149 ∈ hL S_995 := hf_997.mem (mem_old hm_933)
  have hk_1007 : Kd S_995 q_149 20 := hf_997.kd (mem_old hm_933) (kd_nO (k := 10) hq_981 hm_933 hk_934)
  have hn_1008 : Ln S_995 q_149 16 := hf_997.ln (mem_old hm_933) hn_935
  have hm_1009 : q_244 ∈ hL S_995 := hf_997.mem (mem_old hm_937)
  have hk_1010 : Kd S_995 q_244 13 := hf_997.kd (mem_old hm_937) (kd_nO (k := 10) hq_981 hm_937 hk_938)
  have hn_1011 : Ln S_995 q_244 24000 := hf_997.ln (mem_old hm_937) hn_939
  have hm_1012 : q_271 ∈ hL S_995 := hf_997.mem (mem_old hm_941)
  have hk_1013 : Kd S_995 q_271 14 := hf_997.kd (mem_old hm_941) (kd_nO (k := 10) hq_981 hm_941 hk_942)
  have hn_1014 : Ln S_995 q_271 16 := hf_997.ln (mem_old hm_941) hn_943
  have hm_1015 : q_490 ∈ hL S_995 := hf_997.mem (mem_old hm_945)
  have hk_1016 : Kd S_995 q_490 18 := hf_997.kd (mem_old hm_945) (kd_nO (k := 10) hq_981 hm_945 hk_946)
  have hn_1017 : Ln S_995 q_490 3 := hf_997.ln (mem_old hm_945) hn_947
  have hm_1018 : q_529 ∈ hL S_995 := hf_997.mem (mem_old hm_949)
  have hk_1019 : Kd S_995 q_529 19 := hf_997.kd (mem_old hm_949) (kd_nO (k := 10) hq_981 hm_949 hk_950)
  have hn_1020 : Ln S_995 q_529 4 := hf_997.ln (mem_old hm_949) hn_951
  have hm_1021 : q_572 ∈ hL S_995 := hf_997.mem (mem_old hm_953)
  have hk_1022 : Kd S_995 q_572 14 := hf_997.kd (mem_old hm_953) (kd_nO (k := 10) hq_981 hm_953 hk_954)
  have hn_1023 : Ln S_995 q_572 12 := hf_997.ln (mem_old hm_953) hn_955
  have hm_1024 : q_980 ∈ hL S_995 := hf_997.mem mem_new
  have hk_1025 : Kd S_995 q_980 10 := hf_997.kd mem_new (kd_nO' (k := 10))
  have hv_1026 : hR S_995 900 h = (some s0) := hf_997.fr (mem_old hm_931) (fun q9 => (fun e9 => absurd (((kd_nO (k := 10) hq_981 hm_931 hk_932)).symm.trans ((congrArg (hK _) e9).trans (kd_nO' (k := 10)))) (by decide)) q9) (rd_nOR (k := 10) hq_981 hm_931 hv_962)
  have hv_1027 : hR S_995 901 h = (some q_1) := hf_997.fr (mem_old hm_931) (fun q9 => (fun e9 => absurd (((kd_nO (k := 10) hq_981 hm_931 hk_932)).symm.trans ((congrArg (hK _) e9).trans (kd_nO' (k := 10)))) (by decide)) q9) (rd_nOR (k := 10) hq_981 hm_931 hv_963)
  have hv_1028 : hR S_995 902 h = (some q_37) := hf_997.fr (mem_old hm_931) (fun q9 => (fun e9 => absurd (((kd_nO (k := 10) hq_981 hm_931 hk_932)).symm.trans ((congrArg (hK _) e9).trans (kd_nO' (k := 10)))) (by decide)) q9) (rd_nOR (k := 10) hq_981 hm_931 hv_964)
  have hv_1029 : hR S_995 903 h = (some q_118) := hf_997.fr (mem_old hm_931) (fun q9 => (fun e9 => absurd (((kd_nO (k := 10) hq_981 hm_931 hk_932)).symm.trans ((congrArg (hK _) e9).trans (kd_nO' (k := 10)))) (by decide)) q9) (rd_nOR (k := 10) hq_981 hm_931 hv_965)
  have hv_1030 : hR S_995 904 h = (some q_149) := hf_997.fr (mem_old hm_931) (fun q9 => (fun e9 => absurd (((kd_nO (k := 10) hq_981 hm_931 hk_932)).symm.trans ((congrArg (hK _) e9).trans (kd_nO' (k := 10)))) (by decide)) q9) (rd_nOR (k := 10) hq_981 hm_931 hv_966)
  have hv_1031 : hR S_995 905 h = (some q_169) := hf_997.fr (mem_old hm_931) (fun q9 => (fun e9 => absurd (((kd_nO (k := 10) hq_981 hm_931 hk_932)).symm.trans ((congrArg (hK _) e9).trans (kd_nO' (k := 10)))) (by decide)) q9) (rd_nOR (k := 10) hq_981 hm_931 hv_967)
  have hv_1032 : hR S_995 906 h = (some q_206) := hf_997.fr (mem_old hm_931) (fun q9 => (fun e9 => absurd (((kd_nO (k := 10) hq_981 hm_931 hk_932)).symm.trans ((congrArg (hK _) e9).trans (kd_nO' (k := 10)))) (by decide)) q9) (rd_nOR (k := 10) hq_981 hm_931 hv_968)
  have hv_1033 : hR S_995 907 h = (some q_244) := hf_997.fr (mem_old hm_931) (fun q9 => (fun e9 => absurd (((kd_nO (k := 10) hq_981 hm_931 hk_932)).symm.trans ((congrArg (hK _) e9).trans (kd_nO' (k := 10)))) (by decide)) q9) (rd_nOR (k := 10) hq_981 hm_931 hv_969)
  have hv_1034 : hR S_995 908 h = (some q_271) := hf_997.fr (mem_old hm_931) (fun q9 => (fun e9 => absurd (((kd_nO (k := 10) hq_981 hm_931 hk_932)).symm.trans ((congrArg (hK _) e9).trans (kd_nO' (k := 10)))) (by decide)) q9) (rd_nOR (k := 10) hq_981 hm_931 hv_970)
  have hv_1035 : hR S_995 909 h = (some q_302) := hf_997.fr (mem_old hm_931) (fun q9 => (fun e9 => absurd (((kd_nO (k := 10) hq_981 hm_931 hk_932)).symm.trans ((congrArg (hK _) e9).trans (kd_nO' (k := 10)))) (by decide)) q9) (rd_nOR (k := 10) hq_981 hm_931 hv_971)
  have hv_1036 : hR S_995 910 h = (some q_395) := hf_997.fr (mem_old hm_931) (fun q9 => (fun e9 => absurd (((kd_nO (k := 10) hq_981 hm_931 hk_932)).symm.trans ((congrArg (hK _) e9).trans (kd_nO' (k := 10)))) (by decide)) q9) (rd_nOR (k := 10) hq_981 hm_931 hv_972)
  have hv_1037 : hR S_995 911 h = (some q_490) := hf_997.fr (mem_old hm_931) (fun q9 => (fun e9 => absurd (((kd_nO (k := 10) hq_981 hm_931 hk_932)).symm.trans ((congrArg (hK _) e9).trans (kd_nO' (k := 10)))) (by decide)) q9) (rd_nOR (k := 10) hq_981 hm_931 hv_973)
  have hv_1038 : hR S_995 912 h = (some q_529) := hf_997.fr (mem_old hm_931) (fun q9 => (fun e9 => absurd (((kd_nO (k := 10) hq_981 hm_931 hk_932)).symm.trans ((congrArg (hK _) e9).trans (kd_nO' (k := 10)))) (by decide)) q9) (rd_nOR (k := 10) hq_981 hm_931 hv_974)
  have hv_1039 : hR S_995 917 h = (some q_572) := hf_997.fr (mem_old hm_931) (fun q9 => (fun e9 => absurd (((kd_nO (k := 10) hq_981 hm_931 hk_932)).symm.trans ((congrArg (hK _) e9).trans (kd_nO' (k := 10)))) (by decide)) q9) (rd_nOR (k := 10) hq_981 hm_931 hv_975)
  have hf_1040 : Fm (fun _ _ => False) (fun f9 b9 => b9 = h) (fun _ => False) S S_995 := hf_984.then hf_997 (fun a9 ha9 => ⟨(fun f9 h9 => (fun h9 => h9.elim (fun h8 => absurd (h8.2 ▸ ha9) hz_982) (fun h8 => absurd (h8.2 ▸ ha9) hz_982)) h9), (fun f9 h9 => (fun h8 => absurd (h8 ▸ ha9) hz_982) h9), (fun h9 => h9.elim)⟩)
  have hN_1041 : NL S [q_1, q_5, q_6, q_37, q_43, q_44, q_45, q_46, q_47, q_48, q_49, q_50, q_118, q_124, q_149, q_169, q_174, q_206, q_212, q_244, q_271, q_302, q_307, q_308, q_309, q_310, q_311, q_312, q_313, q_314, q_395, q_401, q_402, q_403, q_404, q_405, q_406, q_407, q_408, q_490, q_529, q_572, q_621, q_626, q_740, q_745, q_860, q_865, q_980] S_995 := NL.mono (show NL S [q_1, q_5, q_6, q_37, q_43, q_44, q_45, q_46, q_47, q_48, q_49, q_50, q_118, q_124, q_149, q_169, q_174, q_206, q_212, q_244, q_271, q_302, q_307, q_308, q_309, q_310, q_311, q_312, q_313, q_314, q_395, q_401, q_402, q_403, q_404, q_405, q_406, q_407, q_408, q_490, q_529, q_572, q_621, q_626, q_740, q_745, q_860, q_865, q_980] (nO S_928 q_980 10) from NL.nO hN_977 hq_981 hz_982) (fun a9 h9 => hf_997.mem h9)
  have hG_1042 : Gs h [(3, [q_1, q_5, q_6]), (4, [q_37, q_43, q_44, q_45, q_46, q_47, q_48, q_49, q_50]), (0, [q_118, q_124]), (1, [q_169, q_174]), (0, [q_206, q_212]), (2, [q_302, q_307, q_308, q_309, q_310, q_311, q_312, q_313, q_314]), (2, [q_395, q_401, q_402, q_403, q_404, q_405, q_406, q_407, q_408]), (1, [q_621, q_626]), (1, [q_740, q_745]), (1, [q_860, q_865])] S_995 := Gs.fm (show Gs h [(3, [q_1, q_5, q_6]), (4, [q_37, q_43, q_44, q_45, q_46, q_47, q_48, q_49, q_50]), (0, [q_118, q_124]), (1, [q_169, q_174]), (0, [q_206, q_212]), (2, [q_302, q_307, q_308, q_309, q_310, q_311, q_312, q_313, q_314]), (2, [q_395, q_401, q_402, q_403, q_404, q_405, q_406, q_407, q_408]), (1, [q_621, q_626]), (1, [q_740, q_745]), (1, [q_860, q_865])] (nO S_928 q_980 10) from Gs.nO hG_978 hq_981) hf_997 (fun g9 hg9 p9 hp9 => gn_983 g9 hg9 p9 hp9)
  have hE_1043 : ELs S_995 q_149 [q_621, q_740, q_860] := ELs.fm (ELs.nO (S := S_928) hE_979) hf_997 (mem_old hm_933) (fun h9 => h9)
  have hz_1044 : q_985 ∉ hL S := fun h9 => e_988 (hf_984.mem h9)
  have hN_1045 : NL S [q_1, q_5, q_6, q_37, q_43, q_44, q_45, q_46, q_47, q_48, q_49, q_50, q_118, q_124, q_149, q_169, q_174, q_206, q_212, q_244, q_271, q_302, q_307, q_308, q_309, q_310, q_311, q_312, q_313, q_314, q_395, q_401, q_402, q_403, q_404, q_405, q_406, q_407, q_408, q_490, q_529, q_572, q_621, q_626, q_740, q_745, q_860, q_865, q_980, q_985] S_995 := NL.app (show NL S [q_1, q_5, q_6, q_37, q_43, q_44, q_45, q_46, q_47, q_48, q_49, q_50, q_118, q_124, q_149, q_169, q_174, q_206, q_212, q_244, q_271, q_302, q_307, q_308, q_309, q_310, q_311, q_312, q_313, q_314, q_395, q_401, q_402, q_403, q_404, q_405, q_406, q_407, q_408, q_490, q_529, q_572, q_621, q_626, q_740, q_745, q_860, q_865, q_980] (nO S_928 q_980 10) from NL.nO hN_977 hq_981 hz_982) hNl_993 (fun a9 h9 => hf_997.mem h9) (fun a9 h9 => hf_984.mem h9)
  have hGt_1046 : Gt 1 [q_980, q_985] S_995 := ⟨fun i9 k9 h9 => (match i9, h9 with | 0, h9 => (by have e9 : (10 : Nat) = k9 := Option.some.inj h9; subst e9; exact ⟨hm_1024, hk_1025⟩) | 1, h9 => (by have e9 : (15 : Nat) = k9 := Option.some.inj h9; subst e9; exact ⟨e_989, e_990⟩) | i9 + 2, h9 => absurd h9 (by simp [gT])), (List.forall_mem_cons.mpr ⟨e_991, (fun _ h9 => absurd h9 List.not_mem_nil)⟩), (List.forall_mem_cons.mpr ⟨e_992, (fun _ h9 => absurd h9 List.not_mem_nil)⟩), (fun _ h9 => absurd h9 List.not_mem_nil)⟩
  have hG_1047 : Gs h [(3, [q_1, q_5, q_6]), (4, [q_37, q_43, q_44, q_45, q_46, q_47, q_48, q_49, q_50]), (0, [q_118, q_124]), (1, [q_169, q_174]), (0, [q_206, q_212]), (2, [q_302, q_307, q_308, q_309, q_310, q_311, q_312, q_313, q_314]), (2, [q_395, q_401, q_402, q_403, q_404, q_405, q_406, q_407, q_408]), (1, [q_621, q_626]), (1, [q_740, q_745]), (1, [q_860, q_865]), (1, [q_980, q_985])] S_995 := Gs.snoc hG_1042 (by decide) hGt_1046 (List.forall_mem_cons.mpr ⟨(fun e9 => hz_982 (e9 ▸ hm)), (fun _ h9 => absurd h9 List.not_mem_nil)⟩)
  refine j_aast (j := 3) (ci := 10) C 20  (by decide) rfl dX9_init_159 hm_1006 hk_1007 (inr_of (n := 16) hn_1008 (vp_lit (by decide))) (by decide) hm_1024 hk_1025 rfl ?_
  have hf_1050 : Fm (fun _ _ => False) (fun f9 b9 => b9 = h) (fun _ => False) S (tR S_995 q_149 3 (some q_980)) := (hf_1040.tR _ _ (fun h9 => absurd h9 hz_152))
  obtain ⟨S_1048, eS_1049⟩ : ∃ S9 : Hp, S9 = (tR S_995 q_149 3 (some q_980)) := ⟨_, rfl⟩
  refine J.eq (S' := S_1048) eS_1049.symm rfl rfl ?_
  have hm_1051 : h ∈ hL S_1048 := by rw [eS_1049]; exact hm_1004
  have hk_1052 : Kd S_1048 h 9 := by rw [eS_1049]; exact hk_1005
  have hm_1053 : q_149 ∈ hL S_1048 := by rw [eS_1049]; exact hm_1006
  have hk_1054 : Kd S_1048 q_149 20 := by rw [eS_1049]; exact hk_1007
  have hn_1055 : Ln S_1048 q_149 16 := by rw [eS_1049]; exact hn_1008
  have hz_1056 : ∀ j, aI S_1048 q_149 j = 0 := by rw [eS_1049]; exact hz_998
  have hm_1057 : q_244 ∈ hL S_1048 := by rw [eS_1049]; exact hm_1009
  have hk_1058 : Kd S_1048 q_244 13 := by rw [eS_1049]; exact hk_1010
  have hn_1059 : Ln S_1048 q_244 24000 := by rw [eS_1049]; exact hn_1011
  have hz_1060 : ∀ j, aI S_1048 q_244 j = 0 := by rw [eS_1049]; exact hz_999
  have hm_1061 : q_271 ∈ hL S_1048 := by rw [eS_1049]; exact hm_1012
  have hk_1062 : Kd S_1048 q_271 14 := by rw [eS_1049]; exact hk_1013
  have hn_1063 : Ln S_1048 q_271 16 := by rw [eS_1049]; exact hn_1014
  have hz_1064 : ∀ j, aI S_1048 q_271 j = 0 := by rw [eS_1049]; exact hz_1000
  have hm_1065 : q_490 ∈ hL S_1048 := by rw [eS_1049]; exact hm_1015
  have hk_1066 : Kd S_1048 q_490 18 := by rw [eS_1049]; exact hk_1016
  have hn_1067 : Ln S_1048 q_490 3 := by rw [eS_1049]; exact hn_1017
  have hz_1068 : ∀ j, aI S_1048 q_490 j = 0 := by rw [eS_1049]; exact hz_1001
  have hm_1069 : q_529 ∈ hL S_1048 := by rw [eS_1049]; exact hm_1018
  have hk_1070 : Kd S_1048 q_529 19 := by rw [eS_1049]; exact hk_1019
  have hn_1071 : Ln S_1048 q_529 4 := by rw [eS_1049]; exact hn_1020
  have hz_1072 : ∀ j, aI S_1048 q_529 j = 0 := by rw [eS_1049]; exact hz_1002
  have hm_1073 : q_572 ∈ hL S_1048 := by rw [eS_1049]; exact hm_1021
  have hk_1074 : Kd S_1048 q_572 14 := by rw [eS_1049]; exact hk_1022
  have hn_1075 : Ln S_1048 q_572 12 := by rw [eS_1049]; exact hn_1023
  have hz_1076 : ∀ j, aI S_1048 q_572 j = 0 := by rw [eS_1049]; exact hz_1003
  have hm_1077 : q_980 ∈ hL S_1048 := by rw [eS_1049]; exact hm_1024
  have hk_1078 : Kd S_1048 q_980 10 := by rw [eS_1049]; exact hk_1025
  have hv_1079 : hI S_1048 1000 q_980 = 1 := by rw [eS_1049]; exact e_986
  have hv_1080 : hI S_1048 1001 q_980 = 1 := by rw [eS_1049]; exact e_987
  have hv_1081 : hR S_1048 1003 q_980 = (some q_985) := by rw [eS_1049]; exact e_992
  have hv_1082 : hR S_1048 900 h = (some s0) := by rw [eS_1049]; exact hv_1026
  have hv_1083 : hR S_1048 901 h = (some q_1) := by rw [eS_1049]; exact hv_1027
  have hv_1084 : hR S_1048 902 h = (some q_37) := by rw [eS_1049]; exact hv_1028
  have hv_1085 : hR S_1048 903 h = (some q_118) := by rw [eS_1049]; exact hv_1029
  have hv_1086 : hR S_1048 904 h = (some q_149) := by rw [eS_1049]; exact hv_1030
  have hv_1087 : hR S_1048 905 h = (some q_169) := by rw [eS_1049]; exact hv_1031
  have hv_1088 : hR S_1048 906 h = (some q_206) := by rw [eS_1049]; exact hv_1032
  have hv_1089 : hR S_1048 907 h = (some q_244) := by rw [eS_1049]; exact hv_1033
  have hv_1090 : hR S_1048 908 h = (some q_271) := by rw [eS_1049]; exact hv_1034
  have hv_1091 : hR S_1048 909 h = (some q_302) := by rw [eS_1049]; exact hv_1035
  have hv_1092 : hR S_1048 910 h = (some q_395) := by rw [eS_1049]; exact hv_1036
  have hv_1093 : hR S_1048 911 h = (some q_490) := by rw [eS_1049]; exact hv_1037
  have hv_1094 : hR S_1048 912 h = (some q_529) := by rw [eS_1049]; exact hv_1038
  have hv_1095 : hR S_1048 917 h = (some q_572) := by rw [eS_1049]; exact hv_1039
  have hf_1096 : Fm (fun _ _ => False) (fun f9 b9 => b9 = h) (fun _ => False) S S_1048 := by rw [eS_1049]; exact hf_1050
  have hN_1097 : NL S [q_1, q_5, q_6, q_37, q_43, q_44, q_45, q_46, q_47, q_48, q_49, q_50, q_118, q_124, q_149, q_169, q_174, q_206, q_212, q_244, q_271, q_302, q_307, q_308, q_309, q_310, q_311, q_312, q_313, q_314, q_395, q_401, q_402, q_403, q_404, q_405, q_406, q_407, q_408, q_490, q_529, q_572, q_621, q_626, q_740, q_745, q_860, q_865, q_980, q_985] S_1048 := by rw [eS_1049]; exact (NL.tR (S := S_995) hN_1045)
  have hG_1098 : Gs h [(3, [q_1, q_5, q_6]), (4, [q_37, q_43, q_44, q_45, q_46, q_47, q_48, q_49, q_50]), (0, [q_118, q_124]), (1, [q_169, q_174]), (0, [q_206, q_212]), (2, [q_302, q_307, q_308, q_309, q_310, q_311, q_312, q_313, q_314]), (2, [q_395, q_401, q_402, q_403, q_404, q_405, q_406, q_407, q_408]), (1, [q_621, q_626]), (1, [q_740, q_745]), (1, [q_860, q_865]), (1, [q_980, q_985])] S_1048 := by rw [eS_1049]; exact (Gs.tR (S := S_995) hG_1047)
  have hE_1099 : ELs S_1048 q_149 [q_621, q_740, q_860, q_980] := by rw [eS_1049]; exact (show ELs (tR S_995 q_149 3 (some q_980)) q_149 [q_621, q_740, q_860, q_980] from ELs.snoc hE_1043 rfl)
  show J _ _ _ _ _ 160 _
  refine j_iinc (q := 0) (v := 4) (lv' := [(2, .int 4), (0, .ref h), (1, .ref s0)]) C dX9_init_160 rfl (by decide) (by rw [hn9]; decide) rfl ?_
  refine j_goto (tgt := 138) C dX9_init_163 (by decide) ?_
  refine j_iload_n C dX9_init_138 rfl 0 rfl ?_
  refine j_aload_n C dX9_init_139 rfl 1 rfl ?_
  refine j_getr (f := 904) (v := q_149) C flX9_34 dX9_init_140 hm_1051 hk_1052 (by decide) rfl hv_1086 ?_
  refine j_alen (v := 16) C dX9_init_143 hm_1053 hk_1054 (by decide) (by decide) (len_of (n := 16) hn_1055 (by decide)) ?_
  refine j_ic_ge (tgt := 166) C dX9_init_144 (by decide) (fun c9 => absurd c9 (by decide)) (fun c9 => ?_)
  refine j_aload_n C dX9_init_147 rfl 1 rfl ?_
  show J _ _ _ _ _ 148 _
  refine j_getr (f := 904) (v := q_149) C flX9_34 dX9_init_148 hm_1051 hk_1052 (by decide) rfl hv_1086 ?_
  refine j_iload_n C dX9_init_151 rfl 0 rfl ?_
  refine j_new (N := 4) C (ci := 10) rfl rfl klX9_32 knX10 kiX10 (M.cells (by decide)) (M.slots (by decide)) dX9_init_152 (fun q_1100 hq_1101 => ?_)
  have hz_1102 : q_1100 ∉ hL S := fun h9 => hq_1101 (hf_1096.mem h9)
  have gn_1103 : ∀ g9 ∈ ([(3, [q_1, q_5, q_6]), (4, [q_37, q_43, q_44, q_45, q_46, q_47, q_48, q_49, q_50]), (0, [q_118, q_124]), (1, [q_169, q_174]), (0, [q_206, q_212]), (2, [q_302, q_307, q_308, q_309, q_310, q_311, q_312, q_313, q_314]), (2, [q_395, q_401, q_402, q_403, q_404, q_405, q_406, q_407, q_408]), (1, [q_621, q_626]), (1, [q_740, q_745]), (1, [q_860, q_865]), (1, [q_980, q_985])] : List (Nat × List Nat)), ∀ p9 ∈ (gT g9.1).2.2, g9.2.getD p9.2.1 0 ≠ q_1100 := Gs.ne hG_1098 hq_1101
  refine j_dup C dX9_init_155 rfl ?_
  have hf_1104 : Fm (fun _ _ => False) (fun f9 b9 => b9 = h) (fun _ => False) S (nO S_1048 q_1100 10) := (hf_1096.nO _ hq_1101)
  refine j_callI C [] [.ref q_1100, .int 4, .ref q_149] mlX9_38 mcX10_init (c_X10_init (nO S_1048 q_1100 10) q_1100 mem_new (kd_nO' (k := 10))) (M.rm (by decide) (by decide) (Nat.le_of_ble_eq_true rfl) (Nat.le_of_ble_eq_true rfl)) rfl rfl (Nat.le_of_ble_eq_true rfl) dX9_init_156 (fun r_1114 S_1115 hp_1116 => ?_)
  obtain ⟨rfl, hf_1117, e_1106, e_1107, q_1105, e_1108, e_1109, e_1110, e_1111, e_1112, hNl_1113⟩ := hp_1116
  refine J.eq (st' := [.ref q_1100, .int 4, .ref q_149]) rfl rfl rfl ?_
  have hz_1118 : ∀ j, aI S_1115 q_149 j = 0 := fun j9 => (hf_1117.ai (mem_old hm_1053) (fun h9 => h9) j9).trans (hz_1056 j9)
  have hz_1119 : ∀ j, aI S_1115 q_244 j = 0 := fun j9 => (hf_1117.ai (mem_old hm_1057) (fun h9 => h9) j9).trans (hz_1060 j9)
  have hz_1120 : ∀ j, aI S_1115 q_271 j = 0 := fun j9 => (hf_1117.ai (mem_old hm_1061) (fun h9 => h9) j9).trans (hz_1064 j9)
  have hz_1121 : ∀ j, aI S_1115 q_490 j = 0 := fun j9 => (hf_1117.ai (mem_old hm_1065) (fun h9 => h9) j9).trans (hz_1068 j9)
  have hz_1122 : ∀ j, aI S_1115 q_529 j = 0 := fun j9 => (hf_1117.ai (mem_old hm_1069) (fun h9 => h9) j9).trans (hz_1072 j9)
  have hz_1123 : ∀ j, aI S_1115 q_572 j = 0 := fun j9 => (hf_1117.ai (mem_old hm_1073) (fun h9 => h9) j9).trans (hz_1076 j9)
  have hm_1124 : h ∈ hL S_1115 := hf_1117.mem (mem_old hm_1051)
  have hk_1125 : Kd S_1115 h 9 := hf_1117.kd (mem_old hm_1051) (kd_nO (k := 10) hq_1101 hm_1051 hk_1052)
  have hm_1126 : q_1100 ∈ hL S_1115 := hf_1117.mem mem_new
  have hk_1127 : Kd S_1115 q_1100 10 := hf_1117.kd mem_new (kd_nO' (k := 10))
  have hm_1128 : q_149 ∈ hL S_1115 := hf_1117.mem (mem_old hm_1053)
  have hk_1129 : Kd S_1115 q_149 20 := hf_1117.kd (mem_old hm_1053) (kd_nO (k := 10) hq_1101 hm_1053 hk_1054)
  have hn_1130 : Ln S_1115 q_149 16 := hf_1117.ln (mem_old hm_1053) hn_1055
  have hm_1131 : q_244 ∈ hL S_1115 := hf_1117.mem (mem_old hm_1057)
  have hk_1132 : Kd S_1115 q_244 13 := hf_1117.kd (mem_old hm_1057) (kd_nO (k := 10) hq_1101 hm_1057 hk_1058)
  have hn_1133 : Ln S_1115 q_244 24000 := hf_1117.ln (mem_old hm_1057) hn_1059
  have hm_1134 : q_271 ∈ hL S_1115 := hf_1117.mem (mem_old hm_1061)
  have hk_1135 : Kd S_1115 q_271 14 := hf_1117.kd (mem_old hm_1061) (kd_nO (k := 10) hq_1101 hm_1061 hk_1062)
  have hn_1136 : Ln S_1115 q_271 16 := hf_1117.ln (mem_old hm_1061) hn_1063
  have hm_1137 : q_490 ∈ hL S_1115 := hf_1117.mem (mem_old hm_1065)
  have hk_1138 : Kd S_1115 q_490 18 := hf_1117.kd (mem_old hm_1065) (kd_nO (k := 10) hq_1101 hm_1065 hk_1066)
  have hn_1139 : Ln S_1115 q_490 3 := hf_1117.ln (mem_old hm_1065) hn_1067
  have hm_1140 : q_529 ∈ hL S_1115 := hf_1117.mem (mem_old hm_1069)
  have hk_1141 : Kd S_1115 q_529 19 := hf_1117.kd (mem_old hm_1069) (kd_nO (k := 10) hq_1101 hm_1069 hk_1070)
  have hn_1142 : Ln S_1115 q_529 4 := hf_1117.ln (mem_old hm_1069) hn_1071
  have hm_1143 : q_572 ∈ hL S_1115 := hf_1117.mem (mem_old hm_1073)
  have hk_1144 : Kd S_1115 q_572 14 := hf_1117.kd (mem_old hm_1073) (kd_nO (k := 10) hq_1101 hm_1073 hk_1074)
  have hn_1145 : Ln S_1115 q_572 12 := hf_1117.ln (mem_old hm_1073) hn_1075
  have hv_1146 : hR S_1115 900 h = (some s0) := hf_1117.fr (mem_old hm_1051) (fun q9 => (fun e9 => absurd (((kd_nO (k := 10) hq_1101 hm_1051 hk_1052)).symm.trans ((congrArg (hK _) e9).trans (kd_nO' (k := 10)))) (by decide)) q9) (rd_nOR (k := 10) hq_1101 hm_1051 hv_1082)
  have hv_1147 : hR S_1115 901 h = (some q_1) := hf_1117.fr (mem_old hm_1051) (fun q9 => (fun e9 => absurd (((kd_nO (k := 10) hq_1101 hm_1051 hk_1052)).symm.trans ((congrArg (hK _) e9).trans (kd_nO' (k := 10)))) (by decide)) q9) (rd_nOR (k := 10) hq_1101 hm_1051 hv_1083)
  have hv_1148 : hR S_1115 902 h = (some q_37) := hf_1117.fr (mem_old hm_1051) (fun q9 => (fun e9 => absurd (((kd_nO (k := 10) hq_1101 hm_1051 hk_1052)).symm.trans ((congrArg (hK _) e9).trans (kd_nO' (k := 10)))) (by decide)) q9) (rd_nOR (k := 10) hq_1101 hm_1051 hv_1084)
  have hv_1149 : hR S_1115 903 h = (some q_118) := hf_1117.fr (mem_old hm_1051) (fun q9 => (fun e9 => absurd (((kd_nO (k := 10) hq_1101 hm_1051 hk_1052)).symm.trans ((congrArg (hK _) e9).trans (kd_nO' (k := 10)))) (by decide)) q9) (rd_nOR (k := 10) hq_1101 hm_1051 hv_1085)
  have hv_1150 : hR S_1115 904 h = (some q_149) := hf_1117.fr (mem_old hm_1051) (fun q9 => (fun e9 => absurd (((kd_nO (k := 10) hq_1101 hm_1051 hk_1052)).symm.trans ((congrArg (hK _) e9).trans (kd_nO' (k := 10)))) (by decide)) q9) (rd_nOR (k := 10) hq_1101 hm_1051 hv_1086)
  have hv_1151 : hR S_1115 905 h = (some q_169) := hf_1117.fr (mem_old hm_1051) (fun q9 => (fun e9 => absurd (((kd_nO (k := 10) hq_1101 hm_1051 hk_1052)).symm.trans ((congrArg (hK _) e9).trans (kd_nO' (k := 10)))) (by decide)) q9) (rd_nOR (k := 10) hq_1101 hm_1051 hv_1087)
  have hv_1152 : hR S_1115 906 h = (some q_206) := hf_1117.fr (mem_old hm_1051) (fun q9 => (fun e9 => absurd (((kd_nO (k := 10) hq_1101 hm_1051 hk_1052)).symm.trans ((congrArg (hK _) e9).trans (kd_nO' (k := 10)))) (by decide)) q9) (rd_nOR (k := 10) hq_1101 hm_1051 hv_1088)
  have hv_1153 : hR S_1115 907 h = (some q_244) := hf_1117.fr (mem_old hm_1051) (fun q9 => (fun e9 => absurd (((kd_nO (k := 10) hq_1101 hm_1051 hk_1052)).symm.trans ((congrArg (hK _) e9).trans (kd_nO' (k := 10)))) (by decide)) q9) (rd_nOR (k := 10) hq_1101 hm_1051 hv_1089)
  have hv_1154 : hR S_1115 908 h = (some q_271) := hf_1117.fr (mem_old hm_1051) (fun q9 => (fun e9 => absurd (((kd_nO (k := 10) hq_1101 hm_1051 hk_1052)).symm.trans ((congrArg (hK _) e9).trans (kd_nO' (k := 10)))) (by decide)) q9) (rd_nOR (k := 10) hq_1101 hm_1051 hv_1090)
  have hv_1155 : hR S_1115 909 h = (some q_302) := hf_1117.fr (mem_old hm_1051) (fun q9 => (fun e9 => absurd (((kd_nO (k := 10) hq_1101 hm_1051 hk_1052)).symm.trans ((congrArg (hK _) e9).trans (kd_nO' (k := 10)))) (by decide)) q9) (rd_nOR (k := 10) hq_1101 hm_1051 hv_1091)
  have hv_1156 : hR S_1115 910 h = (some q_395) := hf_1117.fr (mem_old hm_1051) (fun q9 => (fun e9 => absurd (((kd_nO (k := 10) hq_1101 hm_1051 hk_1052)).symm.trans ((congrArg (hK _) e9).trans (kd_nO' (k := 10)))) (by decide)) q9) (rd_nOR (k := 10) hq_1101 hm_1051 hv_1092)
  have hv_1157 : hR S_1115 911 h = (some q_490) := hf_1117.fr (mem_old hm_1051) (fun q9 => (fun e9 => absurd (((kd_nO (k := 10) hq_1101 hm_1051 hk_1052)).symm.trans ((congrArg (hK _) e9).trans (kd_nO' (k := 10)))) (by decide)) q9) (rd_nOR (k := 10) hq_1101 hm_1051 hv_1093)
  have hv_1158 : hR S_1115 912 h = (some q_529) := hf_1117.fr (mem_old hm_1051) (fun q9 => (fun e9 => absurd (((kd_nO (k := 10) hq_1101 hm_1051 hk_1052)).symm.trans ((congrArg (hK _) e9).trans (kd_nO' (k := 10)))) (by decide)) q9) (rd_nOR (k := 10) hq_1101 hm_1051 hv_1094)
  have hv_1159 : hR S_1115 917 h = (some q_572) := hf_1117.fr (mem_old hm_1051) (fun q9 => (fun e9 => absurd (((kd_nO (k := 10) hq_1101 hm_1051 hk_1052)).symm.trans ((congrArg (hK _) e9).trans (kd_nO' (k := 10)))) (by decide)) q9) (rd_nOR (k := 10) hq_1101 hm_1051 hv_1095)
  have hf_1160 : Fm (fun _ _ => False) (fun f9 b9 => b9 = h) (fun _ => False) S S_1115 := hf_1104.then hf_1117 (fun a9 ha9 => ⟨(fun f9 h9 => (fun h9 => h9.elim (fun h8 => absurd (h8.2 ▸ ha9) hz_1102) (fun h8 => absurd (h8.2 ▸ ha9) hz_1102)) h9), (fun f9 h9 => (fun h8 => absurd (h8 ▸ ha9) hz_1102) h9), (fun h9 => h9.elim)⟩)
  have hN_1161 : NL S [q_1, q_5, q_6, q_37, q_43, q_44, q_45, q_46, q_47, q_48, q_49, q_50, q_118, q_124, q_149, q_169, q_174, q_206, q_212, q_244, q_271, q_302, q_307, q_308, q_309, q_310, q_311, q_312, q_313, q_314, q_395, q_401, q_402, q_403, q_404, q_405, q_406, q_407, q_408, q_490, q_529, q_572, q_621, q_626, q_740, q_745, q_860, q_865, q_980, q_985, q_1100] S_1115 := NL.mono (show NL S [q_1, q_5, q_6, q_37, q_43, q_44, q_45, q_46, q_47, q_48, q_49, q_50, q_118, q_124, q_149, q_169, q_174, q_206, q_212, q_244, q_271, q_302, q_307, q_308, q_309, q_310, q_311, q_312, q_313, q_314, q_395, q_401, q_402, q_403, q_404, q_405, q_406, q_407, q_408, q_490, q_529, q_572, q_621, q_626, q_740, q_745, q_860, q_865, q_980, q_985, q_1100] (nO S_1048 q_1100 10) from NL.nO hN_1097 hq_1101 hz_1102) (fun a9 h9 => hf_1117.mem h9)
  have hG_1162 : Gs h [(3, [q_1, q_5, q_6]), (4, [q_37, q_43, q_44, q_45, q_46, q_47, q_48, q_49, q_50]), (0, [q_118, q_124]), (1, [q_169, q_174]), (0, [q_206, q_212]), (2, [q_302, q_307, q_308, q_309, q_310, q_311, q_312, q_313, q_314]), (2, [q_395, q_401, q_402, q_403, q_404, q_405, q_406, q_407, q_408]), (1, [q_621, q_626]), (1, [q_740, q_745]), (1, [q_860, q_865]), (1, [q_980, q_985])] S_1115 := Gs.fm (show Gs h [(3, [q_1, q_5, q_6]), (4, [q_37, q_43, q_44, q_45, q_46, q_47, q_48, q_49, q_50]), (0, [q_118, q_124]), (1, [q_169, q_174]), (0, [q_206, q_212]), (2, [q_302, q_307, q_308, q_309, q_310, q_311, q_312, q_313, q_314]), (2, [q_395, q_401, q_402, q_403, q_404, q_405, q_406, q_407, q_408]), (1, [q_621, q_626]), (1, [q_740, q_745]), (1, [q_860, q_865]), (1, [q_980, q_985])] (nO S_1048 q_1100 10) from Gs.nO hG_1098 hq_1101) hf_1117 (fun g9 hg9 p9 hp9 => gn_1103 g9 hg9 p9 hp9)
  have hE_1163 : ELs S_1115 q_149 [q_621, q_740, q_860, q_980] := ELs.fm (ELs.nO (S := S_1048) hE_1099) hf_1117 (mem_old hm_1053) (fun h9 => h9)
  have hz_1164 : q_1105 ∉ hL S := fun h9 => e_1108 (hf_1104.mem h9)
  have hN_1165 : NL S [q_1, q_5, q_6, q_37, q_43, q_44, q_45, q_46, q_47, q_48, q_49, q_50, q_118, q_124, q_149, q_169, q_174, q_206, q_212, q_244, q_271, q_302, q_307, q_308, q_309, q_310, q_311, q_312, q_313, q_314, q_395, q_401, q_402, q_403, q_404, q_405, q_406, q_407, q_408, q_490, q_529, q_572, q_621, q_626, q_740, q_745, q_860, q_865, q_980, q_985, q_1100, q_1105] S_1115 := NL.app (show NL S [q_1, q_5, q_6, q_37, q_43, q_44, q_45, q_46, q_47, q_48, q_49, q_50, q_118, q_124, q_149, q_169, q_174, q_206, q_212, q_244, q_271, q_302, q_307, q_308, q_309, q_310, q_311, q_312, q_313, q_314, q_395, q_401, q_402, q_403, q_404, q_405, q_406, q_407, q_408, q_490, q_529, q_572, q_621, q_626, q_740, q_745, q_860, q_865, q_980, q_985, q_1100] (nO S_1048 q_1100 10) from NL.nO hN_1097 hq_1101 hz_1102) hNl_1113 (fun a9 h9 => hf_1117.mem h9) (fun a9 h9 => hf_1104.mem h9)
  have hGt_1166 : Gt 1 [q_1100, q_1105] S_1115 := ⟨fun i9 k9 h9 => (match i9, h9 with | 0, h9 => (by have e9 : (10 : Nat) = k9 := Option.some.inj h9; subst e9; exact ⟨hm_1126, hk_1127⟩) | 1, h9 => (by have e9 : (15 : Nat) = k9 := Option.some.inj h9; subst e9; exact ⟨e_1109, e_1110⟩) | i9 + 2, h9 => absurd h9 (by simp [gT])), (List.forall_mem_cons.mpr ⟨e_1111, (fun _ h9 => absurd h9 List.not_mem_nil)⟩), (List.forall_mem_cons.mpr ⟨e_1112, (fun _ h9 => absurd h9 List.not_mem_nil)⟩), (fun _ h9 => absurd h9 List.not_mem_nil)⟩
  have hG_1167 : Gs h [(3, [q_1, q_5, q_6]), (4, [q_37, q_43, q_44, q_45, q_46, q_47, q_48, q_49, q_50]), (0, [q_118, q_124]), (1, [q_169, q_174]), (0, [q_206, q_212]), (2, [q_302, q_307, q_308, q_309, q_310, q_311, q_312, q_313, q_314]), (2, [q_395, q_401, q_402, q_403, q_404, q_405, q_406, q_407, q_408]), (1, [q_621, q_626]), (1, [q_740, q_745]), (1, [q_860, q_865]), (1, [q_980, q_985]), (1, [q_1100, q_1105])] S_1115 := Gs.snoc hG_1162 (by decide) hGt_1166 (List.forall_mem_cons.mpr ⟨(fun e9 => hz_1102 (e9 ▸ hm)), (fun _ h9 => absurd h9 List.not_mem_nil)⟩)
  refine j_aast (j := 4) (ci := 10) C 20  (by decide) rfl dX9_init_159 hm_1128 hk_1129 (inr_of (n := 16) hn_1130 (vp_lit (by decide))) (by decide) hm_1126 hk_1127 rfl ?_
  have hf_1170 : Fm (fun _ _ => False) (fun f9 b9 => b9 = h) (fun _ => False) S (tR S_1115 q_149 4 (some q_1100)) := (hf_1160.tR _ _ (fun h9 => absurd h9 hz_152))
  obtain ⟨S_1168, eS_1169⟩ : ∃ S9 : Hp, S9 = (tR S_1115 q_149 4 (some q_1100)) := ⟨_, rfl⟩
  refine J.eq (S' := S_1168) eS_1169.symm rfl rfl ?_
  have hm_1171 : h ∈ hL S_1168 := by rw [eS_1169]; exact hm_1124
  have hk_1172 : Kd S_1168 h 9 := by rw [eS_1169]; exact hk_1125
  have hm_1173 : q_1100 ∈ hL S_1168 := by rw [eS_1169]; exact hm_1126
  have hk_1174 : Kd S_1168 q_1100 10 := by rw [eS_1169]; exact hk_1127
  have hm_1175 : q_149 ∈ hL S_1168 := by rw [eS_1169]; exact hm_1128
  have hk_1176 : Kd S_1168 q_149 20 := by rw [eS_1169]; exact hk_1129
  have hn_1177 : Ln S_1168 q_149 16 := by rw [eS_1169]; exact hn_1130
  have hz_1178 : ∀ j, aI S_1168 q_149 j = 0 := by rw [eS_1169]; exact hz_1118
  have hm_1179 : q_244 ∈ hL S_1168 := by rw [eS_1169]; exact hm_1131
  have hk_1180 : Kd S_1168 q_244 13 := by rw [eS_1169]; exact hk_1132
  have hn_1181 : Ln S_1168 q_244 24000 := by rw [eS_1169]; exact hn_1133
  have hz_1182 : ∀ j, aI S_1168 q_244 j = 0 := by rw [eS_1169]; exact hz_1119
  have hm_1183 : q_271 ∈ hL S_1168 := by rw [eS_1169]; exact hm_1134
  have hk_1184 : Kd S_1168 q_271 14 := by rw [eS_1169]; exact hk_1135
  have hn_1185 : Ln S_1168 q_271 16 := by rw [eS_1169]; exact hn_1136
  have hz_1186 : ∀ j, aI S_1168 q_271 j = 0 := by rw [eS_1169]; exact hz_1120
  have hm_1187 : q_490 ∈ hL S_1168 := by rw [eS_1169]; exact hm_1137
  have hk_1188 : Kd S_1168 q_490 18 := by rw [eS_1169]; exact hk_1138
  have hn_1189 : Ln S_1168 q_490 3 := by rw [eS_1169]; exact hn_1139
  have hz_1190 : ∀ j, aI S_1168 q_490 j = 0 := by rw [eS_1169]; exact hz_1121
  have hm_1191 : q_529 ∈ hL S_1168 := by rw [eS_1169]; exact hm_1140
  have hk_1192 : Kd S_1168 q_529 19 := by rw [eS_1169]; exact hk_1141
  have hn_1193 : Ln S_1168 q_529 4 := by rw [eS_1169]; exact hn_1142
  have hz_1194 : ∀ j, aI S_1168 q_529 j = 0 := by rw [eS_1169]; exact hz_1122
  have hm_1195 : q_572 ∈ hL S_1168 := by rw [eS_1169]; exact hm_1143
  have hk_1196 : Kd S_1168 q_572 14 := by rw [eS_1169]; exact hk_1144
  have hn_1197 : Ln S_1168 q_572 12 := by rw [eS_1169]; exact hn_1145
  have hz_1198 : ∀ j, aI S_1168 q_572 j = 0 := by rw [eS_1169]; exact hz_1123
  have hv_1199 : hI S_1168 1000 q_1100 = 1 := by rw [eS_1169]; exact e_1106
  have hv_1200 : hI S_1168 1001 q_1100 = 1 := by rw [eS_1169]; exact e_1107
  have hv_1201 : hR S_1168 1003 q_1100 = (some q_1105) := by rw [eS_1169]; exact e_1112
  have hv_1202 : hR S_1168 900 h = (some s0) := by rw [eS_1169]; exact hv_1146
  have hv_1203 : hR S_1168 901 h = (some q_1) := by rw [eS_1169]; exact hv_1147
  have hv_1204 : hR S_1168 902 h = (some q_37) := by rw [eS_1169]; exact hv_1148
  have hv_1205 : hR S_1168 903 h = (some q_118) := by rw [eS_1169]; exact hv_1149
  have hv_1206 : hR S_1168 904 h = (some q_149) := by rw [eS_1169]; exact hv_1150
  have hv_1207 : hR S_1168 905 h = (some q_169) := by rw [eS_1169]; exact hv_1151
  have hv_1208 : hR S_1168 906 h = (some q_206) := by rw [eS_1169]; exact hv_1152
  have hv_1209 : hR S_1168 907 h = (some q_244) := by rw [eS_1169]; exact hv_1153
  have hv_1210 : hR S_1168 908 h = (some q_271) := by rw [eS_1169]; exact hv_1154
  have hv_1211 : hR S_1168 909 h = (some q_302) := by rw [eS_1169]; exact hv_1155
  have hv_1212 : hR S_1168 910 h = (some q_395) := by rw [eS_1169]; exact hv_1156
  have hv_1213 : hR S_1168 911 h = (some q_490) := by rw [eS_1169]; exact hv_1157
  have hv_1214 : hR S_1168 912 h = (some q_529) := by rw [eS_1169]; exact hv_1158
  have hv_1215 : hR S_1168 917 h = (some q_572) := by rw [eS_1169]; exact hv_1159
  have hf_1216 : Fm (fun _ _ => False) (fun f9 b9 => b9 = h) (fun _ => False) S S_1168 := by rw [eS_1169]; exact hf_1170
  have hN_1217 : NL S [q_1, q_5, q_6, q_37, q_43, q_44, q_45, q_46, q_47, q_48, q_49, q_50, q_118, q_124, q_149, q_169, q_174, q_206, q_212, q_244, q_271, q_302, q_307, q_308, q_309, q_310, q_311, q_312, q_313, q_314, q_395, q_401, q_402, q_403, q_404, q_405, q_406, q_407, q_408, q_490, q_529, q_572, q_621, q_626, q_740, q_745, q_860, q_865, q_980, q_985, q_1100, q_1105] S_1168 := by rw [eS_1169]; exact (NL.tR (S := S_1115) hN_1165)
  have hG_1218 : Gs h [(3, [q_1, q_5, q_6]), (4, [q_37, q_43, q_44, q_45, q_46, q_47, q_48, q_49, q_50]), (0, [q_118, q_124]), (1, [q_169, q_174]), (0, [q_206, q_212]), (2, [q_302, q_307, q_308, q_309, q_310, q_311, q_312, q_313, q_314]), (2, [q_395, q_401, q_402, q_403, q_404, q_405, q_406, q_407, q_408]), (1, [q_621, q_626]), (1, [q_740, q_745]), (1, [q_860, q_865]), (1, [q_980, q_985]), (1, [q_1100, q_1105])] S_1168 := by rw [eS_1169]; exact (Gs.tR (S := S_1115) hG_1167)
  have hE_1219 : ELs S_1168 q_149 [q_621, q_740, q_860, q_980, q_1100] := by rw [eS_1169]; exact (show ELs (tR S_1115 q_149 4 (some q_1100)) q_149 [q_621, q_740, q_860, q_980, q_1100] from ELs.snoc hE_1163 rfl)
  refine j_iinc (q := 0) (v := 5) (lv' := [(2, .int 5), (0, .ref h), (1, .ref s0)]) C dX9_init_160 rfl (by decide) (by rw [hn9]; decide) rfl ?_
  refine j_goto (tgt := 138) C dX9_init_163 (by decide) ?_
  show J _ _ _ _ _ 138 _
  refine j_iload_n C dX9_init_138 rfl 0 rfl ?_
  refine j_aload_n C dX9_init_139 rfl 1 rfl ?_
  refine j_getr (f := 904) (v := q_149) C flX9_34 dX9_init_140 hm_1171 hk_1172 (by decide) rfl hv_1206 ?_
  refine j_alen (v := 16) C dX9_init_143 hm_1175 hk_1176 (by decide) (by decide) (len_of (n := 16) hn_1177 (by decide)) ?_
  refine j_ic_ge (tgt := 166) C dX9_init_144 (by decide) (fun c9 => absurd c9 (by decide)) (fun c9 => ?_)
  refine j_aload_n C dX9_init_147 rfl 1 rfl ?_
  refine j_getr (f := 904) (v := q_149) C flX9_34 dX9_init_148 hm_1171 hk_1172 (by decide) rfl hv_1206 ?_
  refine j_iload_n C dX9_init_151 rfl 0 rfl ?_
  show J _ _ _ _ _ 152 _
  refine j_new (N := 4) C (ci := 10) rfl rfl klX9_32 knX10 kiX10 (M.cells (by decide)) (M.slots (by decide)) dX9_init_152 (fun q_1220 hq_1221 => ?_)
  have hz_1222 : q_1220 ∉ hL S := fun h9 => hq_1221 (hf_1216.mem h9)
  have gn_1223 : ∀ g9 ∈ ([(3, [q_1, q_5, q_6]), (4, [q_37, q_43, q_44, q_45, q_46, q_47, q_48, q_49, q_50]), (0, [q_118, q_124]), (1, [q_169, q_174]), (0, [q_206, q_212]), (2, [q_302, q_307, q_308, q_309, q_310, q_311, q_312, q_313, q_314]), (2, [q_395, q_401, q_402, q_403, q_404, q_405, q_406, q_407, q_408]), (1, [q_621, q_626]), (1, [q_740, q_745]), (1, [q_860, q_865]), (1, [q_980, q_985]), (1, [q_1100, q_1105])] : List (Nat × List Nat)), ∀ p9 ∈ (gT g9.1).2.2, g9.2.getD p9.2.1 0 ≠ q_1220 := Gs.ne hG_1218 hq_1221
  refine j_dup C dX9_init_155 rfl ?_
  have hf_1224 : Fm (fun _ _ => False) (fun f9 b9 => b9 = h) (fun _ => False) S (nO S_1168 q_1220 10) := (hf_1216.nO _ hq_1221)
  refine j_callI C [] [.ref q_1220, .int 5, .ref q_149] mlX9_38 mcX10_init (c_X10_init (nO S_1168 q_1220 10) q_1220 mem_new (kd_nO' (k := 10))) (M.rm (by decide) (by decide) (Nat.le_of_ble_eq_true rfl) (Nat.le_of_ble_eq_true rfl)) rfl rfl (Nat.le_of_ble_eq_true rfl) dX9_init_156 (fun r_1234 S_1235 hp_1236 => ?_)
  obtain ⟨rfl, hf_1237, e_1226, e_1227, q_1225, e_1228, e_1229, e_1230, e_1231, e_1232, hNl_1233⟩ := hp_1236
  refine J.eq (st' := [.ref q_1220, .int 5, .ref q_149]) rfl rfl rfl ?_
  have hz_1238 : ∀ j, aI S_1235 q_149 j = 0 := fun j9 => (hf_1237.ai (mem_old hm_1175) (fun h9 => h9) j9).trans (hz_1178 j9)
  have hz_1239 : ∀ j, aI S_1235 q_244 j = 0 := fun j9 => (hf_1237.ai (mem_old hm_1179) (fun h9 => h9) j9).trans (hz_1182 j9)
  have hz_1240 : ∀ j, aI S_1235 q_271 j = 0 := fun j9 => (hf_1237.ai (mem_old hm_1183) (fun h9 => h9) j9).trans (hz_1186 j9)
  have hz_1241 : ∀ j, aI S_1235 q_490 j = 0 := fun j9 => (hf_1237.ai (mem_old hm_1187) (fun h9 => h9) j9).trans (hz_1190 j9)
  have hz_1242 : ∀ j, aI S_1235 q_529 j = 0 := fun j9 => (hf_1237.ai (mem_old hm_1191) (fun h9 => h9) j9).trans (hz_1194 j9)
  have hz_1243 : ∀ j, aI S_1235 q_572 j = 0 := fun j9 => (hf_1237.ai (mem_old hm_1195) (fun h9 => h9) j9).trans (hz_1198 j9)
  have hm_1244 : h ∈ hL S_1235 := hf_1237.mem (mem_old hm_1171)
  have hk_1245 : Kd S_1235 h 9 := hf_1237.kd (mem_old hm_1171) (kd_nO (k := 10) hq_1221 hm_1171 hk_1172)
  have hm_1246 : q_1220 ∈ hL S_1235 := hf_1237.mem mem_new
  have hk_1247 : Kd S_1235 q_1220 10 := hf_1237.kd mem_new (kd_nO' (k := 10))
  have hm_1248 : q_149 ∈ hL S_1235 := hf_1237.mem (mem_old hm_1175)
  have hk_1249 : Kd S_1235 q_149 20 := hf_1237.kd (mem_old hm_1175) (kd_nO (k := 10) hq_1221 hm_1175 hk_1176)
  have hn_1250 : Ln S_1235 q_149 16 := hf_1237.ln (mem_old hm_1175) hn_1177
  have hm_1251 : q_244 ∈ hL S_1235 := hf_1237.mem (mem_old hm_1179)
  have hk_1252 : Kd S_1235 q_244 13 := hf_1237.kd (mem_old hm_1179) (kd_nO (k := 10) hq_1221 hm_1179 hk_1180)
  have hn_1253 : Ln S_1235 q_244 24000 := hf_1237.ln (mem_old hm_1179) hn_1181
  have hm_1254 : q_271 ∈ hL S_1235 := hf_1237.mem (mem_old hm_1183)
  have hk_1255 : Kd S_1235 q_271 14 := hf_1237.kd (mem_old hm_1183) (kd_nO (k := 10) hq_1221 hm_1183 hk_1184)
  have hn_1256 : Ln S_1235 q_271 16 := hf_1237.ln (mem_old hm_1183) hn_1185
  have hm_1257 : q_490 ∈ hL S_1235 := hf_1237.mem (mem_old hm_1187)
  have hk_1258 : Kd S_1235 q_490 18 := hf_1237.kd (mem_old hm_1187) (kd_nO (k := 10) hq_1221 hm_1187 hk_1188)
  have hn_1259 : Ln S_1235 q_490 3 := hf_1237.ln (mem_old hm_1187) hn_1189
  have hm_1260 : q_529 ∈ hL S_1235 := hf_1237.mem (mem_old hm_1191)
  have hk_1261 : Kd S_1235 q_529 19 := hf_1237.kd (mem_old hm_1191) (kd_nO (k := 10) hq_1221 hm_1191 hk_1192)
  have hn_1262 : Ln S_1235 q_529 4 := hf_1237.ln (mem_old hm_1191) hn_1193
  have hm_1263 : q_572 ∈ hL S_1235 := hf_1237.mem (mem_old hm_1195)
  have hk_1264 : Kd S_1235 q_572 14 := hf_1237.kd (mem_old hm_1195) (kd_nO (k := 10) hq_1221 hm_1195 hk_1196)
  have hn_1265 : Ln S_1235 q_572 12 := hf_1237.ln (mem_old hm_1195) hn_1197
  have hv_1266 : hR S_1235 900 h = (some s0) := hf_1237.fr (mem_old hm_1171) (fun q9 => (fun e9 => absurd (((kd_nO (k := 10) hq_1221 hm_1171 hk_1172)).symm.trans ((congrArg (hK _) e9).trans (kd_nO' (k := 10)))) (by decide)) q9) (rd_nOR (k := 10) hq_1221 hm_1171 hv_1202)
  have hv_1267 : hR S_1235 901 h = (some q_1) := hf_1237.fr (mem_old hm_1171) (fun q9 => (fun e9 => absurd (((kd_nO (k := 10) hq_1221 hm_1171 hk_1172)).symm.trans ((congrArg (hK _) e9).trans (kd_nO' (k := 10)))) (by decide)) q9) (rd_nOR (k := 10) hq_1221 hm_1171 hv_1203)
  have hv_1268 : hR S_1235 902 h = (some q_37) := hf_1237.fr (mem_old hm_1171) (fun q9 => (fun e9 => absurd (((kd_nO (k := 10) hq_1221 hm_1171 hk_1172)).symm.trans ((congrArg (hK _) e9).trans (kd_nO' (k := 10)))) (by decide)) q9) (rd_nOR (k := 10) hq_1221 hm_1171 hv_1204)
  have hv_1269 : hR S_1235 903 h = (some q_118) := hf_1237.fr (mem_old hm_1171) (fun q9 => (fun e9 => absurd (((kd_nO (k := 10) hq_1221 hm_1171 hk_1172)).symm.trans ((congrArg (hK _) e9).trans (kd_nO' (k := 10)))) (by decide)) q9) (rd_nOR (k := 10) hq_1221 hm_1171 hv_1205)
  have hv_1270 : hR S_1235 904 h = (some q_149) := hf_1237.fr (mem_old hm_1171) (fun q9 => (fun e9 => absurd (((kd_nO (k := 10) hq_1221 hm_1171 hk_1172)).symm.trans ((congrArg (hK _) e9).trans (kd_nO' (k := 10)))) (by decide)) q9) (rd_nOR (k := 10) hq_1221 hm_1171 hv_1206)
  have hv_1271 : hR S_1235 905 h = (some q_169) := hf_1237.fr (mem_old hm_1171) (fun q9 => (fun e9 => absurd (((kd_nO (k := 10) hq_1221 hm_1171 hk_1172)).symm.trans ((congrArg (hK _) e9).trans (kd_nO' (k := 10)))) (by decide)) q9) (rd_nOR (k := 10) hq_1221 hm_1171 hv_1207)
  have hv_1272 : hR S_1235 906 h = (some q_206) := hf_1237.fr (mem_old hm_1171) (fun q9 => (fun e9 => absurd (((kd_nO (k := 10) hq_1221 hm_1171 hk_1172)).symm.trans ((congrArg (hK _) e9).trans (kd_nO' (k := 10)))) (by decide)) q9) (rd_nOR (k := 10) hq_1221 hm_1171 hv_1208)
  have hv_1273 : hR S_1235 907 h = (some q_244) := hf_1237.fr (mem_old hm_1171) (fun q9 => (fun e9 => absurd (((kd_nO (k := 10) hq_1221 hm_1171 hk_1172)).symm.trans ((congrArg (hK _) e9).trans (kd_nO' (k := 10)))) (by decide)) q9) (rd_nOR (k := 10) hq_1221 hm_1171 hv_1209)
  have hv_1274 : hR S_1235 908 h = (some q_271) := hf_1237.fr (mem_old hm_1171) (fun q9 => (fun e9 => absurd (((kd_nO (k := 10) hq_1221 hm_1171 hk_1172)).symm.trans ((congrArg (hK _) e9).trans (kd_nO' (k := 10)))) (by decide)) q9) (rd_nOR (k := 10) hq_1221 hm_1171 hv_1210)
  have hv_1275 : hR S_1235 909 h = (some q_302) := hf_1237.fr (mem_old hm_1171) (fun q9 => (fun e9 => absurd (((kd_nO (k := 10) hq_1221 hm_1171 hk_1172)).symm.trans ((congrArg (hK _) e9).trans (kd_nO' (k := 10)))) (by decide)) q9) (rd_nOR (k := 10) hq_1221 hm_1171 hv_1211)
  have hv_1276 : hR S_1235 910 h = (some q_395) := hf_1237.fr (mem_old hm_1171) (fun q9 => (fun e9 => absurd (((kd_nO (k := 10) hq_1221 hm_1171 hk_1172)).symm.trans ((congrArg (hK _) e9).trans (kd_nO' (k := 10)))) (by decide)) q9) (rd_nOR (k := 10) hq_1221 hm_1171 hv_1212)
  have hv_1277 : hR S_1235 911 h = (some q_490) := hf_1237.fr (mem_old hm_1171) (fun q9 => (fun e9 => absurd (((kd_nO (k := 10) hq_1221 hm_1171 hk_1172)).symm.trans ((congrArg (hK _) e9).trans (kd_nO' (k := 10)))) (by decide)) q9) (rd_nOR (k := 10) hq_1221 hm_1171 hv_1213)
  have hv_1278 : hR S_1235 912 h = (some q_529) := hf_1237.fr (mem_old hm_1171) (fun q9 => (fun e9 => absurd (((kd_nO (k := 10) hq_1221 hm_1171 hk_1172)).symm.trans ((congrArg (hK _) e9).trans (kd_nO' (k := 10)))) (by decide)) q9) (rd_nOR (k := 10) hq_1221 hm_1171 hv_1214)
  have hv_1279 : hR S_1235 917 h = (some q_572) := hf_1237.fr (mem_old hm_1171) (fun q9 => (fun e9 => absurd (((kd_nO (k := 10) hq_1221 hm_1171 hk_1172)).symm.trans ((congrArg (hK _) e9).trans (kd_nO' (k := 10)))) (by decide)) q9) (rd_nOR (k := 10) hq_1221 hm_1171 hv_1215)
  have hf_1280 : Fm (fun _ _ => False) (fun f9 b9 => b9 = h) (fun _ => False) S S_1235 := hf_1224.then hf_1237 (fun a9 ha9 => ⟨(fun f9 h9 => (fun h9 => h9.elim (fun h8 => absurd (h8.2 ▸ ha9) hz_1222) (fun h8 => absurd (h8.2 ▸ ha9) hz_1222)) h9), (fun f9 h9 => (fun h8 => absurd (h8 ▸ ha9) hz_1222) h9), (fun h9 => h9.elim)⟩)
  have hN_1281 : NL S [q_1, q_5, q_6, q_37, q_43, q_44, q_45, q_46, q_47, q_48, q_49, q_50, q_118, q_124, q_149, q_169, q_174, q_206, q_212, q_244, q_271, q_302, q_307, q_308, q_309, q_310, q_311, q_312, q_313, q_314, q_395, q_401, q_402, q_403, q_404, q_405, q_406, q_407, q_408, q_490, q_529, q_572, q_621, q_626, q_740, q_745, q_860, q_865, q_980, q_985, q_1100, q_1105, q_1220] S_1235 := NL.mono (show NL S [q_1, q_5, q_6, q_37, q_43, q_44, q_45, q_46, q_47, q_48, q_49, q_50, q_118, q_124, q_149, q_169, q_174, q_206, q_212, q_244, q_271, q_302, q_307, q_308, q_309, q_310, q_311, q_312, q_313, q_314, q_395, q_401, q_402, q_403, q_404, q_405, q_406, q_407, q_408, q_490, q_529, q_572, q_621, q_626, q_740, q_745, q_860, q_865, q_980, q_985, q_1100, q_1105, q_1220] (nO S_1168 q_1220 10) from NL.nO hN_1217 hq_1221 hz_1222) (fun a9 h9 => hf_1237.mem h9)
  have hG_1282 : Gs h [(3, [q_1, q_5, q_6]), (4, [q_37, q_43, q_44, q_45, q_46, q_47, q_48, q_49, q_50]), (0, [q_118, q_124]), (1, [q_169, q_174]), (0, [q_206, q_212]), (2, [q_302, q_307, q_308, q_309, q_310, q_311, q_312, q_313, q_314]), (2, [q_395, q_401, q_402, q_403, q_404, q_405, q_406, q_407, q_408]), (1, [q_621, q_626]), (1, [q_740, q_745]), (1, [q_860, q_865]), (1, [q_980, q_985]), (1, [q_1100, q_1105])] S_1235 := Gs.fm (show Gs h [(3, [q_1, q_5, q_6]), (4, [q_37, q_43, q_44, q_45, q_46, q_47, q_48, q_49, q_50]), (0, [q_118, q_124]), (1, [q_169, q_174]), (0, [q_206, q_212]), (2, [q_302, q_307, q_308, q_309, q_310, q_311, q_312, q_313, q_314]), (2, [q_395, q_401, q_402, q_403, q_404, q_405, q_406, q_407, q_408]), (1, [q_621, q_626]), (1, [q_740, q_745]), (1, [q_860, q_865]), (1, [q_980, q_985]), (1, [q_1100, q_1105])] (nO S_1168 q_1220 10) from Gs.nO hG_1218 hq_1221) hf_1237 (fun g9 hg9 p9 hp9 => gn_1223 g9 hg9 p9 hp9)
  have hE_1283 : ELs S_1235 q_149 [q_621, q_740, q_860, q_980, q_1100] := ELs.fm (ELs.nO (S := S_1168) hE_1219) hf_1237 (mem_old hm_1175) (fun h9 => h9)
  have hz_1284 : q_1225 ∉ hL S := fun h9 => e_1228 (hf_1224.mem h9)
  have hN_1285 : NL S [q_1, q_5, q_6, q_37, q_43, q_44, q_45, q_46, q_47, q_48, q_49, q_50, q_118, q_124, q_149, q_169, q_174, q_206, q_212, q_244, q_271, q_302, q_307, q_308, q_309, q_310, q_311, q_312, q_313, q_314, q_395, q_401, q_402, q_403, q_404, q_405, q_406, q_407, q_408, q_490, q_529, q_572, q_621, q_626, q_740, q_745, q_860, q_865, q_980, q_985, q_1100, q_1105, q_1220, q_1225] S_1235 := NL.app (show NL S [q_1, q_5, q_6, q_37, q_43, q_44, q_45, q_46, q_47, q_48, q_49, q_50, q_118, q_124, q_149, q_169, q_174, q_206, q_212, q_244, q_271, q_302, q_307, q_308, q_309, q_310, q_311, q_312, q_313, q_314, q_395, q_401, q_402, q_403, q_404, q_405, q_406, q_407, q_408, q_490, q_529, q_572, q_621, q_626, q_740, q_745, q_860, q_865, q_980, q_985, q_1100, q_1105, q_1220] (nO S_1168 q_1220 10) from NL.nO hN_1217 hq_1221 hz_1222) hNl_1233 (fun a9 h9 => hf_1237.mem h9) (fun a9 h9 => hf_1224.mem h9)
  have hGt_1286 : Gt 1 [q_1220, q_1225] S_1235 := ⟨fun i9 k9 h9 => (match i9, h9 with | 0, h9 => (by have e9 : (10 : Nat) = k9 := Option.some.inj h9; subst e9; exact ⟨hm_1246, hk_1247⟩) | 1, h9 => (by have e9 : (15 : Nat) = k9 := Option.some.inj h9; subst e9; exact ⟨e_1229, e_1230⟩) | i9 + 2, h9 => absurd h9 (by simp [gT])), (List.forall_mem_cons.mpr ⟨e_1231, (fun _ h9 => absurd h9 List.not_mem_nil)⟩), (List.forall_mem_cons.mpr ⟨e_1232, (fun _ h9 => absurd h9 List.not_mem_nil)⟩), (fun _ h9 => absurd h9 List.not_mem_nil)⟩
  have hG_1287 : Gs h [(3, [q_1, q_5, q_6]), (4, [q_37, q_43, q_44, q_45, q_46, q_47, q_48, q_49, q_50]), (0, [q_118, q_124]), (1, [q_169, q_174]), (0, [q_206, q_212]), (2, [q_302, q_307, q_308, q_309, q_310, q_311, q_312, q_313, q_314]), (2, [q_395, q_401, q_402, q_403, q_404, q_405, q_406, q_407, q_408]), (1, [q_621, q_626]), (1, [q_740, q_745]), (1, [q_860, q_865]), (1, [q_980, q_985]), (1, [q_1100, q_1105]), (1, [q_1220, q_1225])] S_1235 := Gs.snoc hG_1282 (by decide) hGt_1286 (List.forall_mem_cons.mpr ⟨(fun e9 => hz_1222 (e9 ▸ hm)), (fun _ h9 => absurd h9 List.not_mem_nil)⟩)
  refine j_aast (j := 5) (ci := 10) C 20  (by decide) rfl dX9_init_159 hm_1248 hk_1249 (inr_of (n := 16) hn_1250 (vp_lit (by decide))) (by decide) hm_1246 hk_1247 rfl ?_
  have hf_1290 : Fm (fun _ _ => False) (fun f9 b9 => b9 = h) (fun _ => False) S (tR S_1235 q_149 5 (some q_1220)) := (hf_1280.tR _ _ (fun h9 => absurd h9 hz_152))
  obtain ⟨S_1288, eS_1289⟩ : ∃ S9 : Hp, S9 = (tR S_1235 q_149 5 (some q_1220)) := ⟨_, rfl⟩
  refine J.eq (S' := S_1288) eS_1289.symm rfl rfl ?_
  have hm_1291 : h ∈ hL S_1288 := by rw [eS_1289]; exact hm_1244
  have hk_1292 : Kd S_1288 h 9 := by rw [eS_1289]; exact hk_1245
  have hm_1293 : q_1220 ∈ hL S_1288 := by rw [eS_1289]; exact hm_1246
  have hk_1294 : Kd S_1288 q_1220 10 := by rw [eS_1289]; exact hk_1247
  have hm_1295 : q_149 ∈ hL S_1288 := by rw [eS_1289]; exact hm_1248
  have hk_1296 : Kd S_1288 q_149 20 := by rw [eS_1289]; exact hk_1249
  have hn_1297 : Ln S_1288 q_149 16 := by rw [eS_1289]; exact hn_1250
  have hz_1298 : ∀ j, aI S_1288 q_149 j = 0 := by rw [eS_1289]; exact hz_1238
  have hm_1299 : q_244 ∈ hL S_1288 := by rw [eS_1289]; exact hm_1251
  have hk_1300 : Kd S_1288 q_244 13 := by rw [eS_1289]; exact hk_1252
  have hn_1301 : Ln S_1288 q_244 24000 := by rw [eS_1289]; exact hn_1253
  have hz_1302 : ∀ j, aI S_1288 q_244 j = 0 := by rw [eS_1289]; exact hz_1239
  have hm_1303 : q_271 ∈ hL S_1288 := by rw [eS_1289]; exact hm_1254
  have hk_1304 : Kd S_1288 q_271 14 := by rw [eS_1289]; exact hk_1255
  have hn_1305 : Ln S_1288 q_271 16 := by rw [eS_1289]; exact hn_1256
  have hz_1306 : ∀ j, aI S_1288 q_271 j = 0 := by rw [eS_1289]; exact hz_1240
  have hm_1307 : q_490 ∈ hL S_1288 := by rw [eS_1289]; exact hm_1257
  have hk_1308 : Kd S_1288 q_490 18 := by rw [eS_1289]; exact hk_1258
  have hn_1309 : Ln S_1288 q_490 3 := by rw [eS_1289]; exact hn_1259
  have hz_1310 : ∀ j, aI S_1288 q_490 j = 0 := by rw [eS_1289]; exact hz_1241
  have hm_1311 : q_529 ∈ hL S_1288 := by rw [eS_1289]; exact hm_1260
  have hk_1312 : Kd S_1288 q_529 19 := by rw [eS_1289]; exact hk_1261
  have hn_1313 : Ln S_1288 q_529 4 := by rw [eS_1289]; exact hn_1262
  have hz_1314 : ∀ j, aI S_1288 q_529 j = 0 := by rw [eS_1289]; exact hz_1242
  have hm_1315 : q_572 ∈ hL S_1288 := by rw [eS_1289]; exact hm_1263
  have hk_1316 : Kd S_1288 q_572 14 := by rw [eS_1289]; exact hk_1264
  have hn_1317 : Ln S_1288 q_572 12 := by rw [eS_1289]; exact hn_1265
  have hz_1318 : ∀ j, aI S_1288 q_572 j = 0 := by rw [eS_1289]; exact hz_1243
  have hv_1319 : hI S_1288 1000 q_1220 = 1 := by rw [eS_1289]; exact e_1226
  have hv_1320 : hI S_1288 1001 q_1220 = 1 := by rw [eS_1289]; exact e_1227
  have hv_1321 : hR S_1288 1003 q_1220 = (some q_1225) := by rw [eS_1289]; exact e_1232
  have hv_1322 : hR S_1288 900 h = (some s0) := by rw [eS_1289]; exact hv_1266
  have hv_1323 : hR S_1288 901 h = (some q_1) := by rw [eS_1289]; exact hv_1267
  have hv_1324 : hR S_1288 902 h = (some q_37) := by rw [eS_1289]; exact hv_1268
  have hv_1325 : hR S_1288 903 h = (some q_118) := by rw [eS_1289]; exact hv_1269
  have hv_1326 : hR S_1288 904 h = (some q_149) := by rw [eS_1289]; exact hv_1270
  have hv_1327 : hR S_1288 905 h = (some q_169) := by rw [eS_1289]; exact hv_1271
  have hv_1328 : hR S_1288 906 h = (some q_206) := by rw [eS_1289]; exact hv_1272
  have hv_1329 : hR S_1288 907 h = (some q_244) := by rw [eS_1289]; exact hv_1273
  have hv_1330 : hR S_1288 908 h = (some q_271) := by rw [eS_1289]; exact hv_1274
  have hv_1331 : hR S_1288 909 h = (some q_302) := by rw [eS_1289]; exact hv_1275
  have hv_1332 : hR S_1288 910 h = (some q_395) := by rw [eS_1289]; exact hv_1276
  have hv_1333 : hR S_1288 911 h = (some q_490) := by rw [eS_1289]; exact hv_1277
  have hv_1334 : hR S_1288 912 h = (some q_529) := by rw [eS_1289]; exact hv_1278
  have hv_1335 : hR S_1288 917 h = (some q_572) := by rw [eS_1289]; exact hv_1279
  have hf_1336 : Fm (fun _ _ => False) (fun f9 b9 => b9 = h) (fun _ => False) S S_1288 := by rw [eS_1289]; exact hf_1290
  have hN_1337 : NL S [q_1, q_5, q_6, q_37, q_43, q_44, q_45, q_46, q_47, q_48, q_49, q_50, q_118, q_124, q_149, q_169, q_174, q_206, q_212, q_244, q_271, q_302, q_307, q_308, q_309, q_310, q_311, q_312, q_313, q_314, q_395, q_401, q_402, q_403, q_404, q_405, q_406, q_407, q_408, q_490, q_529, q_572, q_621, q_626, q_740, q_745, q_860, q_865, q_980, q_985, q_1100, q_1105, q_1220, q_1225] S_1288 := by rw [eS_1289]; exact (NL.tR (S := S_1235) hN_1285)
  have hG_1338 : Gs h [(3, [q_1, q_5, q_6]), (4, [q_37, q_43, q_44, q_45, q_46, q_47, q_48, q_49, q_50]), (0, [q_118, q_124]), (1, [q_169, q_174]), (0, [q_206, q_212]), (2, [q_302, q_307, q_308, q_309, q_310, q_311, q_312, q_313, q_314]), (2, [q_395, q_401, q_402, q_403, q_404, q_405, q_406, q_407, q_408]), (1, [q_621, q_626]), (1, [q_740, q_745]), (1, [q_860, q_865]), (1, [q_980, q_985]), (1, [q_1100, q_1105]), (1, [q_1220, q_1225])] S_1288 := by rw [eS_1289]; exact (Gs.tR (S := S_1235) hG_1287)
  have hE_1339 : ELs S_1288 q_149 [q_621, q_740, q_860, q_980, q_1100, q_1220] := by rw [eS_1289]; exact (show ELs (tR S_1235 q_149 5 (some q_1220)) q_149 [q_621, q_740, q_860, q_980, q_1100, q_1220] from ELs.snoc hE_1283 rfl)
  refine j_iinc (q := 0) (v := 6) (lv' := [(2, .int 6), (0, .ref h), (1, .ref s0)]) C dX9_init_160 rfl (by decide) (by rw [hn9]; decide) rfl ?_
  refine j_goto (tgt := 138) C dX9_init_163 (by decide) ?_
  refine j_iload_n C dX9_init_138 rfl 0 rfl ?_
  refine j_aload_n C dX9_init_139 rfl 1 rfl ?_
  show J _ _ _ _ _ 140 _
  refine j_getr (f := 904) (v := q_149) C flX9_34 dX9_init_140 hm_1291 hk_1292 (by decide) rfl hv_1326 ?_
  refine j_alen (v := 16) C dX9_init_143 hm_1295 hk_1296 (by decide) (by decide) (len_of (n := 16) hn_1297 (by decide)) ?_
  refine j_ic_ge (tgt := 166) C dX9_init_144 (by decide) (fun c9 => absurd c9 (by decide)) (fun c9 => ?_)
  refine j_aload_n C dX9_init_147 rfl 1 rfl ?_
  refine j_getr (f := 904) (v := q_149) C flX9_34 dX9_init_148 hm_1291 hk_1292 (by decide) rfl hv_1326 ?_
  refine j_iload_n C dX9_init_151 rfl 0 rfl ?_
  refine j_new (N := 4) C (ci := 10) rfl rfl klX9_32 knX10 kiX10 (M.cells (by decide)) (M.slots (by decide)) dX9_init_152 (fun q_1340 hq_1341 => ?_)
  have hz_1342 : q_1340 ∉ hL S := fun h9 => hq_1341 (hf_1336.mem h9)
  have gn_1343 : ∀ g9 ∈ ([(3, [q_1, q_5, q_6]), (4, [q_37, q_43, q_44, q_45, q_46, q_47, q_48, q_49, q_50]), (0, [q_118, q_124]), (1, [q_169, q_174]), (0, [q_206, q_212]), (2, [q_302, q_307, q_308, q_309, q_310, q_311, q_312, q_313, q_314]), (2, [q_395, q_401, q_402, q_403, q_404, q_405, q_406, q_407, q_408]), (1, [q_621, q_626]), (1, [q_740, q_745]), (1, [q_860, q_865]), (1, [q_980, q_985]), (1, [q_1100, q_1105]), (1, [q_1220, q_1225])] : List (Nat × List Nat)), ∀ p9 ∈ (gT g9.1).2.2, g9.2.getD p9.2.1 0 ≠ q_1340 := Gs.ne hG_1338 hq_1341
  refine j_dup C dX9_init_155 rfl ?_
  show J _ _ _ _ _ 156 _
  have hf_1344 : Fm (fun _ _ => False) (fun f9 b9 => b9 = h) (fun _ => False) S (nO S_1288 q_1340 10) := (hf_1336.nO _ hq_1341)
  refine j_callI C [] [.ref q_1340, .int 6, .ref q_149] mlX9_38 mcX10_init (c_X10_init (nO S_1288 q_1340 10) q_1340 mem_new (kd_nO' (k := 10))) (M.rm (by decide) (by decide) (Nat.le_of_ble_eq_true rfl) (Nat.le_of_ble_eq_true rfl)) rfl rfl (Nat.le_of_ble_eq_true rfl) dX9_init_156 (fun r_1354 S_1355 hp_1356 => ?_)
  obtain ⟨rfl, hf_1357, e_1346, e_1347, q_1345, e_1348, e_1349, e_1350, e_1351, e_1352, hNl_1353⟩ := hp_1356
  refine J.eq (st' := [.ref q_1340, .int 6, .ref q_149]) rfl rfl rfl ?_
  have hz_1358 : ∀ j, aI S_1355 q_149 j = 0 := fun j9 => (hf_1357.ai (mem_old hm_1295) (fun h9 => h9) j9).trans (hz_1298 j9)
  have hz_1359 : ∀ j, aI S_1355 q_244 j = 0 := fun j9 => (hf_1357.ai (mem_old hm_1299) (fun h9 => h9) j9).trans (hz_1302 j9)
  have hz_1360 : ∀ j, aI S_1355 q_271 j = 0 := fun j9 => (hf_1357.ai (mem_old hm_1303) (fun h9 => h9) j9).trans (hz_1306 j9)
  have hz_1361 : ∀ j, aI S_1355 q_490 j = 0 := fun j9 => (hf_1357.ai (mem_old hm_1307) (fun h9 => h9) j9).trans (hz_1310 j9)
  have hz_1362 : ∀ j, aI S_1355 q_529 j = 0 := fun j9 => (hf_1357.ai (mem_old hm_1311) (fun h9 => h9) j9).trans (hz_1314 j9)
  have hz_1363 : ∀ j, aI S_1355 q_572 j = 0 := fun j9 => (hf_1357.ai (mem_old hm_1315) (fun h9 => h9) j9).trans (hz_1318 j9)
  have hm_1364 : h ∈ hL S_1355 := hf_1357.mem (mem_old hm_1291)
  have hk_1365 : Kd S_1355 h 9 := hf_1357.kd (mem_old hm_1291) (kd_nO (k := 10) hq_1341 hm_1291 hk_1292)
  have hm_1366 : q_1340 ∈ hL S_1355 := hf_1357.mem mem_new
  have hk_1367 : Kd S_1355 q_1340 10 := hf_1357.kd mem_new (kd_nO' (k := 10))
  have hm_1368 : q_149 ∈ hL S_1355 := hf_1357.mem (mem_old hm_1295)
  have hk_1369 : Kd S_1355 q_149 20 := hf_1357.kd (mem_old hm_1295) (kd_nO (k := 10) hq_1341 hm_1295 hk_1296)
  have hn_1370 : Ln S_1355 q_149 16 := hf_1357.ln (mem_old hm_1295) hn_1297
  have hm_1371 : q_244 ∈ hL S_1355 := hf_1357.mem (mem_old hm_1299)
  have hk_1372 : Kd S_1355 q_244 13 := hf_1357.kd (mem_old hm_1299) (kd_nO (k := 10) hq_1341 hm_1299 hk_1300)
  have hn_1373 : Ln S_1355 q_244 24000 := hf_1357.ln (mem_old hm_1299) hn_1301
  have hm_1374 : q_271 ∈ hL S_1355 := hf_1357.mem (mem_old hm_1303)
  have hk_1375 : Kd S_1355 q_271 14 := hf_1357.kd (mem_old hm_1303) (kd_nO (k := 10) hq_1341 hm_1303 hk_1304)
  have hn_1376 : Ln S_1355 q_271 16 := hf_1357.ln (mem_old hm_1303) hn_1305
  have hm_1377 : q_490 ∈ hL S_1355 := hf_1357.mem (mem_old hm_1307)
  have hk_1378 : Kd S_1355 q_490 18 := hf_1357.kd (mem_old hm_1307) (kd_nO (k := 10) hq_1341 hm_1307 hk_1308)
  have hn_1379 : Ln S_1355 q_490 3 := hf_1357.ln (mem_old hm_1307) hn_1309
  have hm_1380 : q_529 ∈ hL S_1355 := hf_1357.mem (mem_old hm_1311)
  have hk_1381 : Kd S_1355 q_529 19 := hf_1357.kd (mem_old hm_1311) (kd_nO (k := 10) hq_1341 hm_1311 hk_1312)
  have hn_1382 : Ln S_1355 q_529 4 := hf_1357.ln (mem_old hm_1311) hn_1313
  have hm_1383 : q_572 ∈ hL S_1355 := hf_1357.mem (mem_old hm_1315)
  have hk_1384 : Kd S_1355 q_572 14 := hf_1357.kd (mem_old hm_1315) (kd_nO (k := 10) hq_1341 hm_1315 hk_1316)
  have hn_1385 : Ln S_1355 q_572 12 := hf_1357.ln (mem_old hm_1315) hn_1317
  have hv_1386 : hR S_1355 900 h = (some s0) := hf_1357.fr (mem_old hm_1291) (fun q9 => (fun e9 => absurd (((kd_nO (k := 10) hq_1341 hm_1291 hk_1292)).symm.trans ((congrArg (hK _) e9).trans (kd_nO' (k := 10)))) (by decide)) q9) (rd_nOR (k := 10) hq_1341 hm_1291 hv_1322)
  have hv_1387 : hR S_1355 901 h = (some q_1) := hf_1357.fr (mem_old hm_1291) (fun q9 => (fun e9 => absurd (((kd_nO (k := 10) hq_1341 hm_1291 hk_1292)).symm.trans ((congrArg (hK _) e9).trans (kd_nO' (k := 10)))) (by decide)) q9) (rd_nOR (k := 10) hq_1341 hm_1291 hv_1323)
  have hv_1388 : hR S_1355 902 h = (some q_37) := hf_1357.fr (mem_old hm_1291) (fun q9 => (fun e9 => absurd (((kd_nO (k := 10) hq_1341 hm_1291 hk_1292)).symm.trans ((congrArg (hK _) e9).trans (kd_nO' (k := 10)))) (by decide)) q9) (rd_nOR (k := 10) hq_1341 hm_1291 hv_1324)
  have hv_1389 : hR S_1355 903 h = (some q_118) := hf_1357.fr (mem_old hm_1291) (fun q9 => (fun e9 => absurd (((kd_nO (k := 10) hq_1341 hm_1291 hk_1292)).symm.trans ((congrArg (hK _) e9).trans (kd_nO' (k := 10)))) (by decide)) q9) (rd_nOR (k := 10) hq_1341 hm_1291 hv_1325)
  have hv_1390 : hR S_1355 904 h = (some q_149) := hf_1357.fr (mem_old hm_1291) (fun q9 => (fun e9 => absurd (((kd_nO (k := 10) hq_1341 hm_1291 hk_1292)).symm.trans ((congrArg (hK _) e9).trans (kd_nO' (k := 10)))) (by decide)) q9) (rd_nOR (k := 10) hq_1341 hm_1291 hv_1326)
  have hv_1391 : hR S_1355 905 h = (some q_169) := hf_1357.fr (mem_old hm_1291) (fun q9 => (fun e9 => absurd (((kd_nO (k := 10) hq_1341 hm_1291 hk_1292)).symm.trans ((congrArg (hK _) e9).trans (kd_nO' (k := 10)))) (by decide)) q9) (rd_nOR (k := 10) hq_1341 hm_1291 hv_1327)
  have hv_1392 : hR S_1355 906 h = (some q_206) := hf_1357.fr (mem_old hm_1291) (fun q9 => (fun e9 => absurd (((kd_nO (k := 10) hq_1341 hm_1291 hk_1292)).symm.trans ((congrArg (hK _) e9).trans (kd_nO' (k := 10)))) (by decide)) q9) (rd_nOR (k := 10) hq_1341 hm_1291 hv_1328)
  have hv_1393 : hR S_1355 907 h = (some q_244) := hf_1357.fr (mem_old hm_1291) (fun q9 => (fun e9 => absurd (((kd_nO (k := 10) hq_1341 hm_1291 hk_1292)).symm.trans ((congrArg (hK _) e9).trans (kd_nO' (k := 10)))) (by decide)) q9) (rd_nOR (k := 10) hq_1341 hm_1291 hv_1329)
  have hv_1394 : hR S_1355 908 h = (some q_271) := hf_1357.fr (mem_old hm_1291) (fun q9 => (fun e9 => absurd (((kd_nO (k := 10) hq_1341 hm_1291 hk_1292)).symm.trans ((congrArg (hK _) e9).trans (kd_nO' (k := 10)))) (by decide)) q9) (rd_nOR (k := 10) hq_1341 hm_1291 hv_1330)
  have hv_1395 : hR S_1355 909 h = (some q_302) := hf_1357.fr (mem_old hm_1291) (fun q9 => (fun e9 => absurd (((kd_nO (k := 10) hq_1341 hm_1291 hk_1292)).symm.trans ((congrArg (hK _) e9).trans (kd_nO' (k := 10)))) (by decide)) q9) (rd_nOR (k := 10) hq_1341 hm_1291 hv_1331)
  have hv_1396 : hR S_1355 910 h = (some q_395) := hf_1357.fr (mem_old hm_1291) (fun q9 => (fun e9 => absurd (((kd_nO (k := 10) hq_1341 hm_1291 hk_1292)).symm.trans ((congrArg (hK _) e9).trans (kd_nO' (k := 10)))) (by decide)) q9) (rd_nOR (k := 10) hq_1341 hm_1291 hv_1332)
  have hv_1397 : hR S_1355 911 h = (some q_490) := hf_1357.fr (mem_old hm_1291) (fun q9 => (fun e9 => absurd (((kd_nO (k := 10) hq_1341 hm_1291 hk_1292)).symm.trans ((congrArg (hK _) e9).trans (kd_nO' (k := 10)))) (by decide)) q9) (rd_nOR (k := 10) hq_1341 hm_1291 hv_1333)
  have hv_1398 : hR S_1355 912 h = (some q_529) := hf_1357.fr (mem_old hm_1291) (fun q9 => (fun e9 => absurd (((kd_nO (k := 10) hq_1341 hm_1291 hk_1292)).symm.trans ((congrArg (hK _) e9).trans (kd_nO' (k := 10)))) (by decide)) q9) (rd_nOR (k := 10) hq_1341 hm_1291 hv_1334)
  have hv_1399 : hR S_1355 917 h = (some q_572) := hf_1357.fr (mem_old hm_1291) (fun q9 => (fun e9 => absurd (((kd_nO (k := 10) hq_1341 hm_1291 hk_1292)).symm.trans ((congrArg (hK _) e9).trans (kd_nO' (k := 10)))) (by decide)) q9) (rd_nOR (k := 10) hq_1341 hm_1291 hv_1335)
  have hf_1400 : Fm (fun _ _ => False) (fun f9 b9 => b9 = h) (fun _ => False) S S_1355 := hf_1344.then hf_1357 (fun a9 ha9 => ⟨(fun f9 h9 => (fun h9 => h9.elim (fun h8 => absurd (h8.2 ▸ ha9) hz_1342) (fun h8 => absurd (h8.2 ▸ ha9) hz_1342)) h9), (fun f9 h9 => (fun h8 => absurd (h8 ▸ ha9) hz_1342) h9), (fun h9 => h9.elim)⟩)
  have hN_1401 : NL S [q_1, q_5, q_6, q_37, q_43, q_44, q_45, q_46, q_47, q_48, q_49, q_50, q_118, q_124, q_149, q_169, q_174, q_206, q_212, q_244, q_271, q_302, q_307, q_308, q_309, q_310, q_311, q_312, q_313, q_314, q_395, q_401, q_402, q_403, q_404, q_405, q_406, q_407, q_408, q_490, q_529, q_572, q_621, q_626, q_740, q_745, q_860, q_865, q_980, q_985, q_1100, q_1105, q_1220, q_1225, q_1340] S_1355 := NL.mono (show NL S [q_1, q_5, q_6, q_37, q_43, q_44, q_45, q_46, q_47, q_48, q_49, q_50, q_118, q_124, q_149, q_169, q_174, q_206, q_212, q_244, q_271, q_302, q_307, q_308, q_309, q_310, q_311, q_312, q_313, q_314, q_395, q_401, q_402, q_403, q_404, q_405, q_406, q_407, q_408, q_490, q_529, q_572, q_621, q_626, q_740, q_745, q_860, q_865, q_980, q_985, q_1100, q_1105, q_1220, q_1225, q_1340] (nO S_1288 q_1340 10) from NL.nO hN_1337 hq_1341 hz_1342) (fun a9 h9 => hf_1357.mem h9)
  have hG_1402 : Gs h [(3, [q_1, q_5, q_6]), (4, [q_37, q_43, q_44, q_45, q_46, q_47, q_48, q_49, q_50]), (0, [q_118, q_124]), (1, [q_169, q_174]), (0, [q_206, q_212]), (2, [q_302, q_307, q_308, q_309, q_310, q_311, q_312, q_313, q_314]), (2, [q_395, q_401, q_402, q_403, q_404, q_405, q_406, q_407, q_408]), (1, [q_621, q_626]), (1, [q_740, q_745]), (1, [q_860, q_865]), (1, [q_980, q_985]), (1, [q_1100, q_1105]), (1, [q_1220, q_1225])] S_1355 := Gs.fm (show Gs h [(3, [q_1, q_5, q_6]), (4, [q_37, q_43, q_44, q_45, q_46, q_47, q_48, q_49, q_50]), (0, [q_118, q_124]), (1, [q_169, q_174]), (0, [q_206, q_212]), (2, [q_302, q_307, q_308, q_309, q_310, q_311, q_312, q_313, q_314]), (2, [q_395, q_401, q_402, q_403, q_404, q_405, q_406, q_407, q_408]), (1, [q_621, q_626]), (1, [q_740, q_745]), (1, [q_860, q_865]), (1, [q_980, q_985]), (1, [q_1100, q_1105]), (1, [q_1220, q_1225])] (nO S_1288 q_1340 10) from Gs.nO hG_1338 hq_1341) hf_1357 (fun g9 hg9 p9 hp9 => gn_1343 g9 hg9 p9 hp9)
  have hE_1403 : ELs S_1355 q_149 [q_621, q_740, q_860, q_980, q_1100, q_1220] := ELs.fm (ELs.nO (S := S_1288) hE_1339) hf_1357 (mem_old hm_1295) (fun h9 => h9)
  have hz_1404 : q_1345 ∉ hL S := fun h9 => e_1348 (hf_1344.mem h9)
  have hN_1405 : NL S [q_1, q_5, q_6, q_37, q_43, q_44, q_45, q_46, q_47, q_48, q_49, q_50, q_118, q_124, q_149, q_169, q_174, q_206, q_212, q_244, q_271, q_302, q_307, q_308, q_309, q_310, q_311, q_312, q_313, q_314, q_395, q_401, q_402, q_403, q_404, q_405, q_406, q_407, q_408, q_490, q_529, q_572, q_621, q_626, q_740, q_745, q_860, q_865, q_980, q_985, q_1100, q_1105, q_1220, q_1225, q_1340, q_1345] S_1355 := NL.app (show NL S [q_1, q_5, q_6, q_37, q_43, q_44, q_45, q_46, q_47, q_48, q_49, q_50, q_118, q_124, q_149, q_169, q_174, q_206, q_212, q_244, q_271, q_302, q_307, q_308, q_309, q_310, q_311, q_312, q_313, q_314, q_395, q_401, q_402, q_403, q_404, q_405, q_406, q_407, q_408, q_490, q_529, q_572, q_621, q_626, q_740, q_745, q_860, q_865, q_980, q_985, q_1100, q_1105, q_1220, q_1225, q_1340] (nO S_1288 q_1340 10) from NL.nO hN_1337 hq_1341 hz_1342) hNl_1353 (fun a9 h9 => hf_1357.mem h9) (fun a9 h9 => hf_1344.mem h9)
  have hGt_1406 : Gt 1 [q_1340, q_1345] S_1355 := ⟨fun i9 k9 h9 => (match i9, h9 with | 0, h9 => (by have e9 : (10 : Nat) = k9 := Option.some.inj h9; subst e9; exact ⟨hm_1366, hk_1367⟩) | 1, h9 => (by have e9 : (15 : Nat) = k9 := Option.some.inj h9; subst e9; exact ⟨e_1349, e_1350⟩) | i9 + 2, h9 => absurd h9 (by simp [gT])), (List.forall_mem_cons.mpr ⟨e_1351, (fun _ h9 => absurd h9 List.not_mem_nil)⟩), (List.forall_mem_cons.mpr ⟨e_1352, (fun _ h9 => absurd h9 List.not_mem_nil)⟩), (fun _ h9 => absurd h9 List.not_mem_nil)⟩
  have hG_1407 : Gs h [(3, [q_1, q_5, q_6]), (4, [q_37, q_43, q_44, q_45, q_46, q_47, q_48, q_49, q_50]), (0, [q_118, q_124]), (1, [q_169, q_174]), (0, [q_206, q_212]), (2, [q_302, q_307, q_308, q_309, q_310, q_311, q_312, q_313, q_314]), (2, [q_395, q_401, q_402, q_403, q_404, q_405, q_406, q_407, q_408]), (1, [q_621, q_626]), (1, [q_740, q_745]), (1, [q_860, q_865]), (1, [q_980, q_985]), (1, [q_1100, q_1105]), (1, [q_1220, q_1225]), (1, [q_1340, q_1345])] S_1355 := Gs.snoc hG_1402 (by decide) hGt_1406 (List.forall_mem_cons.mpr ⟨(fun e9 => hz_1342 (e9 ▸ hm)), (fun _ h9 => absurd h9 List.not_mem_nil)⟩)
  refine j_aast (j := 6) (ci := 10) C 20  (by decide) rfl dX9_init_159 hm_1368 hk_1369 (inr_of (n := 16) hn_1370 (vp_lit (by decide))) (by decide) hm_1366 hk_1367 rfl ?_
  have hf_1410 : Fm (fun _ _ => False) (fun f9 b9 => b9 = h) (fun _ => False) S (tR S_1355 q_149 6 (some q_1340)) := (hf_1400.tR _ _ (fun h9 => absurd h9 hz_152))
  obtain ⟨S_1408, eS_1409⟩ : ∃ S9 : Hp, S9 = (tR S_1355 q_149 6 (some q_1340)) := ⟨_, rfl⟩
  refine J.eq (S' := S_1408) eS_1409.symm rfl rfl ?_
  have hm_1411 : h ∈ hL S_1408 := by rw [eS_1409]; exact hm_1364
  have hk_1412 : Kd S_1408 h 9 := by rw [eS_1409]; exact hk_1365
  have hm_1413 : q_1340 ∈ hL S_1408 := by rw [eS_1409]; exact hm_1366
  have hk_1414 : Kd S_1408 q_1340 10 := by rw [eS_1409]; exact hk_1367
  have hm_1415 : q_149 ∈ hL S_1408 := by rw [eS_1409]; exact hm_1368
  have hk_1416 : Kd S_1408 q_149 20 := by rw [eS_1409]; exact hk_1369
  have hn_1417 : Ln S_1408 q_149 16 := by rw [eS_1409]; exact hn_1370
  have hz_1418 : ∀ j, aI S_1408 q_149 j = 0 := by rw [eS_1409]; exact hz_1358
  have hm_1419 : q_244 ∈ hL S_1408 := by rw [eS_1409]; exact hm_1371
  have hk_1420 : Kd S_1408 q_244 13 := by rw [eS_1409]; exact hk_1372
  have hn_1421 : Ln S_1408 q_244 24000 := by rw [eS_1409]; exact hn_1373
  have hz_1422 : ∀ j, aI S_1408 q_244 j = 0 := by rw [eS_1409]; exact hz_1359
  have hm_1423 : q_271 ∈ hL S_1408 := by rw [eS_1409]; exact hm_1374
  have hk_1424 : Kd S_1408 q_271 14 := by rw [eS_1409]; exact hk_1375
  have hn_1425 : Ln S_1408 q_271 16 := by rw [eS_1409]; exact hn_1376
  have hz_1426 : ∀ j, aI S_1408 q_271 j = 0 := by rw [eS_1409]; exact hz_1360
  have hm_1427 : q_490 ∈ hL S_1408 := by rw [eS_1409]; exact hm_1377
  have hk_1428 : Kd S_1408 q_490 18 := by rw [eS_1409]; exact hk_1378
  have hn_1429 : Ln S_1408 q_490 3 := by rw [eS_1409]; exact hn_1379
  have hz_1430 : ∀ j, aI S_1408 q_490 j = 0 := by rw [eS_1409]; exact hz_1361
  have hm_1431 : q_529 ∈ hL S_1408 := by rw [eS_1409]; exact hm_1380
  have hk_1432 : Kd S_1408 q_529 19 := by rw [eS_1409]; exact hk_1381
  have hn_1433 : Ln S_1408 q_529 4 := by rw [eS_1409]; exact hn_1382
  have hz_1434 : ∀ j, aI S_1408 q_529 j = 0 := by rw [eS_1409]; exact hz_1362
  have hm_1435 : q_572 ∈ hL S_1408 := by rw [eS_1409]; exact hm_1383
  have hk_1436 : Kd S_1408 q_572 14 := by rw [eS_1409]; exact hk_1384
  have hn_1437 : Ln S_1408 q_572 12 := by rw [eS_1409]; exact hn_1385
  have hz_1438 : ∀ j, aI S_1408 q_572 j = 0 := by rw [eS_1409]; exact hz_1363
  have hv_1439 : hI S_1408 1000 q_1340 = 1 := by rw [eS_1409]; exact e_1346
  have hv_1440 : hI S_1408 1001 q_1340 = 1 := by rw [eS_1409]; exact e_1347
  have hv_1441 : hR S_1408 1003 q_1340 = (some q_1345) := by rw [eS_1409]; exact e_1352
  have hv_1442 : hR S_1408 900 h = (some s0) := by rw [eS_1409]; exact hv_1386
  have hv_1443 : hR S_1408 901 h = (some q_1) := by rw [eS_1409]; exact hv_1387
  have hv_1444 : hR S_1408 902 h = (some q_37) := by rw [eS_1409]; exact hv_1388
  have hv_1445 : hR S_1408 903 h = (some q_118) := by rw [eS_1409]; exact hv_1389
  have hv_1446 : hR S_1408 904 h = (some q_149) := by rw [eS_1409]; exact hv_1390
  have hv_1447 : hR S_1408 905 h = (some q_169) := by rw [eS_1409]; exact hv_1391
  have hv_1448 : hR S_1408 906 h = (some q_206) := by rw [eS_1409]; exact hv_1392
  have hv_1449 : hR S_1408 907 h = (some q_244) := by rw [eS_1409]; exact hv_1393
  have hv_1450 : hR S_1408 908 h = (some q_271) := by rw [eS_1409]; exact hv_1394
  have hv_1451 : hR S_1408 909 h = (some q_302) := by rw [eS_1409]; exact hv_1395
  have hv_1452 : hR S_1408 910 h = (some q_395) := by rw [eS_1409]; exact hv_1396
  have hv_1453 : hR S_1408 911 h = (some q_490) := by rw [eS_1409]; exact hv_1397
  have hv_1454 : hR S_1408 912 h = (some q_529) := by rw [eS_1409]; exact hv_1398
  have hv_1455 : hR S_1408 917 h = (some q_572) := by rw [eS_1409]; exact hv_1399
  have hf_1456 : Fm (fun _ _ => False) (fun f9 b9 => b9 = h) (fun _ => False) S S_1408 := by rw [eS_1409]; exact hf_1410
  have hN_1457 : NL S [q_1, q_5, q_6, q_37, q_43, q_44, q_45, q_46, q_47, q_48, q_49, q_50, q_118, q_124, q_149, q_169, q_174, q_206, q_212, q_244, q_271, q_302, q_307, q_308, q_309, q_310, q_311, q_312, q_313, q_314, q_395, q_401, q_402, q_403, q_404, q_405, q_406, q_407, q_408, q_490, q_529, q_572, q_621, q_626, q_740, q_745, q_860, q_865, q_980, q_985, q_1100, q_1105, q_1220, q_1225, q_1340, q_1345] S_1408 := by rw [eS_1409]; exact (NL.tR (S := S_1355) hN_1405)
  have hG_1458 : Gs h [(3, [q_1, q_5, q_6]), (4, [q_37, q_43, q_44, q_45, q_46, q_47, q_48, q_49, q_50]), (0, [q_118, q_124]), (1, [q_169, q_174]), (0, [q_206, q_212]), (2, [q_302, q_307, q_308, q_309, q_310, q_311, q_312, q_313, q_314]), (2, [q_395, q_401, q_402, q_403, q_404, q_405, q_406, q_407, q_408]), (1, [q_621, q_626]), (1, [q_740, q_745]), (1, [q_860, q_865]), (1, [q_980, q_985]), (1, [q_1100, q_1105]), (1, [q_1220, q_1225]), (1, [q_1340, q_1345])] S_1408 := by rw [eS_1409]; exact (Gs.tR (S := S_1355) hG_1407)
  have hE_1459 : ELs S_1408 q_149 [q_621, q_740, q_860, q_980, q_1100, q_1220, q_1340] := by rw [eS_1409]; exact (show ELs (tR S_1355 q_149 6 (some q_1340)) q_149 [q_621, q_740, q_860, q_980, q_1100, q_1220, q_1340] from ELs.snoc hE_1403 rfl)
  refine j_iinc (q := 0) (v := 7) (lv' := [(2, .int 7), (0, .ref h), (1, .ref s0)]) C dX9_init_160 rfl (by decide) (by rw [hn9]; decide) rfl ?_
  refine j_goto (tgt := 138) C dX9_init_163 (by decide) ?_
  refine j_iload_n C dX9_init_138 rfl 0 rfl ?_
  refine j_aload_n C dX9_init_139 rfl 1 rfl ?_
  refine j_getr (f := 904) (v := q_149) C flX9_34 dX9_init_140 hm_1411 hk_1412 (by decide) rfl hv_1446 ?_
  refine j_alen (v := 16) C dX9_init_143 hm_1415 hk_1416 (by decide) (by decide) (len_of (n := 16) hn_1417 (by decide)) ?_
  show J _ _ _ _ _ 144 _
  refine j_ic_ge (tgt := 166) C dX9_init_144 (by decide) (fun c9 => absurd c9 (by decide)) (fun c9 => ?_)
  refine j_aload_n C dX9_init_147 rfl 1 rfl ?_
  refine j_getr (f := 904) (v := q_149) C flX9_34 dX9_init_148 hm_1411 hk_1412 (by decide) rfl hv_1446 ?_
  refine j_iload_n C dX9_init_151 rfl 0 rfl ?_
  refine j_new (N := 4) C (ci := 10) rfl rfl klX9_32 knX10 kiX10 (M.cells (by decide)) (M.slots (by decide)) dX9_init_152 (fun q_1460 hq_1461 => ?_)
  have hz_1462 : q_1460 ∉ hL S := fun h9 => hq_1461 (hf_1456.mem h9)
  have gn_1463 : ∀ g9 ∈ ([(3, [q_1, q_5, q_6]), (4, [q_37, q_43, q_44, q_45, q_46, q_47, q_48, q_49, q_50]), (0, [q_118, q_124]), (1, [q_169, q_174]), (0, [q_206, q_212]), (2, [q_302, q_307, q_308, q_309, q_310, q_311, q_312, q_313, q_314]), (2, [q_395, q_401, q_402, q_403, q_404, q_405, q_406, q_407, q_408]), (1, [q_621, q_626]), (1, [q_740, q_745]), (1, [q_860, q_865]), (1, [q_980, q_985]), (1, [q_1100, q_1105]), (1, [q_1220, q_1225]), (1, [q_1340, q_1345])] : List (Nat × List Nat)), ∀ p9 ∈ (gT g9.1).2.2, g9.2.getD p9.2.1 0 ≠ q_1460 := Gs.ne hG_1458 hq_1461
  refine j_dup C dX9_init_155 rfl ?_
  have hf_1464 : Fm (fun _ _ => False) (fun f9 b9 => b9 = h) (fun _ => False) S (nO S_1408 q_1460 10) := (hf_1456.nO _ hq_1461)
  refine j_callI C [] [.ref q_1460, .int 7, .ref q_149] mlX9_38 mcX10_init (c_X10_init (nO S_1408 q_1460 10) q_1460 mem_new (kd_nO' (k := 10))) (M.rm (by decide) (by decide) (Nat.le_of_ble_eq_true rfl) (Nat.le_of_ble_eq_true rfl)) rfl rfl (Nat.le_of_ble_eq_true rfl) dX9_init_156 (fun r_1474 S_1475 hp_1476 => ?_)
  obtain ⟨rfl, hf_1477, e_1466, e_1467, q_1465, e_1468, e_1469, e_1470, e_1471, e_1472, hNl_1473⟩ := hp_1476
  refine J.eq (st' := [.ref q_1460, .int 7, .ref q_149]) rfl rfl rfl ?_
  have hz_1478 : ∀ j, aI S_1475 q_149 j = 0 := fun j9 => (hf_1477.ai (mem_old hm_1415) (fun h9 => h9) j9).trans (hz_1418 j9)
  have hz_1479 : ∀ j, aI S_1475 q_244 j = 0 := fun j9 => (hf_1477.ai (mem_old hm_1419) (fun h9 => h9) j9).trans (hz_1422 j9)
  have hz_1480 : ∀ j, aI S_1475 q_271 j = 0 := fun j9 => (hf_1477.ai (mem_old hm_1423) (fun h9 => h9) j9).trans (hz_1426 j9)
  have hz_1481 : ∀ j, aI S_1475 q_490 j = 0 := fun j9 => (hf_1477.ai (mem_old hm_1427) (fun h9 => h9) j9).trans (hz_1430 j9)
  have hz_1482 : ∀ j, aI S_1475 q_529 j = 0 := fun j9 => (hf_1477.ai (mem_old hm_1431) (fun h9 => h9) j9).trans (hz_1434 j9)
  have hz_1483 : ∀ j, aI S_1475 q_572 j = 0 := fun j9 => (hf_1477.ai (mem_old hm_1435) (fun h9 => h9) j9).trans (hz_1438 j9)
  have hm_1484 : h ∈ hL S_1475 := hf_1477.mem (mem_old hm_1411)
  have hk_1485 : Kd S_1475 h 9 := hf_1477.kd (mem_old hm_1411) (kd_nO (k := 10) hq_1461 hm_1411 hk_1412)
  have hm_1486 : q_1460 ∈ hL S_1475 := hf_1477.mem mem_new
  have hk_1487 : Kd S_1475 q_1460 10 := hf_1477.kd mem_new (kd_nO' (k := 10))
  have hm_1488 : q_149 ∈ hL S_1475 := hf_1477.mem (mem_old hm_1415)
  have hk_1489 : Kd S_1475 q_149 20 := hf_1477.kd (mem_old hm_1415) (kd_nO (k := 10) hq_1461 hm_1415 hk_1416)
  have hn_1490 : Ln S_1475 q_149 16 := hf_1477.ln (mem_old hm_1415) hn_1417
  have hm_1491 : q_244 ∈ hL S_1475 := hf_1477.mem (mem_old hm_1419)
  have hk_1492 : Kd S_1475 q_244 13 := hf_1477.kd (mem_old hm_1419) (kd_nO (k := 10) hq_1461 hm_1419 hk_1420)
  have hn_1493 : Ln S_1475 q_244 24000 := hf_1477.ln (mem_old hm_1419) hn_1421
  have hm_1494 : q_271 ∈ hL S_1475 := hf_1477.mem (mem_old hm_1423)
  have hk_1495 : Kd S_1475 q_271 14 := hf_1477.kd (mem_old hm_1423) (kd_nO (k := 10) hq_1461 hm_1423 hk_1424)
  have hn_1496 : Ln S_1475 q_271 16 := hf_1477.ln (mem_old hm_1423) hn_1425
  have hm_1497 : q_490 ∈ hL S_1475 := hf_1477.mem (mem_old hm_1427)
  have hk_1498 : Kd S_1475 q_490 18 := hf_1477.kd (mem_old hm_1427) (kd_nO (k := 10) hq_1461 hm_1427 hk_1428)
  have hn_1499 : Ln S_1475 q_490 3 := hf_1477.ln (mem_old hm_1427) hn_1429
  have hm_1500 : q_529 ∈ hL S_1475 := hf_1477.mem (mem_old hm_1431)
  have hk_1501 : Kd S_1475 q_529 19 := hf_1477.kd (mem_old hm_1431) (kd_nO (k := 10) hq_1461 hm_1431 hk_1432)
  have hn_1502 : Ln S_1475 q_529 4 := hf_1477.ln (mem_old hm_1431) hn_1433
  have hm_1503 : q_572 ∈ hL S_1475 := hf_1477.mem (mem_old hm_1435)
  have hk_1504 : Kd S_1475 q_572 14 := hf_1477.kd (mem_old hm_1435) (kd_nO (k := 10) hq_1461 hm_1435 hk_1436)
  have hn_1505 : Ln S_1475 q_572 12 := hf_1477.ln (mem_old hm_1435) hn_1437
  have hv_1506 : hR S_1475 900 h = (some s0) := hf_1477.fr (mem_old hm_1411) (fun q9 => (fun e9 => absurd (((kd_nO (k := 10) hq_1461 hm_1411 hk_1412)).symm.trans ((congrArg (hK _) e9).trans (kd_nO' (k := 10)))) (by decide)) q9) (rd_nOR (k := 10) hq_1461 hm_1411 hv_1442)
  have hv_1507 : hR S_1475 901 h = (some q_1) := hf_1477.fr (mem_old hm_1411) (fun q9 => (fun e9 => absurd (((kd_nO (k := 10) hq_1461 hm_1411 hk_1412)).symm.trans ((congrArg (hK _) e9).trans (kd_nO' (k := 10)))) (by decide)) q9) (rd_nOR (k := 10) hq_1461 hm_1411 hv_1443)
  have hv_1508 : hR S_1475 902 h = (some q_37) := hf_1477.fr (mem_old hm_1411) (fun q9 => (fun e9 => absurd (((kd_nO (k := 10) hq_1461 hm_1411 hk_1412)).symm.trans ((congrArg (hK _) e9).trans (kd_nO' (k := 10)))) (by decide)) q9) (rd_nOR (k := 10) hq_1461 hm_1411 hv_1444)
  have hv_1509 : hR S_1475 903 h = (some q_118) := hf_1477.fr (mem_old hm_1411) (fun q9 => (fun e9 => absurd (((kd_nO (k := 10) hq_1461 hm_1411 hk_1412)).symm.trans ((congrArg (hK _) e9).trans (kd_nO' (k := 10)))) (by decide)) q9) (rd_nOR (k := 10) hq_1461 hm_1411 hv_1445)
  have hv_1510 : hR S_1475 904 h = (some q_149) := hf_1477.fr (mem_old hm_1411) (fun q9 => (fun e9 => absurd (((kd_nO (k := 10) hq_1461 hm_1411 hk_1412)).symm.trans ((congrArg (hK _) e9).trans (kd_nO' (k := 10)))) (by decide)) q9) (rd_nOR (k := 10) hq_1461 hm_1411 hv_1446)
  have hv_1511 : hR S_1475 905 h = (some q_169) := hf_1477.fr (mem_old hm_1411) (fun q9 => (fun e9 => absurd (((kd_nO (k := 10) hq_1461 hm_1411 hk_1412)).symm.trans ((congrArg (hK _) e9).trans (kd_nO' (k := 10)))) (by decide)) q9) (rd_nOR (k := 10) hq_1461 hm_1411 hv_1447)
  have hv_1512 : hR S_1475 906 h = (some q_206) := hf_1477.fr (mem_old hm_1411) (fun q9 => (fun e9 => absurd (((kd_nO (k := 10) hq_1461 hm_1411 hk_1412)).symm.trans ((congrArg (hK _) e9).trans (kd_nO' (k := 10)))) (by decide)) q9) (rd_nOR (k := 10) hq_1461 hm_1411 hv_1448)
  have hv_1513 : hR S_1475 907 h = (some q_244) := hf_1477.fr (mem_old hm_1411) (fun q9 => (fun e9 => absurd (((kd_nO (k := 10) hq_1461 hm_1411 hk_1412)).symm.trans ((congrArg (hK _) e9).trans (kd_nO' (k := 10)))) (by decide)) q9) (rd_nOR (k := 10) hq_1461 hm_1411 hv_1449)
  have hv_1514 : hR S_1475 908 h = (some q_271) := hf_1477.fr (mem_old hm_1411) (fun q9 => (fun e9 => absurd (((kd_nO (k := 10) hq_1461 hm_1411 hk_1412)).symm.trans ((congrArg (hK _) e9).trans (kd_nO' (k := 10)))) (by decide)) q9) (rd_nOR (k := 10) hq_1461 hm_1411 hv_1450)
  have hv_1515 : hR S_1475 909 h = (some q_302) := hf_1477.fr (mem_old hm_1411) (fun q9 => (fun e9 => absurd (((kd_nO (k := 10) hq_1461 hm_1411 hk_1412)).symm.trans ((congrArg (hK _) e9).trans (kd_nO' (k := 10)))) (by decide)) q9) (rd_nOR (k := 10) hq_1461 hm_1411 hv_1451)
  have hv_1516 : hR S_1475 910 h = (some q_395) := hf_1477.fr (mem_old hm_1411) (fun q9 => (fun e9 => absurd (((kd_nO (k := 10) hq_1461 hm_1411 hk_1412)).symm.trans ((congrArg (hK _) e9).trans (kd_nO' (k := 10)))) (by decide)) q9) (rd_nOR (k := 10) hq_1461 hm_1411 hv_1452)
  have hv_1517 : hR S_1475 911 h = (some q_490) := hf_1477.fr (mem_old hm_1411) (fun q9 => (fun e9 => absurd (((kd_nO (k := 10) hq_1461 hm_1411 hk_1412)).symm.trans ((congrArg (hK _) e9).trans (kd_nO' (k := 10)))) (by decide)) q9) (rd_nOR (k := 10) hq_1461 hm_1411 hv_1453)
  have hv_1518 : hR S_1475 912 h = (some q_529) := hf_1477.fr (mem_old hm_1411) (fun q9 => (fun e9 => absurd (((kd_nO (k := 10) hq_1461 hm_1411 hk_1412)).symm.trans ((congrArg (hK _) e9).trans (kd_nO' (k := 10)))) (by decide)) q9) (rd_nOR (k := 10) hq_1461 hm_1411 hv_1454)
  have hv_1519 : hR S_1475 917 h = (some q_572) := hf_1477.fr (mem_old hm_1411) (fun q9 => (fun e9 => absurd (((kd_nO (k := 10) hq_1461 hm_1411 hk_1412)).symm.trans ((congrArg (hK _) e9).trans (kd_nO' (k := 10)))) (by decide)) q9) (rd_nOR (k := 10) hq_1461 hm_1411 hv_1455)
  have hf_1520 : Fm (fun _ _ => False) (fun f9 b9 => b9 = h) (fun _ => False) S S_1475 := hf_1464.then hf_1477 (fun a9 ha9 => ⟨(fun f9 h9 => (fun h9 => h9.elim (fun h8 => absurd (h8.2 ▸ ha9) hz_1462) (fun h8 => absurd (h8.2 ▸ ha9) hz_1462)) h9), (fun f9 h9 => (fun h8 => absurd (h8 ▸ ha9) hz_1462) h9), (fun h9 => h9.elim)⟩)
  have hN_1521 : NL S [q_1, q_5, q_6, q_37, q_43, q_44, q_45, q_46, q_47, q_48, q_49, q_50, q_118, q_124, q_149, q_169, q_174, q_206, q_212, q_244, q_271, q_302, q_307, q_308, q_309, q_310, q_311, q_312, q_313, q_314, q_395, q_401, q_402, q_403, q_404, q_405, q_406, q_407, q_408, q_490, q_529, q_572, q_621, q_626, q_740, q_745, q_860, q_865, q_980, q_985, q_1100, q_1105, q_1220, q_1225, q_1340, q_1345, q_1460] S_1475 := NL.mono (show NL S [q_1, q_5, q_6, q_37, q_43, q_44, q_45, q_46, q_47, q_48, q_49, q_50, q_118, q_124, q_149, q_169, q_174, q_206, q_212, q_244, q_271, q_302, q_307, q_308, q_309, q_310, q_311, q_312, q_313, q_314, q_395, q_401, q_402, q_403, q_404, q_405, q_406, q_407, q_408, q_490, q_529, q_572, q_621, q_626, q_740, q_745, q_860, q_865, q_980, q_985, q_1100, q_1105, q_1220, q_1225, q_1340, q_1345, q_1460] (nO S_1408 q_1460 10) from NL.nO hN_1457 hq_1461 hz_1462) (fun a9 h9 => hf_1477.mem h9)
  have hG_1522 : Gs h [(3, [q_1, q_5, q_6]), (4, [q_37, q_43, q_44, q_45, q_46, q_47, q_48, q_49, q_50]), (0, [q_118, q_124]), (1, [q_169, q_174]), (0, [q_206, q_212]), (2, [q_302, q_307, q_308, q_309, q_310, q_311, q_312, q_313, q_314]), (2, [q_395, q_401, q_402, q_403, q_404, q_405, q_406, q_407, q_408]), (1, [q_621, q_626]), (1, [q_740, q_745]), (1, [q_860, q_865]), (1, [q_980, q_985]), (1, [q_1100, q_1105]), (1, [q_1220, q_1225]), (1, [q_1340, q_1345])] S_1475 := Gs.fm (show Gs h [(3, [q_1, q_5, q_6]), (4, [q_37, q_43, q_44, q_45, q_46, q_47, q_48, q_49, q_50]), (0, [q_118, q_124]), (1, [q_169, q_174]), (0, [q_206, q_212]), (2, [q_302, q_307, q_308, q_309, q_310, q_311, q_312, q_313, q_314]), (2, [q_395, q_401, q_402, q_403, q_404, q_405, q_406, q_407, q_408]), (1, [q_621, q_626]), (1, [q_740, q_745]), (1, [q_860, q_865]), (1, [q_980, q_985]), (1, [q_1100, q_1105]), (1, [q_1220, q_1225]), (1, [q_1340, q_1345])] (nO S_1408 q_1460 10) from Gs.nO hG_1458 hq_1461) hf_1477 (fun g9 hg9 p9 hp9 => gn_1463 g9 hg9 p9 hp9)
  have hE_1523 : ELs S_1475 q_149 [q_621, q_740, q_860, q_980, q_1100, q_1220, q_1340] := ELs.fm (ELs.nO (S := S_1408) hE_1459) hf_1477 (mem_old hm_1415) (fun h9 => h9)
  have hz_1524 : q_1465 ∉ hL S := fun h9 => e_1468 (hf_1464.mem h9)
  have hN_1525 : NL S [q_1, q_5, q_6, q_37, q_43, q_44, q_45, q_46, q_47, q_48, q_49, q_50, q_118, q_124, q_149, q_169, q_174, q_206, q_212, q_244, q_271, q_302, q_307, q_308, q_309, q_310, q_311, q_312, q_313, q_314, q_395, q_401, q_402, q_403, q_404, q_405, q_406, q_407, q_408, q_490, q_529, q_572, q_621, q_626, q_740, q_745, q_860, q_865, q_980, q_985, q_1100, q_1105, q_1220, q_1225, q_1340, q_1345, q_1460, q_1465] S_1475 := NL.app (show NL S [q_1, q_5, q_6, q_37, q_43, q_44, q_45, q_46, q_47, q_48, q_49, q_50, q_118, q_124, q_149, q_169, q_174, q_206, q_212, q_244, q_271, q_302, q_307, q_308, q_309, q_310, q_311, q_312, q_313, q_314, q_395, q_401, q_402, q_403, q_404, q_405, q_406, q_407, q_408, q_490, q_529, q_572, q_621, q_626, q_740, q_745, q_860, q_865, q_980, q_985, q_1100, q_1105, q_1220, q_1225, q_1340, q_1345, q_1460] (nO S_1408 q_1460 10) from NL.nO hN_1457 hq_1461 hz_1462) hNl_1473 (fun a9 h9 => hf_1477.mem h9) (fun a9 h9 => hf_1464.mem h9)
  have hGt_1526 : Gt 1 [q_1460, q_1465] S_1475 := ⟨fun i9 k9 h9 => (match i9, h9 with | 0, h9 => (by have e9 : (10 : Nat) = k9 := Option.some.inj h9; subst e9; exact ⟨hm_1486, hk_1487⟩) | 1, h9 => (by have e9 : (15 : Nat) = k9 := Option.some.inj h9; subst e9; exact ⟨e_1469, e_1470⟩) | i9 + 2, h9 => absurd h9 (by simp [gT])), (List.forall_mem_cons.mpr ⟨e_1471, (fun _ h9 => absurd h9 List.not_mem_nil)⟩), (List.forall_mem_cons.mpr ⟨e_1472, (fun _ h9 => absurd h9 List.not_mem_nil)⟩), (fun _ h9 => absurd h9 List.not_mem_nil)⟩
  have hG_1527 : Gs h [(3, [q_1, q_5, q_6]), (4, [q_37, q_43, q_44, q_45, q_46, q_47, q_48, q_49, q_50]), (0, [q_118, q_124]), (1, [q_169, q_174]), (0, [q_206, q_212]), (2, [q_302, q_307, q_308, q_309, q_310, q_311, q_312, q_313, q_314]), (2, [q_395, q_401, q_402, q_403, q_404, q_405, q_406, q_407, q_408]), (1, [q_621, q_626]), (1, [q_740, q_745]), (1, [q_860, q_865]), (1, [q_980, q_985]), (1, [q_1100, q_1105]), (1, [q_1220, q_1225]), (1, [q_1340, q_1345]), (1, [q_1460, q_1465])] S_1475 := Gs.snoc hG_1522 (by decide) hGt_1526 (List.forall_mem_cons.mpr ⟨(fun e9 => hz_1462 (e9 ▸ hm)), (fun _ h9 => absurd h9 List.not_mem_nil)⟩)
  refine j_aast (j := 7) (ci := 10) C 20  (by decide) rfl dX9_init_159 hm_1488 hk_1489 (inr_of (n := 16) hn_1490 (vp_lit (by decide))) (by decide) hm_1486 hk_1487 rfl ?_
  have hf_1530 : Fm (fun _ _ => False) (fun f9 b9 => b9 = h) (fun _ => False) S (tR S_1475 q_149 7 (some q_1460)) := (hf_1520.tR _ _ (fun h9 => absurd h9 hz_152))
  obtain ⟨S_1528, eS_1529⟩ : ∃ S9 : Hp, S9 = (tR S_1475 q_149 7 (some q_1460)) := ⟨_, rfl⟩
  refine J.eq (S' := S_1528) eS_1529.symm rfl rfl ?_
  have hm_1531 : h ∈ hL S_1528 := by rw [eS_1529]; exact hm_1484
  have hk_1532 : Kd S_1528 h 9 := by rw [eS_1529]; exact hk_1485
  have hm_1533 : q_1460 ∈ hL S_1528 := by rw [eS_1529]; exact hm_1486
  have hk_1534 : Kd S_1528 q_1460 10 := by rw [eS_1529]; exact hk_1487
  have hm_1535 : q_149 ∈ hL S_1528 := by rw [eS_1529]; exact hm_1488
  have hk_1536 : Kd S_1528 q_149 20 := by rw [eS_1529]; exact hk_1489
  have hn_1537 : Ln S_1528 q_149 16 := by rw [eS_1529]; exact hn_1490
  have hz_1538 : ∀ j, aI S_1528 q_149 j = 0 := by rw [eS_1529]; exact hz_1478
  have hm_1539 : q_244 ∈ hL S_1528 := by rw [eS_1529]; exact hm_1491
  have hk_1540 : Kd S_1528 q_244 13 := by rw [eS_1529]; exact hk_1492
  have hn_1541 : Ln S_1528 q_244 24000 := by rw [eS_1529]; exact hn_1493
  have hz_1542 : ∀ j, aI S_1528 q_244 j = 0 := by rw [eS_1529]; exact hz_1479
  have hm_1543 : q_271 ∈ hL S_1528 := by rw [eS_1529]; exact hm_1494
  have hk_1544 : Kd S_1528 q_271 14 := by rw [eS_1529]; exact hk_1495
  have hn_1545 : Ln S_1528 q_271 16 := by rw [eS_1529]; exact hn_1496
  have hz_1546 : ∀ j, aI S_1528 q_271 j = 0 := by rw [eS_1529]; exact hz_1480
  have hm_1547 : q_490 ∈ hL S_1528 := by rw [eS_1529]; exact hm_1497
  have hk_1548 : Kd S_1528 q_490 18 := by rw [eS_1529]; exact hk_1498
  have hn_1549 : Ln S_1528 q_490 3 := by rw [eS_1529]; exact hn_1499
  have hz_1550 : ∀ j, aI S_1528 q_490 j = 0 := by rw [eS_1529]; exact hz_1481
  have hm_1551 : q_529 ∈ hL S_1528 := by rw [eS_1529]; exact hm_1500
  have hk_1552 : Kd S_1528 q_529 19 := by rw [eS_1529]; exact hk_1501
  have hn_1553 : Ln S_1528 q_529 4 := by rw [eS_1529]; exact hn_1502
  have hz_1554 : ∀ j, aI S_1528 q_529 j = 0 := by rw [eS_1529]; exact hz_1482
  have hm_1555 : q_572 ∈ hL S_1528 := by rw [eS_1529]; exact hm_1503
  have hk_1556 : Kd S_1528 q_572 14 := by rw [eS_1529]; exact hk_1504
  have hn_1557 : Ln S_1528 q_572 12 := by rw [eS_1529]; exact hn_1505
  have hz_1558 : ∀ j, aI S_1528 q_572 j = 0 := by rw [eS_1529]; exact hz_1483
  have hv_1559 : hI S_1528 1000 q_1460 = 1 := by rw [eS_1529]; exact e_1466
  have hv_1560 : hI S_1528 1001 q_1460 = 1 := by rw [eS_1529]; exact e_1467
  have hv_1561 : hR S_1528 1003 q_1460 = (some q_1465) := by rw [eS_1529]; exact e_1472
  have hv_1562 : hR S_1528 900 h = (some s0) := by rw [eS_1529]; exact hv_1506
  have hv_1563 : hR S_1528 901 h = (some q_1) := by rw [eS_1529]; exact hv_1507
  have hv_1564 : hR S_1528 902 h = (some q_37) := by rw [eS_1529]; exact hv_1508
  have hv_1565 : hR S_1528 903 h = (some q_118) := by rw [eS_1529]; exact hv_1509
  have hv_1566 : hR S_1528 904 h = (some q_149) := by rw [eS_1529]; exact hv_1510
  have hv_1567 : hR S_1528 905 h = (some q_169) := by rw [eS_1529]; exact hv_1511
  have hv_1568 : hR S_1528 906 h = (some q_206) := by rw [eS_1529]; exact hv_1512
  have hv_1569 : hR S_1528 907 h = (some q_244) := by rw [eS_1529]; exact hv_1513
  have hv_1570 : hR S_1528 908 h = (some q_271) := by rw [eS_1529]; exact hv_1514
  have hv_1571 : hR S_1528 909 h = (some q_302) := by rw [eS_1529]; exact hv_1515
  have hv_1572 : hR S_1528 910 h = (some q_395) := by rw [eS_1529]; exact hv_1516
  have hv_1573 : hR S_1528 911 h = (some q_490) := by rw [eS_1529]; exact hv_1517
  have hv_1574 : hR S_1528 912 h = (some q_529) := by rw [eS_1529]; exact hv_1518
  have hv_1575 : hR S_1528 917 h = (some q_572) := by rw [eS_1529]; exact hv_1519
  have hf_1576 : Fm (fun _ _ => False) (fun f9 b9 => b9 = h) (fun _ => False) S S_1528 := by rw [eS_1529]; exact hf_1530
  have hN_1577 : NL S [q_1, q_5, q_6, q_37, q_43, q_44, q_45, q_46, q_47, q_48, q_49, q_50, q_118, q_124, q_149, q_169, q_174, q_206, q_212, q_244, q_271, q_302, q_307, q_308, q_309, q_310, q_311, q_312, q_313, q_314, q_395, q_401, q_402, q_403, q_404, q_405, q_406, q_407, q_408, q_490, q_529, q_572, q_621, q_626, q_740, q_745, q_860, q_865, q_980, q_985, q_1100, q_1105, q_1220, q_1225, q_1340, q_1345, q_1460, q_1465] S_1528 := by rw [eS_1529]; exact (NL.tR (S := S_1475) hN_1525)
  have hG_1578 : Gs h [(3, [q_1, q_5, q_6]), (4, [q_37, q_43, q_44, q_45, q_46, q_47, q_48, q_49, q_50]), (0, [q_118, q_124]), (1, [q_169, q_174]), (0, [q_206, q_212]), (2, [q_302, q_307, q_308, q_309, q_310, q_311, q_312, q_313, q_314]), (2, [q_395, q_401, q_402, q_403, q_404, q_405, q_406, q_407, q_408]), (1, [q_621, q_626]), (1, [q_740, q_745]), (1, [q_860, q_865]), (1, [q_980, q_985]), (1, [q_1100, q_1105]), (1, [q_1220, q_1225]), (1, [q_1340, q_1345]), (1, [q_1460, q_1465])] S_1528 := by rw [eS_1529]; exact (Gs.tR (S := S_1475) hG_1527)
  have hE_1579 : ELs S_1528 q_149 [q_621, q_740, q_860, q_980, q_1100, q_1220, q_1340, q_1460] := by rw [eS_1529]; exact (show ELs (tR S_1475 q_149 7 (some q_1460)) q_149 [q_621, q_740, q_860, q_980, q_1100, q_1220, q_1340, q_1460] from ELs.snoc hE_1523 rfl)
  show J _ _ _ _ _ 160 _
  refine j_iinc (q := 0) (v := 8) (lv' := [(2, .int 8), (0, .ref h), (1, .ref s0)]) C dX9_init_160 rfl (by decide) (by rw [hn9]; decide) rfl ?_
  refine j_goto (tgt := 138) C dX9_init_163 (by decide) ?_
  refine j_iload_n C dX9_init_138 rfl 0 rfl ?_
  refine j_aload_n C dX9_init_139 rfl 1 rfl ?_
  refine j_getr (f := 904) (v := q_149) C flX9_34 dX9_init_140 hm_1531 hk_1532 (by decide) rfl hv_1566 ?_
  refine j_alen (v := 16) C dX9_init_143 hm_1535 hk_1536 (by decide) (by decide) (len_of (n := 16) hn_1537 (by decide)) ?_
  refine j_ic_ge (tgt := 166) C dX9_init_144 (by decide) (fun c9 => absurd c9 (by decide)) (fun c9 => ?_)
  refine j_aload_n C dX9_init_147 rfl 1 rfl ?_
  show J _ _ _ _ _ 148 _
  refine j_getr (f := 904) (v := q_149) C flX9_34 dX9_init_148 hm_1531 hk_1532 (by decide) rfl hv_1566 ?_
  refine j_iload_n C dX9_init_151 rfl 0 rfl ?_
  refine j_new (N := 4) C (ci := 10) rfl rfl klX9_32 knX10 kiX10 (M.cells (by decide)) (M.slots (by decide)) dX9_init_152 (fun q_1580 hq_1581 => ?_)
  have hz_1582 : q_1580 ∉ hL S := fun h9 => hq_1581 (hf_1576.mem h9)
  have gn_1583 : ∀ g9 ∈ ([(3, [q_1, q_5, q_6]), (4, [q_37, q_43, q_44, q_45, q_46, q_47, q_48, q_49, q_50]), (0, [q_118, q_124]), (1, [q_169, q_174]), (0, [q_206, q_212]), (2, [q_302, q_307, q_308, q_309, q_310, q_311, q_312, q_313, q_314]), (2, [q_395, q_401, q_402, q_403, q_404, q_405, q_406, q_407, q_408]), (1, [q_621, q_626]), (1, [q_740, q_745]), (1, [q_860, q_865]), (1, [q_980, q_985]), (1, [q_1100, q_1105]), (1, [q_1220, q_1225]), (1, [q_1340, q_1345]), (1, [q_1460, q_1465])] : List (Nat × List Nat)), ∀ p9 ∈ (gT g9.1).2.2, g9.2.getD p9.2.1 0 ≠ q_1580 := Gs.ne hG_1578 hq_1581
  refine j_dup C dX9_init_155 rfl ?_
  have hf_1584 : Fm (fun _ _ => False) (fun f9 b9 => b9 = h) (fun _ => False) S (nO S_1528 q_1580 10) := (hf_1576.nO _ hq_1581)
  refine j_callI C [] [.ref q_1580, .int 8, .ref q_149] mlX9_38 mcX10_init (c_X10_init (nO S_1528 q_1580 10) q_1580 mem_new (kd_nO' (k := 10))) (M.rm (by decide) (by decide) (Nat.le_of_ble_eq_true rfl) (Nat.le_of_ble_eq_true rfl)) rfl rfl (Nat.le_of_ble_eq_true rfl) dX9_init_156 (fun r_1594 S_1595 hp_1596 => ?_)
  obtain ⟨rfl, hf_1597, e_1586, e_1587, q_1585, e_1588, e_1589, e_1590, e_1591, e_1592, hNl_1593⟩ := hp_1596
  refine J.eq (st' := [.ref q_1580, .int 8, .ref q_149]) rfl rfl rfl ?_
  have hz_1598 : ∀ j, aI S_1595 q_149 j = 0 := fun j9 => (hf_1597.ai (mem_old hm_1535) (fun h9 => h9) j9).trans (hz_1538 j9)
  have hz_1599 : ∀ j, aI S_1595 q_244 j = 0 := fun j9 => (hf_1597.ai (mem_old hm_1539) (fun h9 => h9) j9).trans (hz_1542 j9)
  have hz_1600 : ∀ j, aI S_1595 q_271 j = 0 := fun j9 => (hf_1597.ai (mem_old hm_1543) (fun h9 => h9) j9).trans (hz_1546 j9)
  have hz_1601 : ∀ j, aI S_1595 q_490 j = 0 := fun j9 => (hf_1597.ai (mem_old hm_1547) (fun h9 => h9) j9).trans (hz_1550 j9)
  have hz_1602 : ∀ j, aI S_1595 q_529 j = 0 := fun j9 => (hf_1597.ai (mem_old hm_1551) (fun h9 => h9) j9).trans (hz_1554 j9)
  have hz_1603 : ∀ j, aI S_1595 q_572 j = 0 := fun j9 => (hf_1597.ai (mem_old hm_1555) (fun h9 => h9) j9).trans (hz_1558 j9)
  have hm_1604 : h ∈ hL S_1595 := hf_1597.mem (mem_old hm_1531)
  have hk_1605 : Kd S_1595 h 9 := hf_1597.kd (mem_old hm_1531) (kd_nO (k := 10) hq_1581 hm_1531 hk_1532)
  have hm_1606 : q_149 ∈ hL S_1595 := hf_1597.mem (mem_old hm_1535)
  have hk_1607 : Kd S_1595 q_149 20 := hf_1597.kd (mem_old hm_1535) (kd_nO (k := 10) hq_1581 hm_1535 hk_1536)
  have hn_1608 : Ln S_1595 q_149 16 := hf_1597.ln (mem_old hm_1535) hn_1537
  have hm_1609 : q_1580 ∈ hL S_1595 := hf_1597.mem mem_new
  have hk_1610 : Kd S_1595 q_1580 10 := hf_1597.kd mem_new (kd_nO' (k := 10))
  have hm_1611 : q_244 ∈ hL S_1595 := hf_1597.mem (mem_old hm_1539)
  have hk_1612 : Kd S_1595 q_244 13 := hf_1597.kd (mem_old hm_1539) (kd_nO (k := 10) hq_1581 hm_1539 hk_1540)
  have hn_1613 : Ln S_1595 q_244 24000 := hf_1597.ln (mem_old hm_1539) hn_1541
  have hm_1614 : q_271 ∈ hL S_1595 := hf_1597.mem (mem_old hm_1543)
  have hk_1615 : Kd S_1595 q_271 14 := hf_1597.kd (mem_old hm_1543) (kd_nO (k := 10) hq_1581 hm_1543 hk_1544)
  have hn_1616 : Ln S_1595 q_271 16 := hf_1597.ln (mem_old hm_1543) hn_1545
  have hm_1617 : q_490 ∈ hL S_1595 := hf_1597.mem (mem_old hm_1547)
  have hk_1618 : Kd S_1595 q_490 18 := hf_1597.kd (mem_old hm_1547) (kd_nO (k := 10) hq_1581 hm_1547 hk_1548)
  have hn_1619 : Ln S_1595 q_490 3 := hf_1597.ln (mem_old hm_1547) hn_1549
  have hm_1620 : q_529 ∈ hL S_1595 := hf_1597.mem (mem_old hm_1551)
  have hk_1621 : Kd S_1595 q_529 19 := hf_1597.kd (mem_old hm_1551) (kd_nO (k := 10) hq_1581 hm_1551 hk_1552)
  have hn_1622 : Ln S_1595 q_529 4 := hf_1597.ln (mem_old hm_1551) hn_1553
  have hm_1623 : q_572 ∈ hL S_1595 := hf_1597.mem (mem_old hm_1555)
  have hk_1624 : Kd S_1595 q_572 14 := hf_1597.kd (mem_old hm_1555) (kd_nO (k := 10) hq_1581 hm_1555 hk_1556)
  have hn_1625 : Ln S_1595 q_572 12 := hf_1597.ln (mem_old hm_1555) hn_1557
  have hv_1626 : hR S_1595 900 h = (some s0) := hf_1597.fr (mem_old hm_1531) (fun q9 => (fun e9 => absurd (((kd_nO (k := 10) hq_1581 hm_1531 hk_1532)).symm.trans ((congrArg (hK _) e9).trans (kd_nO' (k := 10)))) (by decide)) q9) (rd_nOR (k := 10) hq_1581 hm_1531 hv_1562)
  have hv_1627 : hR S_1595 901 h = (some q_1) := hf_1597.fr (mem_old hm_1531) (fun q9 => (fun e9 => absurd (((kd_nO (k := 10) hq_1581 hm_1531 hk_1532)).symm.trans ((congrArg (hK _) e9).trans (kd_nO' (k := 10)))) (by decide)) q9) (rd_nOR (k := 10) hq_1581 hm_1531 hv_1563)
  have hv_1628 : hR S_1595 902 h = (some q_37) := hf_1597.fr (mem_old hm_1531) (fun q9 => (fun e9 => absurd (((kd_nO (k := 10) hq_1581 hm_1531 hk_1532)).symm.trans ((congrArg (hK _) e9).trans (kd_nO' (k := 10)))) (by decide)) q9) (rd_nOR (k := 10) hq_1581 hm_1531 hv_1564)
  have hv_1629 : hR S_1595 903 h = (some q_118) := hf_1597.fr (mem_old hm_1531) (fun q9 => (fun e9 => absurd (((kd_nO (k := 10) hq_1581 hm_1531 hk_1532)).symm.trans ((congrArg (hK _) e9).trans (kd_nO' (k := 10)))) (by decide)) q9) (rd_nOR (k := 10) hq_1581 hm_1531 hv_1565)
  have hv_1630 : hR S_1595 904 h = (some q_149) := hf_1597.fr (mem_old hm_1531) (fun q9 => (fun e9 => absurd (((kd_nO (k := 10) hq_1581 hm_1531 hk_1532)).symm.trans ((congrArg (hK _) e9).trans (kd_nO' (k := 10)))) (by decide)) q9) (rd_nOR (k := 10) hq_1581 hm_1531 hv_1566)
  have hv_1631 : hR S_1595 905 h = (some q_169) := hf_1597.fr (mem_old hm_1531) (fun q9 => (fun e9 => absurd (((kd_nO (k := 10) hq_1581 hm_1531 hk_1532)).symm.trans ((congrArg (hK _) e9).trans (kd_nO' (k := 10)))) (by decide)) q9) (rd_nOR (k := 10) hq_1581 hm_1531 hv_1567)
  have hv_1632 : hR S_1595 906 h = (some q_206) := hf_1597.fr (mem_old hm_1531) (fun q9 => (fun e9 => absurd (((kd_nO (k := 10) hq_1581 hm_1531 hk_1532)).symm.trans ((congrArg (hK _) e9).trans (kd_nO' (k := 10)))) (by decide)) q9) (rd_nOR (k := 10) hq_1581 hm_1531 hv_1568)
  have hv_1633 : hR S_1595 907 h = (some q_244) := hf_1597.fr (mem_old hm_1531) (fun q9 => (fun e9 => absurd (((kd_nO (k := 10) hq_1581 hm_1531 hk_1532)).symm.trans ((congrArg (hK _) e9).trans (kd_nO' (k := 10)))) (by decide)) q9) (rd_nOR (k := 10) hq_1581 hm_1531 hv_1569)
  have hv_1634 : hR S_1595 908 h = (some q_271) := hf_1597.fr (mem_old hm_1531) (fun q9 => (fun e9 => absurd (((kd_nO (k := 10) hq_1581 hm_1531 hk_1532)).symm.trans ((congrArg (hK _) e9).trans (kd_nO' (k := 10)))) (by decide)) q9) (rd_nOR (k := 10) hq_1581 hm_1531 hv_1570)
  have hv_1635 : hR S_1595 909 h = (some q_302) := hf_1597.fr (mem_old hm_1531) (fun q9 => (fun e9 => absurd (((kd_nO (k := 10) hq_1581 hm_1531 hk_1532)).symm.trans ((congrArg (hK _) e9).trans (kd_nO' (k := 10)))) (by decide)) q9) (rd_nOR (k := 10) hq_1581 hm_1531 hv_1571)
  have hv_1636 : hR S_1595 910 h = (some q_395) := hf_1597.fr (mem_old hm_1531) (fun q9 => (fun e9 => absurd (((kd_nO (k := 10) hq_1581 hm_1531 hk_1532)).symm.trans ((congrArg (hK _) e9).trans (kd_nO' (k := 10)))) (by decide)) q9) (rd_nOR (k := 10) hq_1581 hm_1531 hv_1572)
  have hv_1637 : hR S_1595 911 h = (some q_490) := hf_1597.fr (mem_old hm_1531) (fun q9 => (fun e9 => absurd (((kd_nO (k := 10) hq_1581 hm_1531 hk_1532)).symm.trans ((congrArg (hK _) e9).trans (kd_nO' (k := 10)))) (by decide)) q9) (rd_nOR (k := 10) hq_1581 hm_1531 hv_1573)
  have hv_1638 : hR S_1595 912 h = (some q_529) := hf_1597.fr (mem_old hm_1531) (fun q9 => (fun e9 => absurd (((kd_nO (k := 10) hq_1581 hm_1531 hk_1532)).symm.trans ((congrArg (hK _) e9).trans (kd_nO' (k := 10)))) (by decide)) q9) (rd_nOR (k := 10) hq_1581 hm_1531 hv_1574)
  have hv_1639 : hR S_1595 917 h = (some q_572) := hf_1597.fr (mem_old hm_1531) (fun q9 => (fun e9 => absurd (((kd_nO (k := 10) hq_1581 hm_1531 hk_1532)).symm.trans ((congrArg (hK _) e9).trans (kd_nO' (k := 10)))) (by decide)) q9) (rd_nOR (k := 10) hq_1581 hm_1531 hv_1575)
  have hf_1640 : Fm (fun _ _ => False) (fun f9 b9 => b9 = h) (fun _ => False) S S_1595 := hf_1584.then hf_1597 (fun a9 ha9 => ⟨(fun f9 h9 => (fun h9 => h9.elim (fun h8 => absurd (h8.2 ▸ ha9) hz_1582) (fun h8 => absurd (h8.2 ▸ ha9) hz_1582)) h9), (fun f9 h9 => (fun h8 => absurd (h8 ▸ ha9) hz_1582) h9), (fun h9 => h9.elim)⟩)
  have hN_1641 : NL S [q_1, q_5, q_6, q_37, q_43, q_44, q_45, q_46, q_47, q_48, q_49, q_50, q_118, q_124, q_149, q_169, q_174, q_206, q_212, q_244, q_271, q_302, q_307, q_308, q_309, q_310, q_311, q_312, q_313, q_314, q_395, q_401, q_402, q_403, q_404, q_405, q_406, q_407, q_408, q_490, q_529, q_572, q_621, q_626, q_740, q_745, q_860, q_865, q_980, q_985, q_1100, q_1105, q_1220, q_1225, q_1340, q_1345, q_1460, q_1465, q_1580] S_1595 := NL.mono (show NL S [q_1, q_5, q_6, q_37, q_43, q_44, q_45, q_46, q_47, q_48, q_49, q_50, q_118, q_124, q_149, q_169, q_174, q_206, q_212, q_244, q_271, q_302, q_307, q_308, q_309, q_310, q_311, q_312, q_313, q_314, q_395, q_401, q_402, q_403, q_404, q_405, q_406, q_407, q_408, q_490, q_529, q_572, q_621, q_626, q_740, q_745, q_860, q_865, q_980, q_985, q_1100, q_1105, q_1220, q_1225, q_1340, q_1345, q_1460, q_1465, q_1580] (nO S_1528 q_1580 10) from NL.nO hN_1577 hq_1581 hz_1582) (fun a9 h9 => hf_1597.mem h9)
  have hG_1642 : Gs h [(3, [q_1, q_5, q_6]), (4, [q_37, q_43, q_44, q_45, q_46, q_47, q_48, q_49, q_50]), (0, [q_118, q_124]), (1, [q_169, q_174]), (0, [q_206, q_212]), (2, [q_302, q_307, q_308, q_309, q_310, q_311, q_312, q_313, q_314]), (2, [q_395, q_401, q_402, q_403, q_404, q_405, q_406, q_407, q_408]), (1, [q_621, q_626]), (1, [q_740, q_745]), (1, [q_860, q_865]), (1, [q_980, q_985]), (1, [q_1100, q_1105]), (1, [q_1220, q_1225]), (1, [q_1340, q_1345]), (1, [q_1460, q_1465])] S_1595 := Gs.fm (show Gs h [(3, [q_1, q_5, q_6]), (4, [q_37, q_43, q_44, q_45, q_46, q_47, q_48, q_49, q_50]), (0, [q_118, q_124]), (1, [q_169, q_174]), (0, [q_206, q_212]), (2, [q_302, q_307, q_308, q_309, q_310, q_311, q_312, q_313, q_314]), (2, [q_395, q_401, q_402, q_403, q_404, q_405, q_406, q_407, q_408]), (1, [q_621, q_626]), (1, [q_740, q_745]), (1, [q_860, q_865]), (1, [q_980, q_985]), (1, [q_1100, q_1105]), (1, [q_1220, q_1225]), (1, [q_1340, q_1345]), (1, [q_1460, q_1465])] (nO S_1528 q_1580 10) from Gs.nO hG_1578 hq_1581) hf_1597 (fun g9 hg9 p9 hp9 => gn_1583 g9 hg9 p9 hp9)
  have hE_1643 : ELs S_1595 q_149 [q_621, q_740, q_860, q_980, q_1100, q_1220, q_1340, q_1460] := ELs.fm (ELs.nO (S := S_1528) hE_1579) hf_1597 (mem_old hm_1535) (fun h9 => h9)
  have hz_1644 : q_1585 ∉ hL S := fun h9 => e_1588 (hf_1584.mem h9)
  have hN_1645 : NL S [q_1, q_5, q_6, q_37, q_43, q_44, q_45, q_46, q_47, q_48, q_49, q_50, q_118, q_124, q_149, q_169, q_174, q_206, q_212, q_244, q_271, q_302, q_307, q_308, q_309, q_310, q_311, q_312, q_313, q_314, q_395, q_401, q_402, q_403, q_404, q_405, q_406, q_407, q_408, q_490, q_529, q_572, q_621, q_626, q_740, q_745, q_860, q_865, q_980, q_985, q_1100, q_1105, q_1220, q_1225, q_1340, q_1345, q_1460, q_1465, q_1580, q_1585] S_1595 := NL.app (show NL S [q_1, q_5, q_6, q_37, q_43, q_44, q_45, q_46, q_47, q_48, q_49, q_50, q_118, q_124, q_149, q_169, q_174, q_206, q_212, q_244, q_271, q_302, q_307, q_308, q_309, q_310, q_311, q_312, q_313, q_314, q_395, q_401, q_402, q_403, q_404, q_405, q_406, q_407, q_408, q_490, q_529, q_572, q_621, q_626, q_740, q_745, q_860, q_865, q_980, q_985, q_1100, q_1105, q_1220, q_1225, q_1340, q_1345, q_1460, q_1465, q_1580] (nO S_1528 q_1580 10) from NL.nO hN_1577 hq_1581 hz_1582) hNl_1593 (fun a9 h9 => hf_1597.mem h9) (fun a9 h9 => hf_1584.mem h9)
  have hGt_1646 : Gt 1 [q_1580, q_1585] S_1595 := ⟨fun i9 k9 h9 => (match i9, h9 with | 0, h9 => (by have e9 : (10 : Nat) = k9 := Option.some.inj h9; subst e9; exact ⟨hm_1609, hk_1610⟩) | 1, h9 => (by have e9 : (15 : Nat) = k9 := Option.some.inj h9; subst e9; exact ⟨e_1589, e_1590⟩) | i9 + 2, h9 => absurd h9 (by simp [gT])), (List.forall_mem_cons.mpr ⟨e_1591, (fun _ h9 => absurd h9 List.not_mem_nil)⟩), (List.forall_mem_cons.mpr ⟨e_1592, (fun _ h9 => absurd h9 List.not_mem_nil)⟩), (fun _ h9 => absurd h9 List.not_mem_nil)⟩
  have hG_1647 : Gs h [(3, [q_1, q_5, q_6]), (4, [q_37, q_43, q_44, q_45, q_46, q_47, q_48, q_49, q_50]), (0, [q_118, q_124]), (1, [q_169, q_174]), (0, [q_206, q_212]), (2, [q_302, q_307, q_308, q_309, q_310, q_311, q_312, q_313, q_314]), (2, [q_395, q_401, q_402, q_403, q_404, q_405, q_406, q_407, q_408]), (1, [q_621, q_626]), (1, [q_740, q_745]), (1, [q_860, q_865]), (1, [q_980, q_985]), (1, [q_1100, q_1105]), (1, [q_1220, q_1225]), (1, [q_1340, q_1345]), (1, [q_1460, q_1465]), (1, [q_1580, q_1585])] S_1595 := Gs.snoc hG_1642 (by decide) hGt_1646 (List.forall_mem_cons.mpr ⟨(fun e9 => hz_1582 (e9 ▸ hm)), (fun _ h9 => absurd h9 List.not_mem_nil)⟩)
  refine j_aast (j := 8) (ci := 10) C 20  (by decide) rfl dX9_init_159 hm_1606 hk_1607 (inr_of (n := 16) hn_1608 (vp_lit (by decide))) (by decide) hm_1609 hk_1610 rfl ?_
  have hf_1650 : Fm (fun _ _ => False) (fun f9 b9 => b9 = h) (fun _ => False) S (tR S_1595 q_149 8 (some q_1580)) := (hf_1640.tR _ _ (fun h9 => absurd h9 hz_152))
  obtain ⟨S_1648, eS_1649⟩ : ∃ S9 : Hp, S9 = (tR S_1595 q_149 8 (some q_1580)) := ⟨_, rfl⟩
  refine J.eq (S' := S_1648) eS_1649.symm rfl rfl ?_
  have hm_1651 : h ∈ hL S_1648 := by rw [eS_1649]; exact hm_1604
  have hk_1652 : Kd S_1648 h 9 := by rw [eS_1649]; exact hk_1605
  have hm_1653 : q_149 ∈ hL S_1648 := by rw [eS_1649]; exact hm_1606
  have hk_1654 : Kd S_1648 q_149 20 := by rw [eS_1649]; exact hk_1607
  have hn_1655 : Ln S_1648 q_149 16 := by rw [eS_1649]; exact hn_1608
  have hz_1656 : ∀ j, aI S_1648 q_149 j = 0 := by rw [eS_1649]; exact hz_1598
  have hm_1657 : q_1580 ∈ hL S_1648 := by rw [eS_1649]; exact hm_1609
  have hk_1658 : Kd S_1648 q_1580 10 := by rw [eS_1649]; exact hk_1610
  have hm_1659 : q_244 ∈ hL S_1648 := by rw [eS_1649]; exact hm_1611
  have hk_1660 : Kd S_1648 q_244 13 := by rw [eS_1649]; exact hk_1612
  have hn_1661 : Ln S_1648 q_244 24000 := by rw [eS_1649]; exact hn_1613
  have hz_1662 : ∀ j, aI S_1648 q_244 j = 0 := by rw [eS_1649]; exact hz_1599
  have hm_1663 : q_271 ∈ hL S_1648 := by rw [eS_1649]; exact hm_1614
  have hk_1664 : Kd S_1648 q_271 14 := by rw [eS_1649]; exact hk_1615
  have hn_1665 : Ln S_1648 q_271 16 := by rw [eS_1649]; exact hn_1616
  have hz_1666 : ∀ j, aI S_1648 q_271 j = 0 := by rw [eS_1649]; exact hz_1600
  have hm_1667 : q_490 ∈ hL S_1648 := by rw [eS_1649]; exact hm_1617
  have hk_1668 : Kd S_1648 q_490 18 := by rw [eS_1649]; exact hk_1618
  have hn_1669 : Ln S_1648 q_490 3 := by rw [eS_1649]; exact hn_1619
  have hz_1670 : ∀ j, aI S_1648 q_490 j = 0 := by rw [eS_1649]; exact hz_1601
  have hm_1671 : q_529 ∈ hL S_1648 := by rw [eS_1649]; exact hm_1620
  have hk_1672 : Kd S_1648 q_529 19 := by rw [eS_1649]; exact hk_1621
  have hn_1673 : Ln S_1648 q_529 4 := by rw [eS_1649]; exact hn_1622
  have hz_1674 : ∀ j, aI S_1648 q_529 j = 0 := by rw [eS_1649]; exact hz_1602
  have hm_1675 : q_572 ∈ hL S_1648 := by rw [eS_1649]; exact hm_1623
  have hk_1676 : Kd S_1648 q_572 14 := by rw [eS_1649]; exact hk_1624
  have hn_1677 : Ln S_1648 q_572 12 := by rw [eS_1649]; exact hn_1625
  have hz_1678 : ∀ j, aI S_1648 q_572 j = 0 := by rw [eS_1649]; exact hz_1603
  have hv_1679 : hI S_1648 1000 q_1580 = 1 := by rw [eS_1649]; exact e_1586
  have hv_1680 : hI S_1648 1001 q_1580 = 1 := by rw [eS_1649]; exact e_1587
  have hv_1681 : hR S_1648 1003 q_1580 = (some q_1585) := by rw [eS_1649]; exact e_1592
  have hv_1682 : hR S_1648 900 h = (some s0) := by rw [eS_1649]; exact hv_1626
  have hv_1683 : hR S_1648 901 h = (some q_1) := by rw [eS_1649]; exact hv_1627
  have hv_1684 : hR S_1648 902 h = (some q_37) := by rw [eS_1649]; exact hv_1628
  have hv_1685 : hR S_1648 903 h = (some q_118) := by rw [eS_1649]; exact hv_1629
  have hv_1686 : hR S_1648 904 h = (some q_149) := by rw [eS_1649]; exact hv_1630
  have hv_1687 : hR S_1648 905 h = (some q_169) := by rw [eS_1649]; exact hv_1631
  have hv_1688 : hR S_1648 906 h = (some q_206) := by rw [eS_1649]; exact hv_1632
  have hv_1689 : hR S_1648 907 h = (some q_244) := by rw [eS_1649]; exact hv_1633
  have hv_1690 : hR S_1648 908 h = (some q_271) := by rw [eS_1649]; exact hv_1634
  have hv_1691 : hR S_1648 909 h = (some q_302) := by rw [eS_1649]; exact hv_1635
  have hv_1692 : hR S_1648 910 h = (some q_395) := by rw [eS_1649]; exact hv_1636
  have hv_1693 : hR S_1648 911 h = (some q_490) := by rw [eS_1649]; exact hv_1637
  have hv_1694 : hR S_1648 912 h = (some q_529) := by rw [eS_1649]; exact hv_1638
  have hv_1695 : hR S_1648 917 h = (some q_572) := by rw [eS_1649]; exact hv_1639
  have hf_1696 : Fm (fun _ _ => False) (fun f9 b9 => b9 = h) (fun _ => False) S S_1648 := by rw [eS_1649]; exact hf_1650
  have hN_1697 : NL S [q_1, q_5, q_6, q_37, q_43, q_44, q_45, q_46, q_47, q_48, q_49, q_50, q_118, q_124, q_149, q_169, q_174, q_206, q_212, q_244, q_271, q_302, q_307, q_308, q_309, q_310, q_311, q_312, q_313, q_314, q_395, q_401, q_402, q_403, q_404, q_405, q_406, q_407, q_408, q_490, q_529, q_572, q_621, q_626, q_740, q_745, q_860, q_865, q_980, q_985, q_1100, q_1105, q_1220, q_1225, q_1340, q_1345, q_1460, q_1465, q_1580, q_1585] S_1648 := by rw [eS_1649]; exact (NL.tR (S := S_1595) hN_1645)
  have hG_1698 : Gs h [(3, [q_1, q_5, q_6]), (4, [q_37, q_43, q_44, q_45, q_46, q_47, q_48, q_49, q_50]), (0, [q_118, q_124]), (1, [q_169, q_174]), (0, [q_206, q_212]), (2, [q_302, q_307, q_308, q_309, q_310, q_311, q_312, q_313, q_314]), (2, [q_395, q_401, q_402, q_403, q_404, q_405, q_406, q_407, q_408]), (1, [q_621, q_626]), (1, [q_740, q_745]), (1, [q_860, q_865]), (1, [q_980, q_985]), (1, [q_1100, q_1105]), (1, [q_1220, q_1225]), (1, [q_1340, q_1345]), (1, [q_1460, q_1465]), (1, [q_1580, q_1585])] S_1648 := by rw [eS_1649]; exact (Gs.tR (S := S_1595) hG_1647)
  have hE_1699 : ELs S_1648 q_149 [q_621, q_740, q_860, q_980, q_1100, q_1220, q_1340, q_1460, q_1580] := by rw [eS_1649]; exact (show ELs (tR S_1595 q_149 8 (some q_1580)) q_149 [q_621, q_740, q_860, q_980, q_1100, q_1220, q_1340, q_1460, q_1580] from ELs.snoc hE_1643 rfl)
  refine j_iinc (q := 0) (v := 9) (lv' := [(2, .int 9), (0, .ref h), (1, .ref s0)]) C dX9_init_160 rfl (by decide) (by rw [hn9]; decide) rfl ?_
  refine j_goto (tgt := 138) C dX9_init_163 (by decide) ?_
  show J _ _ _ _ _ 138 _
  refine j_iload_n C dX9_init_138 rfl 0 rfl ?_
  refine j_aload_n C dX9_init_139 rfl 1 rfl ?_
  refine j_getr (f := 904) (v := q_149) C flX9_34 dX9_init_140 hm_1651 hk_1652 (by decide) rfl hv_1686 ?_
  refine j_alen (v := 16) C dX9_init_143 hm_1653 hk_1654 (by decide) (by decide) (len_of (n := 16) hn_1655 (by decide)) ?_
  refine j_ic_ge (tgt := 166) C dX9_init_144 (by decide) (fun c9 => absurd c9 (by decide)) (fun c9 => ?_)
  refine j_aload_n C dX9_init_147 rfl 1 rfl ?_
  refine j_getr (f := 904) (v := q_149) C flX9_34 dX9_init_148 hm_1651 hk_1652 (by decide) rfl hv_1686 ?_
  refine j_iload_n C dX9_init_151 rfl 0 rfl ?_
  show J _ _ _ _ _ 152 _
  refine j_new (N := 4) C (ci := 10) rfl rfl klX9_32 knX10 kiX10 (M.cells (by decide)) (M.slots (by decide)) dX9_init_152 (fun q_1700 hq_1701 => ?_)
  have hz_1702 : q_1700 ∉ hL S := fun h9 => hq_1701 (hf_1696.mem h9)
  have gn_1703 : ∀ g9 ∈ ([(3, [q_1, q_5, q_6]), (4, [q_37, q_43, q_44, q_45, q_46, q_47, q_48, q_49, q_50]), (0, [q_118, q_124]), (1, [q_169, q_174]), (0, [q_206, q_212]), (2, [q_302, q_307, q_308, q_309, q_310, q_311, q_312, q_313, q_314]), (2, [q_395, q_401, q_402, q_403, q_404, q_405, q_406, q_407, q_408]), (1, [q_621, q_626]), (1, [q_740, q_745]), (1, [q_860, q_865]), (1, [q_980, q_985]), (1, [q_1100, q_1105]), (1, [q_1220, q_1225]), (1, [q_1340, q_1345]), (1, [q_1460, q_1465]), (1, [q_1580, q_1585])] : List (Nat × List Nat)), ∀ p9 ∈ (gT g9.1).2.2, g9.2.getD p9.2.1 0 ≠ q_1700 := Gs.ne hG_1698 hq_1701
  refine j_dup C dX9_init_155 rfl ?_
  have hf_1704 : Fm (fun _ _ => False) (fun f9 b9 => b9 = h) (fun _ => False) S (nO S_1648 q_1700 10) := (hf_1696.nO _ hq_1701)
  refine j_callI C [] [.ref q_1700, .int 9, .ref q_149] mlX9_38 mcX10_init (c_X10_init (nO S_1648 q_1700 10) q_1700 mem_new (kd_nO' (k := 10))) (M.rm (by decide) (by decide) (Nat.le_of_ble_eq_true rfl) (Nat.le_of_ble_eq_true rfl)) rfl rfl (Nat.le_of_ble_eq_true rfl) dX9_init_156 (fun r_1714 S_1715 hp_1716 => ?_)
  obtain ⟨rfl, hf_1717, e_1706, e_1707, q_1705, e_1708, e_1709, e_1710, e_1711, e_1712, hNl_1713⟩ := hp_1716
  refine J.eq (st' := [.ref q_1700, .int 9, .ref q_149]) rfl rfl rfl ?_
  have hz_1718 : ∀ j, aI S_1715 q_149 j = 0 := fun j9 => (hf_1717.ai (mem_old hm_1653) (fun h9 => h9) j9).trans (hz_1656 j9)
  have hz_1719 : ∀ j, aI S_1715 q_244 j = 0 := fun j9 => (hf_1717.ai (mem_old hm_1659) (fun h9 => h9) j9).trans (hz_1662 j9)
  have hz_1720 : ∀ j, aI S_1715 q_271 j = 0 := fun j9 => (hf_1717.ai (mem_old hm_1663) (fun h9 => h9) j9).trans (hz_1666 j9)
  have hz_1721 : ∀ j, aI S_1715 q_490 j = 0 := fun j9 => (hf_1717.ai (mem_old hm_1667) (fun h9 => h9) j9).trans (hz_1670 j9)
  have hz_1722 : ∀ j, aI S_1715 q_529 j = 0 := fun j9 => (hf_1717.ai (mem_old hm_1671) (fun h9 => h9) j9).trans (hz_1674 j9)
  have hz_1723 : ∀ j, aI S_1715 q_572 j = 0 := fun j9 => (hf_1717.ai (mem_old hm_1675) (fun h9 => h9) j9).trans (hz_1678 j9)
  have hm_1724 : h ∈ hL S_1715 := hf_1717.mem (mem_old hm_1651)
  have hk_1725 : Kd S_1715 h 9 := hf_1717.kd (mem_old hm_1651) (kd_nO (k := 10) hq_1701 hm_1651 hk_1652)
  have hm_1726 : q_149 ∈ hL S_1715 := hf_1717.mem (mem_old hm_1653)
  have hk_1727 : Kd S_1715 q_149 20 := hf_1717.kd (mem_old hm_1653) (kd_nO (k := 10) hq_1701 hm_1653 hk_1654)
  have hn_1728 : Ln S_1715 q_149 16 := hf_1717.ln (mem_old hm_1653) hn_1655
  have hm_1729 : q_1700 ∈ hL S_1715 := hf_1717.mem mem_new
  have hk_1730 : Kd S_1715 q_1700 10 := hf_1717.kd mem_new (kd_nO' (k := 10))
  have hm_1731 : q_244 ∈ hL S_1715 := hf_1717.mem (mem_old hm_1659)
  have hk_1732 : Kd S_1715 q_244 13 := hf_1717.kd (mem_old hm_1659) (kd_nO (k := 10) hq_1701 hm_1659 hk_1660)
  have hn_1733 : Ln S_1715 q_244 24000 := hf_1717.ln (mem_old hm_1659) hn_1661
  have hm_1734 : q_271 ∈ hL S_1715 := hf_1717.mem (mem_old hm_1663)
  have hk_1735 : Kd S_1715 q_271 14 := hf_1717.kd (mem_old hm_1663) (kd_nO (k := 10) hq_1701 hm_1663 hk_1664)
  have hn_1736 : Ln S_1715 q_271 16 := hf_1717.ln (mem_old hm_1663) hn_1665
  have hm_1737 : q_490 ∈ hL S_1715 := hf_1717.mem (mem_old hm_1667)
  have hk_1738 : Kd S_1715 q_490 18 := hf_1717.kd (mem_old hm_1667) (kd_nO (k := 10) hq_1701 hm_1667 hk_1668)
  have hn_1739 : Ln S_1715 q_490 3 := hf_1717.ln (mem_old hm_1667) hn_1669
  have hm_1740 : q_529 ∈ hL S_1715 := hf_1717.mem (mem_old hm_1671)
  have hk_1741 : Kd S_1715 q_529 19 := hf_1717.kd (mem_old hm_1671) (kd_nO (k := 10) hq_1701 hm_1671 hk_1672)
  have hn_1742 : Ln S_1715 q_529 4 := hf_1717.ln (mem_old hm_1671) hn_1673
  have hm_1743 : q_572 ∈ hL S_1715 := hf_1717.mem (mem_old hm_1675)
  have hk_1744 : Kd S_1715 q_572 14 := hf_1717.kd (mem_old hm_1675) (kd_nO (k := 10) hq_1701 hm_1675 hk_1676)
  have hn_1745 : Ln S_1715 q_572 12 := hf_1717.ln (mem_old hm_1675) hn_1677
  have hv_1746 : hR S_1715 900 h = (some s0) := hf_1717.fr (mem_old hm_1651) (fun q9 => (fun e9 => absurd (((kd_nO (k := 10) hq_1701 hm_1651 hk_1652)).symm.trans ((congrArg (hK _) e9).trans (kd_nO' (k := 10)))) (by decide)) q9) (rd_nOR (k := 10) hq_1701 hm_1651 hv_1682)
  have hv_1747 : hR S_1715 901 h = (some q_1) := hf_1717.fr (mem_old hm_1651) (fun q9 => (fun e9 => absurd (((kd_nO (k := 10) hq_1701 hm_1651 hk_1652)).symm.trans ((congrArg (hK _) e9).trans (kd_nO' (k := 10)))) (by decide)) q9) (rd_nOR (k := 10) hq_1701 hm_1651 hv_1683)
  have hv_1748 : hR S_1715 902 h = (some q_37) := hf_1717.fr (mem_old hm_1651) (fun q9 => (fun e9 => absurd (((kd_nO (k := 10) hq_1701 hm_1651 hk_1652)).symm.trans ((congrArg (hK _) e9).trans (kd_nO' (k := 10)))) (by decide)) q9) (rd_nOR (k := 10) hq_1701 hm_1651 hv_1684)
  have hv_1749 : hR S_1715 903 h = (some q_118) := hf_1717.fr (mem_old hm_1651) (fun q9 => (fun e9 => absurd (((kd_nO (k := 10) hq_1701 hm_1651 hk_1652)).symm.trans ((congrArg (hK _) e9).trans (kd_nO' (k := 10)))) (by decide)) q9) (rd_nOR (k := 10) hq_1701 hm_1651 hv_1685)
  have hv_1750 : hR S_1715 904 h = (some q_149) := hf_1717.fr (mem_old hm_1651) (fun q9 => (fun e9 => absurd (((kd_nO (k := 10) hq_1701 hm_1651 hk_1652)).symm.trans ((congrArg (hK _) e9).trans (kd_nO' (k := 10)))) (by decide)) q9) (rd_nOR (k := 10) hq_1701 hm_1651 hv_1686)
  have hv_1751 : hR S_1715 905 h = (some q_169) := hf_1717.fr (mem_old hm_1651) (fun q9 => (fun e9 => absurd (((kd_nO (k := 10) hq_1701 hm_1651 hk_1652)).symm.trans ((congrArg (hK _) e9).trans (kd_nO' (k := 10)))) (by decide)) q9) (rd_nOR (k := 10) hq_1701 hm_1651 hv_1687)
  have hv_1752 : hR S_1715 906 h = (some q_206) := hf_1717.fr (mem_old hm_1651) (fun q9 => (fun e9 => absurd (((kd_nO (k := 10) hq_1701 hm_1651 hk_1652)).symm.trans ((congrArg (hK _) e9).trans (kd_nO' (k := 10)))) (by decide)) q9) (rd_nOR (k := 10) hq_1701 hm_1651 hv_1688)
  have hv_1753 : hR S_1715 907 h = (some q_244) := hf_1717.fr (mem_old hm_1651) (fun q9 => (fun e9 => absurd (((kd_nO (k := 10) hq_1701 hm_1651 hk_1652)).symm.trans ((congrArg (hK _) e9).trans (kd_nO' (k := 10)))) (by decide)) q9) (rd_nOR (k := 10) hq_1701 hm_1651 hv_1689)
  have hv_1754 : hR S_1715 908 h = (some q_271) := hf_1717.fr (mem_old hm_1651) (fun q9 => (fun e9 => absurd (((kd_nO (k := 10) hq_1701 hm_1651 hk_1652)).symm.trans ((congrArg (hK _) e9).trans (kd_nO' (k := 10)))) (by decide)) q9) (rd_nOR (k := 10) hq_1701 hm_1651 hv_1690)
  have hv_1755 : hR S_1715 909 h = (some q_302) := hf_1717.fr (mem_old hm_1651) (fun q9 => (fun e9 => absurd (((kd_nO (k := 10) hq_1701 hm_1651 hk_1652)).symm.trans ((congrArg (hK _) e9).trans (kd_nO' (k := 10)))) (by decide)) q9) (rd_nOR (k := 10) hq_1701 hm_1651 hv_1691)
  have hv_1756 : hR S_1715 910 h = (some q_395) := hf_1717.fr (mem_old hm_1651) (fun q9 => (fun e9 => absurd (((kd_nO (k := 10) hq_1701 hm_1651 hk_1652)).symm.trans ((congrArg (hK _) e9).trans (kd_nO' (k := 10)))) (by decide)) q9) (rd_nOR (k := 10) hq_1701 hm_1651 hv_1692)
  have hv_1757 : hR S_1715 911 h = (some q_490) := hf_1717.fr (mem_old hm_1651) (fun q9 => (fun e9 => absurd (((kd_nO (k := 10) hq_1701 hm_1651 hk_1652)).symm.trans ((congrArg (hK _) e9).trans (kd_nO' (k := 10)))) (by decide)) q9) (rd_nOR (k := 10) hq_1701 hm_1651 hv_1693)
  have hv_1758 : hR S_1715 912 h = (some q_529) := hf_1717.fr (mem_old hm_1651) (fun q9 => (fun e9 => absurd (((kd_nO (k := 10) hq_1701 hm_1651 hk_1652)).symm.trans ((congrArg (hK _) e9).trans (kd_nO' (k := 10)))) (by decide)) q9) (rd_nOR (k := 10) hq_1701 hm_1651 hv_1694)
  have hv_1759 : hR S_1715 917 h = (some q_572) := hf_1717.fr (mem_old hm_1651) (fun q9 => (fun e9 => absurd (((kd_nO (k := 10) hq_1701 hm_1651 hk_1652)).symm.trans ((congrArg (hK _) e9).trans (kd_nO' (k := 10)))) (by decide)) q9) (rd_nOR (k := 10) hq_1701 hm_1651 hv_1695)
  have hf_1760 : Fm (fun _ _ => False) (fun f9 b9 => b9 = h) (fun _ => False) S S_1715 := hf_1704.then hf_1717 (fun a9 ha9 => ⟨(fun f9 h9 => (fun h9 => h9.elim (fun h8 => absurd (h8.2 ▸ ha9) hz_1702) (fun h8 => absurd (h8.2 ▸ ha9) hz_1702)) h9), (fun f9 h9 => (fun h8 => absurd (h8 ▸ ha9) hz_1702) h9), (fun h9 => h9.elim)⟩)
  have hN_1761 : NL S [q_1, q_5, q_6, q_37, q_43, q_44, q_45, q_46, q_47, q_48, q_49, q_50, q_118, q_124, q_149, q_169, q_174, q_206, q_212, q_244, q_271, q_302, q_307, q_308, q_309, q_310, q_311, q_312, q_313, q_314, q_395, q_401, q_402, q_403, q_404, q_405, q_406, q_407, q_408, q_490, q_529, q_572, q_621, q_626, q_740, q_745, q_860, q_865, q_980, q_985, q_1100, q_1105, q_1220, q_1225, q_1340, q_1345, q_1460, q_1465, q_1580, q_1585, q_1700] S_1715 := NL.mono (show NL S [q_1, q_5, q_6, q_37, q_43, q_44, q_45, q_46, q_47, q_48, q_49, q_50, q_118, q_124, q_149, q_169, q_174, q_206, q_212, q_244, q_271, q_302, q_307, q_308, q_309, q_310, q_311, q_312, q_313, q_314, q_395, q_401, q_402, q_403, q_404, q_405, q_406, q_407, q_408, q_490, q_529, q_572, q_621, q_626, q_740, q_745, q_860, q_865, q_980, q_985, q_1100, q_1105, q_1220, q_1225, q_1340, q_1345, q_1460, q_1465, q_1580, q_1585, q_1700] (nO S_1648 q_1700 10) from NL.nO hN_1697 hq_1701 hz_1702) (fun a9 h9 => hf_1717.mem h9)
  have hG_1762 : Gs h [(3, [q_1, q_5, q_6]), (4, [q_37, q_43, q_44, q_45, q_46, q_47, q_48, q_49, q_50]), (0, [q_118, q_124]), (1, [q_169, q_174]), (0, [q_206, q_212]), (2, [q_302, q_307, q_308, q_309, q_310, q_311, q_312, q_313, q_314]), (2, [q_395, q_401, q_402, q_403, q_404, q_405, q_406, q_407, q_408]), (1, [q_621, q_626]), (1, [q_740, q_745]), (1, [q_860, q_865]), (1, [q_980, q_985]), (1, [q_1100, q_1105]), (1, [q_1220, q_1225]), (1, [q_1340, q_1345]), (1, [q_1460, q_1465]), (1, [q_1580, q_1585])] S_1715 := Gs.fm (show Gs h [(3, [q_1, q_5, q_6]), (4, [q_37, q_43, q_44, q_45, q_46, q_47, q_48, q_49, q_50]), (0, [q_118, q_124]), (1, [q_169, q_174]), (0, [q_206, q_212]), (2, [q_302, q_307, q_308, q_309, q_310, q_311, q_312, q_313, q_314]), (2, [q_395, q_401, q_402, q_403, q_404, q_405, q_406, q_407, q_408]), (1, [q_621, q_626]), (1, [q_740, q_745]), (1, [q_860, q_865]), (1, [q_980, q_985]), (1, [q_1100, q_1105]), (1, [q_1220, q_1225]), (1, [q_1340, q_1345]), (1, [q_1460, q_1465]), (1, [q_1580, q_1585])] (nO S_1648 q_1700 10) from Gs.nO hG_1698 hq_1701) hf_1717 (fun g9 hg9 p9 hp9 => gn_1703 g9 hg9 p9 hp9)
  have hE_1763 : ELs S_1715 q_149 [q_621, q_740, q_860, q_980, q_1100, q_1220, q_1340, q_1460, q_1580] := ELs.fm (ELs.nO (S := S_1648) hE_1699) hf_1717 (mem_old hm_1653) (fun h9 => h9)
  have hz_1764 : q_1705 ∉ hL S := fun h9 => e_1708 (hf_1704.mem h9)
  have hN_1765 : NL S [q_1, q_5, q_6, q_37, q_43, q_44, q_45, q_46, q_47, q_48, q_49, q_50, q_118, q_124, q_149, q_169, q_174, q_206, q_212, q_244, q_271, q_302, q_307, q_308, q_309, q_310, q_311, q_312, q_313, q_314, q_395, q_401, q_402, q_403, q_404, q_405, q_406, q_407, q_408, q_490, q_529, q_572, q_621, q_626, q_740, q_745, q_860, q_865, q_980, q_985, q_1100, q_1105, q_1220, q_1225, q_1340, q_1345, q_1460, q_1465, q_1580, q_1585, q_1700, q_1705] S_1715 := NL.app (show NL S [q_1, q_5, q_6, q_37, q_43, q_44, q_45, q_46, q_47, q_48, q_49, q_50, q_118, q_124, q_149, q_169, q_174, q_206, q_212, q_244, q_271, q_302, q_307, q_308, q_309, q_310, q_311, q_312, q_313, q_314, q_395, q_401, q_402, q_403, q_404, q_405, q_406, q_407, q_408, q_490, q_529, q_572, q_621, q_626, q_740, q_745, q_860, q_865, q_980, q_985, q_1100, q_1105, q_1220, q_1225, q_1340, q_1345, q_1460, q_1465, q_1580, q_1585, q_1700] (nO S_1648 q_1700 10) from NL.nO hN_1697 hq_1701 hz_1702) hNl_1713 (fun a9 h9 => hf_1717.mem h9) (fun a9 h9 => hf_1704.mem h9)
  have hGt_1766 : Gt 1 [q_1700, q_1705] S_1715 := ⟨fun i9 k9 h9 => (match i9, h9 with | 0, h9 => (by have e9 : (10 : Nat) = k9 := Option.some.inj h9; subst e9; exact ⟨hm_1729, hk_1730⟩) | 1, h9 => (by have e9 : (15 : Nat) = k9 := Option.some.inj h9; subst e9; exact ⟨e_1709, e_1710⟩) | i9 + 2, h9 => absurd h9 (by simp [gT])), (List.forall_mem_cons.mpr ⟨e_1711, (fun _ h9 => absurd h9 List.not_mem_nil)⟩), (List.forall_mem_cons.mpr ⟨e_1712, (fun _ h9 => absurd h9 List.not_mem_nil)⟩), (fun _ h9 => absurd h9 List.not_mem_nil)⟩
  have hG_1767 : Gs h [(3, [q_1, q_5, q_6]), (4, [q_37, q_43, q_44, q_45, q_46, q_47, q_48, q_49, q_50]), (0, [q_118, q_124]), (1, [q_169, q_174]), (0, [q_206, q_212]), (2, [q_302, q_307, q_308, q_309, q_310, q_311, q_312, q_313, q_314]), (2, [q_395, q_401, q_402, q_403, q_404, q_405, q_406, q_407, q_408]), (1, [q_621, q_626]), (1, [q_740, q_745]), (1, [q_860, q_865]), (1, [q_980, q_985]), (1, [q_1100, q_1105]), (1, [q_1220, q_1225]), (1, [q_1340, q_1345]), (1, [q_1460, q_1465]), (1, [q_1580, q_1585]), (1, [q_1700, q_1705])] S_1715 := Gs.snoc hG_1762 (by decide) hGt_1766 (List.forall_mem_cons.mpr ⟨(fun e9 => hz_1702 (e9 ▸ hm)), (fun _ h9 => absurd h9 List.not_mem_nil)⟩)
  refine j_aast (j := 9) (ci := 10) C 20  (by decide) rfl dX9_init_159 hm_1726 hk_1727 (inr_of (n := 16) hn_1728 (vp_lit (by decide))) (by decide) hm_1729 hk_1730 rfl ?_
  have hf_1770 : Fm (fun _ _ => False) (fun f9 b9 => b9 = h) (fun _ => False) S (tR S_1715 q_149 9 (some q_1700)) := (hf_1760.tR _ _ (fun h9 => absurd h9 hz_152))
  obtain ⟨S_1768, eS_1769⟩ : ∃ S9 : Hp, S9 = (tR S_1715 q_149 9 (some q_1700)) := ⟨_, rfl⟩
  refine J.eq (S' := S_1768) eS_1769.symm rfl rfl ?_
  have hm_1771 : h ∈ hL S_1768 := by rw [eS_1769]; exact hm_1724
  have hk_1772 : Kd S_1768 h 9 := by rw [eS_1769]; exact hk_1725
  have hm_1773 : q_149 ∈ hL S_1768 := by rw [eS_1769]; exact hm_1726
  have hk_1774 : Kd S_1768 q_149 20 := by rw [eS_1769]; exact hk_1727
  have hn_1775 : Ln S_1768 q_149 16 := by rw [eS_1769]; exact hn_1728
  have hz_1776 : ∀ j, aI S_1768 q_149 j = 0 := by rw [eS_1769]; exact hz_1718
  have hm_1777 : q_1700 ∈ hL S_1768 := by rw [eS_1769]; exact hm_1729
  have hk_1778 : Kd S_1768 q_1700 10 := by rw [eS_1769]; exact hk_1730
  have hm_1779 : q_244 ∈ hL S_1768 := by rw [eS_1769]; exact hm_1731
  have hk_1780 : Kd S_1768 q_244 13 := by rw [eS_1769]; exact hk_1732
  have hn_1781 : Ln S_1768 q_244 24000 := by rw [eS_1769]; exact hn_1733
  have hz_1782 : ∀ j, aI S_1768 q_244 j = 0 := by rw [eS_1769]; exact hz_1719
  have hm_1783 : q_271 ∈ hL S_1768 := by rw [eS_1769]; exact hm_1734
  have hk_1784 : Kd S_1768 q_271 14 := by rw [eS_1769]; exact hk_1735
  have hn_1785 : Ln S_1768 q_271 16 := by rw [eS_1769]; exact hn_1736
  have hz_1786 : ∀ j, aI S_1768 q_271 j = 0 := by rw [eS_1769]; exact hz_1720
  have hm_1787 : q_490 ∈ hL S_1768 := by rw [eS_1769]; exact hm_1737
  have hk_1788 : Kd S_1768 q_490 18 := by rw [eS_1769]; exact hk_1738
  have hn_1789 : Ln S_1768 q_490 3 := by rw [eS_1769]; exact hn_1739
  have hz_1790 : ∀ j, aI S_1768 q_490 j = 0 := by rw [eS_1769]; exact hz_1721
  have hm_1791 : q_529 ∈ hL S_1768 := by rw [eS_1769]; exact hm_1740
  have hk_1792 : Kd S_1768 q_529 19 := by rw [eS_1769]; exact hk_1741
  have hn_1793 : Ln S_1768 q_529 4 := by rw [eS_1769]; exact hn_1742
  have hz_1794 : ∀ j, aI S_1768 q_529 j = 0 := by rw [eS_1769]; exact hz_1722
  have hm_1795 : q_572 ∈ hL S_1768 := by rw [eS_1769]; exact hm_1743
  have hk_1796 : Kd S_1768 q_572 14 := by rw [eS_1769]; exact hk_1744
  have hn_1797 : Ln S_1768 q_572 12 := by rw [eS_1769]; exact hn_1745
  have hz_1798 : ∀ j, aI S_1768 q_572 j = 0 := by rw [eS_1769]; exact hz_1723
  have hv_1799 : hI S_1768 1000 q_1700 = 1 := by rw [eS_1769]; exact e_1706
  have hv_1800 : hI S_1768 1001 q_1700 = 1 := by rw [eS_1769]; exact e_1707
  have hv_1801 : hR S_1768 1003 q_1700 = (some q_1705) := by rw [eS_1769]; exact e_1712
  have hv_1802 : hR S_1768 900 h = (some s0) := by rw [eS_1769]; exact hv_1746
  have hv_1803 : hR S_1768 901 h = (some q_1) := by rw [eS_1769]; exact hv_1747
  have hv_1804 : hR S_1768 902 h = (some q_37) := by rw [eS_1769]; exact hv_1748
  have hv_1805 : hR S_1768 903 h = (some q_118) := by rw [eS_1769]; exact hv_1749
  have hv_1806 : hR S_1768 904 h = (some q_149) := by rw [eS_1769]; exact hv_1750
  have hv_1807 : hR S_1768 905 h = (some q_169) := by rw [eS_1769]; exact hv_1751
  have hv_1808 : hR S_1768 906 h = (some q_206) := by rw [eS_1769]; exact hv_1752
  have hv_1809 : hR S_1768 907 h = (some q_244) := by rw [eS_1769]; exact hv_1753
  have hv_1810 : hR S_1768 908 h = (some q_271) := by rw [eS_1769]; exact hv_1754
  have hv_1811 : hR S_1768 909 h = (some q_302) := by rw [eS_1769]; exact hv_1755
  have hv_1812 : hR S_1768 910 h = (some q_395) := by rw [eS_1769]; exact hv_1756
  have hv_1813 : hR S_1768 911 h = (some q_490) := by rw [eS_1769]; exact hv_1757
  have hv_1814 : hR S_1768 912 h = (some q_529) := by rw [eS_1769]; exact hv_1758
  have hv_1815 : hR S_1768 917 h = (some q_572) := by rw [eS_1769]; exact hv_1759
  have hf_1816 : Fm (fun _ _ => False) (fun f9 b9 => b9 = h) (fun _ => False) S S_1768 := by rw [eS_1769]; exact hf_1770
  have hN_1817 : NL S [q_1, q_5, q_6, q_37, q_43, q_44, q_45, q_46, q_47, q_48, q_49, q_50, q_118, q_124, q_149, q_169, q_174, q_206, q_212, q_244, q_271, q_302, q_307, q_308, q_309, q_310, q_311, q_312, q_313, q_314, q_395, q_401, q_402, q_403, q_404, q_405, q_406, q_407, q_408, q_490, q_529, q_572, q_621, q_626, q_740, q_745, q_860, q_865, q_980, q_985, q_1100, q_1105, q_1220, q_1225, q_1340, q_1345, q_1460, q_1465, q_1580, q_1585, q_1700, q_1705] S_1768 := by rw [eS_1769]; exact (NL.tR (S := S_1715) hN_1765)
  have hG_1818 : Gs h [(3, [q_1, q_5, q_6]), (4, [q_37, q_43, q_44, q_45, q_46, q_47, q_48, q_49, q_50]), (0, [q_118, q_124]), (1, [q_169, q_174]), (0, [q_206, q_212]), (2, [q_302, q_307, q_308, q_309, q_310, q_311, q_312, q_313, q_314]), (2, [q_395, q_401, q_402, q_403, q_404, q_405, q_406, q_407, q_408]), (1, [q_621, q_626]), (1, [q_740, q_745]), (1, [q_860, q_865]), (1, [q_980, q_985]), (1, [q_1100, q_1105]), (1, [q_1220, q_1225]), (1, [q_1340, q_1345]), (1, [q_1460, q_1465]), (1, [q_1580, q_1585]), (1, [q_1700, q_1705])] S_1768 := by rw [eS_1769]; exact (Gs.tR (S := S_1715) hG_1767)
  have hE_1819 : ELs S_1768 q_149 [q_621, q_740, q_860, q_980, q_1100, q_1220, q_1340, q_1460, q_1580, q_1700] := by rw [eS_1769]; exact (show ELs (tR S_1715 q_149 9 (some q_1700)) q_149 [q_621, q_740, q_860, q_980, q_1100, q_1220, q_1340, q_1460, q_1580, q_1700] from ELs.snoc hE_1763 rfl)
  refine j_iinc (q := 0) (v := 10) (lv' := [(2, .int 10), (0, .ref h), (1, .ref s0)]) C dX9_init_160 rfl (by decide) (by rw [hn9]; decide) rfl ?_
  refine j_goto (tgt := 138) C dX9_init_163 (by decide) ?_
  refine j_iload_n C dX9_init_138 rfl 0 rfl ?_
  refine j_aload_n C dX9_init_139 rfl 1 rfl ?_
  show J _ _ _ _ _ 140 _
  refine j_getr (f := 904) (v := q_149) C flX9_34 dX9_init_140 hm_1771 hk_1772 (by decide) rfl hv_1806 ?_
  refine j_alen (v := 16) C dX9_init_143 hm_1773 hk_1774 (by decide) (by decide) (len_of (n := 16) hn_1775 (by decide)) ?_
  refine j_ic_ge (tgt := 166) C dX9_init_144 (by decide) (fun c9 => absurd c9 (by decide)) (fun c9 => ?_)
  refine j_aload_n C dX9_init_147 rfl 1 rfl ?_
  refine j_getr (f := 904) (v := q_149) C flX9_34 dX9_init_148 hm_1771 hk_1772 (by decide) rfl hv_1806 ?_
  refine j_iload_n C dX9_init_151 rfl 0 rfl ?_
  refine j_new (N := 4) C (ci := 10) rfl rfl klX9_32 knX10 kiX10 (M.cells (by decide)) (M.slots (by decide)) dX9_init_152 (fun q_1820 hq_1821 => ?_)
  have hz_1822 : q_1820 ∉ hL S := fun h9 => hq_1821 (hf_1816.mem h9)
  have gn_1823 : ∀ g9 ∈ ([(3, [q_1, q_5, q_6]), (4, [q_37, q_43, q_44, q_45, q_46, q_47, q_48, q_49, q_50]), (0, [q_118, q_124]), (1, [q_169, q_174]), (0, [q_206, q_212]), (2, [q_302, q_307, q_308, q_309, q_310, q_311, q_312, q_313, q_314]), (2, [q_395, q_401, q_402, q_403, q_404, q_405, q_406, q_407, q_408]), (1, [q_621, q_626]), (1, [q_740, q_745]), (1, [q_860, q_865]), (1, [q_980, q_985]), (1, [q_1100, q_1105]), (1, [q_1220, q_1225]), (1, [q_1340, q_1345]), (1, [q_1460, q_1465]), (1, [q_1580, q_1585]), (1, [q_1700, q_1705])] : List (Nat × List Nat)), ∀ p9 ∈ (gT g9.1).2.2, g9.2.getD p9.2.1 0 ≠ q_1820 := Gs.ne hG_1818 hq_1821
  refine j_dup C dX9_init_155 rfl ?_
  show J _ _ _ _ _ 156 _
  have hf_1824 : Fm (fun _ _ => False) (fun f9 b9 => b9 = h) (fun _ => False) S (nO S_1768 q_1820 10) := (hf_1816.nO _ hq_1821)
  refine j_callI C [] [.ref q_1820, .int 10, .ref q_149] mlX9_38 mcX10_init (c_X10_init (nO S_1768 q_1820 10) q_1820 mem_new (kd_nO' (k := 10))) (M.rm (by decide) (by decide) (Nat.le_of_ble_eq_true rfl) (Nat.le_of_ble_eq_true rfl)) rfl rfl (Nat.le_of_ble_eq_true rfl) dX9_init_156 (fun r_1834 S_1835 hp_1836 => ?_)
  obtain ⟨rfl, hf_1837, e_1826, e_1827, q_1825, e_1828, e_1829, e_1830, e_1831, e_1832, hNl_1833⟩ := hp_1836
  refine J.eq (st' := [.ref q_1820, .int 10, .ref q_149]) rfl rfl rfl ?_
  have hz_1838 : ∀ j, aI S_1835 q_149 j = 0 := fun j9 => (hf_1837.ai (mem_old hm_1773) (fun h9 => h9) j9).trans (hz_1776 j9)
  have hz_1839 : ∀ j, aI S_1835 q_244 j = 0 := fun j9 => (hf_1837.ai (mem_old hm_1779) (fun h9 => h9) j9).trans (hz_1782 j9)
  have hz_1840 : ∀ j, aI S_1835 q_271 j = 0 := fun j9 => (hf_1837.ai (mem_old hm_1783) (fun h9 => h9) j9).trans (hz_1786 j9)
  have hz_1841 : ∀ j, aI S_1835 q_490 j = 0 := fun j9 => (hf_1837.ai (mem_old hm_1787) (fun h9 => h9) j9).trans (hz_1790 j9)
  have hz_1842 : ∀ j, aI S_1835 q_529 j = 0 := fun j9 => (hf_1837.ai (mem_old hm_1791) (fun h9 => h9) j9).trans (hz_1794 j9)
  have hz_1843 : ∀ j, aI S_1835 q_572 j = 0 := fun j9 => (hf_1837.ai (mem_old hm_1795) (fun h9 => h9) j9).trans (hz_1798 j9)
  have hm_1844 : h ∈ hL S_1835 := hf_1837.mem (mem_old hm_1771)
  have hk_1845 : Kd S_1835 h 9 := hf_1837.kd (mem_old hm_1771) (kd_nO (k := 10) hq_1821 hm_1771 hk_1772)
  have hm_1846 : q_149 ∈ hL S_1835 := hf_1837.mem (mem_old hm_1773)
  have hk_1847 : Kd S_1835 q_149 20 := hf_1837.kd (mem_old hm_1773) (kd_nO (k := 10) hq_1821 hm_1773 hk_1774)
  have hn_1848 : Ln S_1835 q_149 16 := hf_1837.ln (mem_old hm_1773) hn_1775
  have hm_1849 : q_1820 ∈ hL S_1835 := hf_1837.mem mem_new
  have hk_1850 : Kd S_1835 q_1820 10 := hf_1837.kd mem_new (kd_nO' (k := 10))
  have hm_1851 : q_244 ∈ hL S_1835 := hf_1837.mem (mem_old hm_1779)
  have hk_1852 : Kd S_1835 q_244 13 := hf_1837.kd (mem_old hm_1779) (kd_nO (k := 10) hq_1821 hm_1779 hk_1780)
  have hn_1853 : Ln S_1835 q_244 24000 := hf_1837.ln (mem_old hm_1779) hn_1781
  have hm_1854 : q_271 ∈ hL S_1835 := hf_1837.mem (mem_old hm_1783)
  have hk_1855 : Kd S_1835 q_271 14 := hf_1837.kd (mem_old hm_1783) (kd_nO (k := 10) hq_1821 hm_1783 hk_1784)
  have hn_1856 : Ln S_1835 q_271 16 := hf_1837.ln (mem_old hm_1783) hn_1785
  have hm_1857 : q_490 ∈ hL S_1835 := hf_1837.mem (mem_old hm_1787)
  have hk_1858 : Kd S_1835 q_490 18 := hf_1837.kd (mem_old hm_1787) (kd_nO (k := 10) hq_1821 hm_1787 hk_1788)
  have hn_1859 : Ln S_1835 q_490 3 := hf_1837.ln (mem_old hm_1787) hn_1789
  have hm_1860 : q_529 ∈ hL S_1835 := hf_1837.mem (mem_old hm_1791)
  have hk_1861 : Kd S_1835 q_529 19 := hf_1837.kd (mem_old hm_1791) (kd_nO (k := 10) hq_1821 hm_1791 hk_1792)
  have hn_1862 : Ln S_1835 q_529 4 := hf_1837.ln (mem_old hm_1791) hn_1793
  have hm_1863 : q_572 ∈ hL S_1835 := hf_1837.mem (mem_old hm_1795)
  have hk_1864 : Kd S_1835 q_572 14 := hf_1837.kd (mem_old hm_1795) (kd_nO (k := 10) hq_1821 hm_1795 hk_1796)
  have hn_1865 : Ln S_1835 q_572 12 := hf_1837.ln (mem_old hm_1795) hn_1797
  have hv_1866 : hR S_1835 900 h = (some s0) := hf_1837.fr (mem_old hm_1771) (fun q9 => (fun e9 => absurd (((kd_nO (k := 10) hq_1821 hm_1771 hk_1772)).symm.trans ((congrArg (hK _) e9).trans (kd_nO' (k := 10)))) (by decide)) q9) (rd_nOR (k := 10) hq_1821 hm_1771 hv_1802)
  have hv_1867 : hR S_1835 901 h = (some q_1) := hf_1837.fr (mem_old hm_1771) (fun q9 => (fun e9 => absurd (((kd_nO (k := 10) hq_1821 hm_1771 hk_1772)).symm.trans ((congrArg (hK _) e9).trans (kd_nO' (k := 10)))) (by decide)) q9) (rd_nOR (k := 10) hq_1821 hm_1771 hv_1803)
  have hv_1868 : hR S_1835 902 h = (some q_37) := hf_1837.fr (mem_old hm_1771) (fun q9 => (fun e9 => absurd (((kd_nO (k := 10) hq_1821 hm_1771 hk_1772)).symm.trans ((congrArg (hK _) e9).trans (kd_nO' (k := 10)))) (by decide)) q9) (rd_nOR (k := 10) hq_1821 hm_1771 hv_1804)
  have hv_1869 : hR S_1835 903 h = (some q_118) := hf_1837.fr (mem_old hm_1771) (fun q9 => (fun e9 => absurd (((kd_nO (k := 10) hq_1821 hm_1771 hk_1772)).symm.trans ((congrArg (hK _) e9).trans (kd_nO' (k := 10)))) (by decide)) q9) (rd_nOR (k := 10) hq_1821 hm_1771 hv_1805)
  have hv_1870 : hR S_1835 904 h = (some q_149) := hf_1837.fr (mem_old hm_1771) (fun q9 => (fun e9 => absurd (((kd_nO (k := 10) hq_1821 hm_1771 hk_1772)).symm.trans ((congrArg (hK _) e9).trans (kd_nO' (k := 10)))) (by decide)) q9) (rd_nOR (k := 10) hq_1821 hm_1771 hv_1806)
  have hv_1871 : hR S_1835 905 h = (some q_169) := hf_1837.fr (mem_old hm_1771) (fun q9 => (fun e9 => absurd (((kd_nO (k := 10) hq_1821 hm_1771 hk_1772)).symm.trans ((congrArg (hK _) e9).trans (kd_nO' (k := 10)))) (by decide)) q9) (rd_nOR (k := 10) hq_1821 hm_1771 hv_1807)
  have hv_1872 : hR S_1835 906 h = (some q_206) := hf_1837.fr (mem_old hm_1771) (fun q9 => (fun e9 => absurd (((kd_nO (k := 10) hq_1821 hm_1771 hk_1772)).symm.trans ((congrArg (hK _) e9).trans (kd_nO' (k := 10)))) (by decide)) q9) (rd_nOR (k := 10) hq_1821 hm_1771 hv_1808)
  have hv_1873 : hR S_1835 907 h = (some q_244) := hf_1837.fr (mem_old hm_1771) (fun q9 => (fun e9 => absurd (((kd_nO (k := 10) hq_1821 hm_1771 hk_1772)).symm.trans ((congrArg (hK _) e9).trans (kd_nO' (k := 10)))) (by decide)) q9) (rd_nOR (k := 10) hq_1821 hm_1771 hv_1809)
  have hv_1874 : hR S_1835 908 h = (some q_271) := hf_1837.fr (mem_old hm_1771) (fun q9 => (fun e9 => absurd (((kd_nO (k := 10) hq_1821 hm_1771 hk_1772)).symm.trans ((congrArg (hK _) e9).trans (kd_nO' (k := 10)))) (by decide)) q9) (rd_nOR (k := 10) hq_1821 hm_1771 hv_1810)
  have hv_1875 : hR S_1835 909 h = (some q_302) := hf_1837.fr (mem_old hm_1771) (fun q9 => (fun e9 => absurd (((kd_nO (k := 10) hq_1821 hm_1771 hk_1772)).symm.trans ((congrArg (hK _) e9).trans (kd_nO' (k := 10)))) (by decide)) q9) (rd_nOR (k := 10) hq_1821 hm_1771 hv_1811)
  have hv_1876 : hR S_1835 910 h = (some q_395) := hf_1837.fr (mem_old hm_1771) (fun q9 => (fun e9 => absurd (((kd_nO (k := 10) hq_1821 hm_1771 hk_1772)).symm.trans ((congrArg (hK _) e9).trans (kd_nO' (k := 10)))) (by decide)) q9) (rd_nOR (k := 10) hq_1821 hm_1771 hv_1812)
  have hv_1877 : hR S_1835 911 h = (some q_490) := hf_1837.fr (mem_old hm_1771) (fun q9 => (fun e9 => absurd (((kd_nO (k := 10) hq_1821 hm_1771 hk_1772)).symm.trans ((congrArg (hK _) e9).trans (kd_nO' (k := 10)))) (by decide)) q9) (rd_nOR (k := 10) hq_1821 hm_1771 hv_1813)
  have hv_1878 : hR S_1835 912 h = (some q_529) := hf_1837.fr (mem_old hm_1771) (fun q9 => (fun e9 => absurd (((kd_nO (k := 10) hq_1821 hm_1771 hk_1772)).symm.trans ((congrArg (hK _) e9).trans (kd_nO' (k := 10)))) (by decide)) q9) (rd_nOR (k := 10) hq_1821 hm_1771 hv_1814)
  have hv_1879 : hR S_1835 917 h = (some q_572) := hf_1837.fr (mem_old hm_1771) (fun q9 => (fun e9 => absurd (((kd_nO (k := 10) hq_1821 hm_1771 hk_1772)).symm.trans ((congrArg (hK _) e9).trans (kd_nO' (k := 10)))) (by decide)) q9) (rd_nOR (k := 10) hq_1821 hm_1771 hv_1815)
  have hf_1880 : Fm (fun _ _ => False) (fun f9 b9 => b9 = h) (fun _ => False) S S_1835 := hf_1824.then hf_1837 (fun a9 ha9 => ⟨(fun f9 h9 => (fun h9 => h9.elim (fun h8 => absurd (h8.2 ▸ ha9) hz_1822) (fun h8 => absurd (h8.2 ▸ ha9) hz_1822)) h9), (fun f9 h9 => (fun h8 => absurd (h8 ▸ ha9) hz_1822) h9), (fun h9 => h9.elim)⟩)
  have hN_1881 : NL S [q_1, q_5, q_6, q_37, q_43, q_44, q_45, q_46, q_47, q_48, q_49, q_50, q_118, q_124, q_149, q_169, q_174, q_206, q_212, q_244, q_271, q_302, q_307, q_308, q_309, q_310, q_311, q_312, q_313, q_314, q_395, q_401, q_402, q_403, q_404, q_405, q_406, q_407, q_408, q_490, q_529, q_572, q_621, q_626, q_740, q_745, q_860, q_865, q_980, q_985, q_1100, q_1105, q_1220, q_1225, q_1340, q_1345, q_1460, q_1465, q_1580, q_1585, q_1700, q_1705, q_1820] S_1835 := NL.mono (show NL S [q_1, q_5, q_6, q_37, q_43, q_44, q_45, q_46, q_47, q_48, q_49, q_50, q_118, q_124, q_149, q_169, q_174, q_206, q_212, q_244, q_271, q_302, q_307, q_308, q_309, q_310, q_311, q_312, q_313, q_314, q_395, q_401, q_402, q_403, q_404, q_405, q_406, q_407, q_408, q_490, q_529, q_572, q_621, q_626, q_740, q_745, q_860, q_865, q_980, q_985, q_1100, q_1105, q_1220, q_1225, q_1340, q_1345, q_1460, q_1465, q_1580, q_1585, q_1700, q_1705, q_1820] (nO S_1768 q_1820 10) from NL.nO hN_1817 hq_1821 hz_1822) (fun a9 h9 => hf_1837.mem h9)
  have hG_1882 : Gs h [(3, [q_1, q_5, q_6]), (4, [q_37, q_43, q_44, q_45, q_46, q_47, q_48, q_49, q_50]), (0, [q_118, q_124]), (1, [q_169, q_174]), (0, [q_206, q_212]), (2, [q_302, q_307, q_308, q_309, q_310, q_311, q_312, q_313, q_314]), (2, [q_395, q_401, q_402, q_403, q_404, q_405, q_406, q_407, q_408]), (1, [q_621, q_626]), (1, [q_740, q_745]), (1, [q_860, q_865]), (1, [q_980, q_985]), (1, [q_1100, q_1105]), (1, [q_1220, q_1225]), (1, [q_1340, q_1345]), (1, [q_1460, q_1465]), (1, [q_1580, q_1585]), (1, [q_1700, q_1705])] S_1835 := Gs.fm (show Gs h [(3, [q_1, q_5, q_6]), (4, [q_37, q_43, q_44, q_45, q_46, q_47, q_48, q_49, q_50]), (0, [q_118, q_124]), (1, [q_169, q_174]), (0, [q_206, q_212]), (2, [q_302, q_307, q_308, q_309, q_310, q_311, q_312, q_313, q_314]), (2, [q_395, q_401, q_402, q_403, q_404, q_405, q_406, q_407, q_408]), (1, [q_621, q_626]), (1, [q_740, q_745]), (1, [q_860, q_865]), (1, [q_980, q_985]), (1, [q_1100, q_1105]), (1, [q_1220, q_1225]), (1, [q_1340, q_1345]), (1, [q_1460, q_1465]), (1, [q_1580, q_1585]), (1, [q_1700, q_1705])] (nO S_1768 q_1820 10) from Gs.nO hG_1818 hq_1821) hf_1837 (fun g9 hg9 p9 hp9 => gn_1823 g9 hg9 p9 hp9)
  have hE_1883 : ELs S_1835 q_149 [q_621, q_740, q_860, q_980, q_1100, q_1220, q_1340, q_1460, q_1580, q_1700] := ELs.fm (ELs.nO (S := S_1768) hE_1819) hf_1837 (mem_old hm_1773) (fun h9 => h9)
  have hz_1884 : q_1825 ∉ hL S := fun h9 => e_1828 (hf_1824.mem h9)
  have hN_1885 : NL S [q_1, q_5, q_6, q_37, q_43, q_44, q_45, q_46, q_47, q_48, q_49, q_50, q_118, q_124, q_149, q_169, q_174, q_206, q_212, q_244, q_271, q_302, q_307, q_308, q_309, q_310, q_311, q_312, q_313, q_314, q_395, q_401, q_402, q_403, q_404, q_405, q_406, q_407, q_408, q_490, q_529, q_572, q_621, q_626, q_740, q_745, q_860, q_865, q_980, q_985, q_1100, q_1105, q_1220, q_1225, q_1340, q_1345, q_1460, q_1465, q_1580, q_1585, q_1700, q_1705, q_1820, q_1825] S_1835 := NL.app (show NL S [q_1, q_5, q_6, q_37, q_43, q_44, q_45, q_46, q_47, q_48, q_49, q_50, q_118, q_124, q_149, q_169, q_174, q_206, q_212, q_244, q_271, q_302, q_307, q_308, q_309, q_310, q_311, q_312, q_313, q_314, q_395, q_401, q_402, q_403, q_404, q_405, q_406, q_407, q_408, q_490, q_529, q_572, q_621, q_626, q_740, q_745, q_860, q_865, q_980, q_985, q_1100, q_1105, q_1220, q_1225, q_1340, q_1345, q_1460, q_1465, q_1580, q_1585, q_1700, q_1705, q_1820] (nO S_1768 q_1820 10) from NL.nO hN_1817 hq_1821 hz_1822) hNl_1833 (fun a9 h9 => hf_1837.mem h9) (fun a9 h9 => hf_1824.mem h9)
  have hGt_1886 : Gt 1 [q_1820, q_1825] S_1835 := ⟨fun i9 k9 h9 => (match i9, h9 with | 0, h9 => (by have e9 : (10 : Nat) = k9 := Option.some.inj h9; subst e9; exact ⟨hm_1849, hk_1850⟩) | 1, h9 => (by have e9 : (15 : Nat) = k9 := Option.some.inj h9; subst e9; exact ⟨e_1829, e_1830⟩) | i9 + 2, h9 => absurd h9 (by simp [gT])), (List.forall_mem_cons.mpr ⟨e_1831, (fun _ h9 => absurd h9 List.not_mem_nil)⟩), (List.forall_mem_cons.mpr ⟨e_1832, (fun _ h9 => absurd h9 List.not_mem_nil)⟩), (fun _ h9 => absurd h9 List.not_mem_nil)⟩
  have hG_1887 : Gs h [(3, [q_1, q_5, q_6]), (4, [q_37, q_43, q_44, q_45, q_46, q_47, q_48, q_49, q_50]), (0, [q_118, q_124]), (1, [q_169, q_174]), (0, [q_206, q_212]), (2, [q_302, q_307, q_308, q_309, q_310, q_311, q_312, q_313, q_314]), (2, [q_395, q_401, q_402, q_403, q_404, q_405, q_406, q_407, q_408]), (1, [q_621, q_626]), (1, [q_740, q_745]), (1, [q_860, q_865]), (1, [q_980, q_985]), (1, [q_1100, q_1105]), (1, [q_1220, q_1225]), (1, [q_1340, q_1345]), (1, [q_1460, q_1465]), (1, [q_1580, q_1585]), (1, [q_1700, q_1705]), (1, [q_1820, q_1825])] S_1835 := Gs.snoc hG_1882 (by decide) hGt_1886 (List.forall_mem_cons.mpr ⟨(fun e9 => hz_1822 (e9 ▸ hm)), (fun _ h9 => absurd h9 List.not_mem_nil)⟩)
  refine j_aast (j := 10) (ci := 10) C 20  (by decide) rfl dX9_init_159 hm_1846 hk_1847 (inr_of (n := 16) hn_1848 (vp_lit (by decide))) (by decide) hm_1849 hk_1850 rfl ?_
  have hf_1890 : Fm (fun _ _ => False) (fun f9 b9 => b9 = h) (fun _ => False) S (tR S_1835 q_149 10 (some q_1820)) := (hf_1880.tR _ _ (fun h9 => absurd h9 hz_152))
  obtain ⟨S_1888, eS_1889⟩ : ∃ S9 : Hp, S9 = (tR S_1835 q_149 10 (some q_1820)) := ⟨_, rfl⟩
  refine J.eq (S' := S_1888) eS_1889.symm rfl rfl ?_
  have hm_1891 : h ∈ hL S_1888 := by rw [eS_1889]; exact hm_1844
  have hk_1892 : Kd S_1888 h 9 := by rw [eS_1889]; exact hk_1845
  have hm_1893 : q_149 ∈ hL S_1888 := by rw [eS_1889]; exact hm_1846
  have hk_1894 : Kd S_1888 q_149 20 := by rw [eS_1889]; exact hk_1847
  have hn_1895 : Ln S_1888 q_149 16 := by rw [eS_1889]; exact hn_1848
  have hz_1896 : ∀ j, aI S_1888 q_149 j = 0 := by rw [eS_1889]; exact hz_1838
  have hm_1897 : q_1820 ∈ hL S_1888 := by rw [eS_1889]; exact hm_1849
  have hk_1898 : Kd S_1888 q_1820 10 := by rw [eS_1889]; exact hk_1850
  have hm_1899 : q_244 ∈ hL S_1888 := by rw [eS_1889]; exact hm_1851
  have hk_1900 : Kd S_1888 q_244 13 := by rw [eS_1889]; exact hk_1852
  have hn_1901 : Ln S_1888 q_244 24000 := by rw [eS_1889]; exact hn_1853
  have hz_1902 : ∀ j, aI S_1888 q_244 j = 0 := by rw [eS_1889]; exact hz_1839
  have hm_1903 : q_271 ∈ hL S_1888 := by rw [eS_1889]; exact hm_1854
  have hk_1904 : Kd S_1888 q_271 14 := by rw [eS_1889]; exact hk_1855
  have hn_1905 : Ln S_1888 q_271 16 := by rw [eS_1889]; exact hn_1856
  have hz_1906 : ∀ j, aI S_1888 q_271 j = 0 := by rw [eS_1889]; exact hz_1840
  have hm_1907 : q_490 ∈ hL S_1888 := by rw [eS_1889]; exact hm_1857
  have hk_1908 : Kd S_1888 q_490 18 := by rw [eS_1889]; exact hk_1858
  have hn_1909 : Ln S_1888 q_490 3 := by rw [eS_1889]; exact hn_1859
  have hz_1910 : ∀ j, aI S_1888 q_490 j = 0 := by rw [eS_1889]; exact hz_1841
  have hm_1911 : q_529 ∈ hL S_1888 := by rw [eS_1889]; exact hm_1860
  have hk_1912 : Kd S_1888 q_529 19 := by rw [eS_1889]; exact hk_1861
  have hn_1913 : Ln S_1888 q_529 4 := by rw [eS_1889]; exact hn_1862
  have hz_1914 : ∀ j, aI S_1888 q_529 j = 0 := by rw [eS_1889]; exact hz_1842
  have hm_1915 : q_572 ∈ hL S_1888 := by rw [eS_1889]; exact hm_1863
  have hk_1916 : Kd S_1888 q_572 14 := by rw [eS_1889]; exact hk_1864
  have hn_1917 : Ln S_1888 q_572 12 := by rw [eS_1889]; exact hn_1865
  have hz_1918 : ∀ j, aI S_1888 q_572 j = 0 := by rw [eS_1889]; exact hz_1843
  have hv_1919 : hI S_1888 1000 q_1820 = 1 := by rw [eS_1889]; exact e_1826
  have hv_1920 : hI S_1888 1001 q_1820 = 1 := by rw [eS_1889]; exact e_1827
  have hv_1921 : hR S_1888 1003 q_1820 = (some q_1825) := by rw [eS_1889]; exact e_1832
  have hv_1922 : hR S_1888 900 h = (some s0) := by rw [eS_1889]; exact hv_1866
  have hv_1923 : hR S_1888 901 h = (some q_1) := by rw [eS_1889]; exact hv_1867
  have hv_1924 : hR S_1888 902 h = (some q_37) := by rw [eS_1889]; exact hv_1868
  have hv_1925 : hR S_1888 903 h = (some q_118) := by rw [eS_1889]; exact hv_1869
  have hv_1926 : hR S_1888 904 h = (some q_149) := by rw [eS_1889]; exact hv_1870
  have hv_1927 : hR S_1888 905 h = (some q_169) := by rw [eS_1889]; exact hv_1871
  have hv_1928 : hR S_1888 906 h = (some q_206) := by rw [eS_1889]; exact hv_1872
  have hv_1929 : hR S_1888 907 h = (some q_244) := by rw [eS_1889]; exact hv_1873
  have hv_1930 : hR S_1888 908 h = (some q_271) := by rw [eS_1889]; exact hv_1874
  have hv_1931 : hR S_1888 909 h = (some q_302) := by rw [eS_1889]; exact hv_1875
  have hv_1932 : hR S_1888 910 h = (some q_395) := by rw [eS_1889]; exact hv_1876
  have hv_1933 : hR S_1888 911 h = (some q_490) := by rw [eS_1889]; exact hv_1877
  have hv_1934 : hR S_1888 912 h = (some q_529) := by rw [eS_1889]; exact hv_1878
  have hv_1935 : hR S_1888 917 h = (some q_572) := by rw [eS_1889]; exact hv_1879
  have hf_1936 : Fm (fun _ _ => False) (fun f9 b9 => b9 = h) (fun _ => False) S S_1888 := by rw [eS_1889]; exact hf_1890
  have hN_1937 : NL S [q_1, q_5, q_6, q_37, q_43, q_44, q_45, q_46, q_47, q_48, q_49, q_50, q_118, q_124, q_149, q_169, q_174, q_206, q_212, q_244, q_271, q_302, q_307, q_308, q_309, q_310, q_311, q_312, q_313, q_314, q_395, q_401, q_402, q_403, q_404, q_405, q_406, q_407, q_408, q_490, q_529, q_572, q_621, q_626, q_740, q_745, q_860, q_865, q_980, q_985, q_1100, q_1105, q_1220, q_1225, q_1340, q_1345, q_1460, q_1465, q_1580, q_1585, q_1700, q_1705, q_1820, q_1825] S_1888 := by rw [eS_1889]; exact (NL.tR (S := S_1835) hN_1885)
  have hG_1938 : Gs h [(3, [q_1, q_5, q_6]), (4, [q_37, q_43, q_44, q_45, q_46, q_47, q_48, q_49, q_50]), (0, [q_118, q_124]), (1, [q_169, q_174]), (0, [q_206, q_212]), (2, [q_302, q_307, q_308, q_309, q_310, q_311, q_312, q_313, q_314]), (2, [q_395, q_401, q_402, q_403, q_404, q_405, q_406, q_407, q_408]), (1, [q_621, q_626]), (1, [q_740, q_745]), (1, [q_860, q_865]), (1, [q_980, q_985]), (1, [q_1100, q_1105]), (1, [q_1220, q_1225]), (1, [q_1340, q_1345]), (1, [q_1460, q_1465]), (1, [q_1580, q_1585]), (1, [q_1700, q_1705]), (1, [q_1820, q_1825])] S_1888 := by rw [eS_1889]; exact (Gs.tR (S := S_1835) hG_1887)
  have hE_1939 : ELs S_1888 q_149 [q_621, q_740, q_860, q_980, q_1100, q_1220, q_1340, q_1460, q_1580, q_1700, q_1820] := by rw [eS_1889]; exact (show ELs (tR S_1835 q_149 10 (some q_1820)) q_149 [q_621, q_740, q_860, q_980, q_1100, q_1220, q_1340, q_1460, q_1580, q_1700, q_1820] from ELs.snoc hE_1883 rfl)
  refine j_iinc (q := 0) (v := 11) (lv' := [(2, .int 11), (0, .ref h), (1, .ref s0)]) C dX9_init_160 rfl (by decide) (by rw [hn9]; decide) rfl ?_
  refine j_goto (tgt := 138) C dX9_init_163 (by decide) ?_
  refine j_iload_n C dX9_init_138 rfl 0 rfl ?_
  refine j_aload_n C dX9_init_139 rfl 1 rfl ?_
  refine j_getr (f := 904) (v := q_149) C flX9_34 dX9_init_140 hm_1891 hk_1892 (by decide) rfl hv_1926 ?_
  refine j_alen (v := 16) C dX9_init_143 hm_1893 hk_1894 (by decide) (by decide) (len_of (n := 16) hn_1895 (by decide)) ?_
  show J _ _ _ _ _ 144 _
  refine j_ic_ge (tgt := 166) C dX9_init_144 (by decide) (fun c9 => absurd c9 (by decide)) (fun c9 => ?_)
  refine j_aload_n C dX9_init_147 rfl 1 rfl ?_
  refine j_getr (f := 904) (v := q_149) C flX9_34 dX9_init_148 hm_1891 hk_1892 (by decide) rfl hv_1926 ?_
  refine j_iload_n C dX9_init_151 rfl 0 rfl ?_
  refine j_new (N := 4) C (ci := 10) rfl rfl klX9_32 knX10 kiX10 (M.cells (by decide)) (M.slots (by decide)) dX9_init_152 (fun q_1940 hq_1941 => ?_)
  have hz_1942 : q_1940 ∉ hL S := fun h9 => hq_1941 (hf_1936.mem h9)
  have gn_1943 : ∀ g9 ∈ ([(3, [q_1, q_5, q_6]), (4, [q_37, q_43, q_44, q_45, q_46, q_47, q_48, q_49, q_50]), (0, [q_118, q_124]), (1, [q_169, q_174]), (0, [q_206, q_212]), (2, [q_302, q_307, q_308, q_309, q_310, q_311, q_312, q_313, q_314]), (2, [q_395, q_401, q_402, q_403, q_404, q_405, q_406, q_407, q_408]), (1, [q_621, q_626]), (1, [q_740, q_745]), (1, [q_860, q_865]), (1, [q_980, q_985]), (1, [q_1100, q_1105]), (1, [q_1220, q_1225]), (1, [q_1340, q_1345]), (1, [q_1460, q_1465]), (1, [q_1580, q_1585]), (1, [q_1700, q_1705]), (1, [q_1820, q_1825])] : List (Nat × List Nat)), ∀ p9 ∈ (gT g9.1).2.2, g9.2.getD p9.2.1 0 ≠ q_1940 := Gs.ne hG_1938 hq_1941
  refine j_dup C dX9_init_155 rfl ?_
  have hf_1944 : Fm (fun _ _ => False) (fun f9 b9 => b9 = h) (fun _ => False) S (nO S_1888 q_1940 10) := (hf_1936.nO _ hq_1941)
  refine j_callI C [] [.ref q_1940, .int 11, .ref q_149] mlX9_38 mcX10_init (c_X10_init (nO S_1888 q_1940 10) q_1940 mem_new (kd_nO' (k := 10))) (M.rm (by decide) (by decide) (Nat.le_of_ble_eq_true rfl) (Nat.le_of_ble_eq_true rfl)) rfl rfl (Nat.le_of_ble_eq_true rfl) dX9_init_156 (fun r_1954 S_1955 hp_1956 => ?_)
  obtain ⟨rfl, hf_1957, e_1946, e_1947, q_1945, e_1948, e_1949, e_1950, e_1951, e_1952, hNl_1953⟩ := hp_1956
  refine J.eq (st' := [.ref q_1940, .int 11, .ref q_149]) rfl rfl rfl ?_
  have hz_1958 : ∀ j, aI S_1955 q_149 j = 0 := fun j9 => (hf_1957.ai (mem_old hm_1893) (fun h9 => h9) j9).trans (hz_1896 j9)
  have hz_1959 : ∀ j, aI S_1955 q_244 j = 0 := fun j9 => (hf_1957.ai (mem_old hm_1899) (fun h9 => h9) j9).trans (hz_1902 j9)
  have hz_1960 : ∀ j, aI S_1955 q_271 j = 0 := fun j9 => (hf_1957.ai (mem_old hm_1903) (fun h9 => h9) j9).trans (hz_1906 j9)
  have hz_1961 : ∀ j, aI S_1955 q_490 j = 0 := fun j9 => (hf_1957.ai (mem_old hm_1907) (fun h9 => h9) j9).trans (hz_1910 j9)
  have hz_1962 : ∀ j, aI S_1955 q_529 j = 0 := fun j9 => (hf_1957.ai (mem_old hm_1911) (fun h9 => h9) j9).trans (hz_1914 j9)
  have hz_1963 : ∀ j, aI S_1955 q_572 j = 0 := fun j9 => (hf_1957.ai (mem_old hm_1915) (fun h9 => h9) j9).trans (hz_1918 j9)
  have hm_1964 : h ∈ hL S_1955 := hf_1957.mem (mem_old hm_1891)
  have hk_1965 : Kd S_1955 h 9 := hf_1957.kd (mem_old hm_1891) (kd_nO (k := 10) hq_1941 hm_1891 hk_1892)
  have hm_1966 : q_149 ∈ hL S_1955 := hf_1957.mem (mem_old hm_1893)
  have hk_1967 : Kd S_1955 q_149 20 := hf_1957.kd (mem_old hm_1893) (kd_nO (k := 10) hq_1941 hm_1893 hk_1894)
  have hn_1968 : Ln S_1955 q_149 16 := hf_1957.ln (mem_old hm_1893) hn_1895
  have hm_1969 : q_1940 ∈ hL S_1955 := hf_1957.mem mem_new
  have hk_1970 : Kd S_1955 q_1940 10 := hf_1957.kd mem_new (kd_nO' (k := 10))
  have hm_1971 : q_244 ∈ hL S_1955 := hf_1957.mem (mem_old hm_1899)
  have hk_1972 : Kd S_1955 q_244 13 := hf_1957.kd (mem_old hm_1899) (kd_nO (k := 10) hq_1941 hm_1899 hk_1900)
  have hn_1973 : Ln S_1955 q_244 24000 := hf_1957.ln (mem_old hm_1899) hn_1901
  have hm_1974 : q_271 ∈ hL S_1955 := hf_1957.mem (mem_old hm_1903)
  have hk_1975 : Kd S_1955 q_271 14 := hf_1957.kd (mem_old hm_1903) (kd_nO (k := 10) hq_1941 hm_1903 hk_1904)
  have hn_1976 : Ln S_1955 q_271 16 := hf_1957.ln (mem_old hm_1903) hn_1905
  have hm_1977 : q_490 ∈ hL S_1955 := hf_1957.mem (mem_old hm_1907)
  have hk_1978 : Kd S_1955 q_490 18 := hf_1957.kd (mem_old hm_1907) (kd_nO (k := 10) hq_1941 hm_1907 hk_1908)
  have hn_1979 : Ln S_1955 q_490 3 := hf_1957.ln (mem_old hm_1907) hn_1909
  have hm_1980 : q_529 ∈ hL S_1955 := hf_1957.mem (mem_old hm_1911)
  have hk_1981 : Kd S_1955 q_529 19 := hf_1957.kd (mem_old hm_1911) (kd_nO (k := 10) hq_1941 hm_1911 hk_1912)
  have hn_1982 : Ln S_1955 q_529 4 := hf_1957.ln (mem_old hm_1911) hn_1913
  have hm_1983 : q_572 ∈ hL S_1955 := hf_1957.mem (mem_old hm_1915)
  have hk_1984 : Kd S_1955 q_572 14 := hf_1957.kd (mem_old hm_1915) (kd_nO (k := 10) hq_1941 hm_1915 hk_1916)
  have hn_1985 : Ln S_1955 q_572 12 := hf_1957.ln (mem_old hm_1915) hn_1917
  have hv_1986 : hR S_1955 900 h = (some s0) := hf_1957.fr (mem_old hm_1891) (fun q9 => (fun e9 => absurd (((kd_nO (k := 10) hq_1941 hm_1891 hk_1892)).symm.trans ((congrArg (hK _) e9).trans (kd_nO' (k := 10)))) (by decide)) q9) (rd_nOR (k := 10) hq_1941 hm_1891 hv_1922)
  have hv_1987 : hR S_1955 901 h = (some q_1) := hf_1957.fr (mem_old hm_1891) (fun q9 => (fun e9 => absurd (((kd_nO (k := 10) hq_1941 hm_1891 hk_1892)).symm.trans ((congrArg (hK _) e9).trans (kd_nO' (k := 10)))) (by decide)) q9) (rd_nOR (k := 10) hq_1941 hm_1891 hv_1923)
  have hv_1988 : hR S_1955 902 h = (some q_37) := hf_1957.fr (mem_old hm_1891) (fun q9 => (fun e9 => absurd (((kd_nO (k := 10) hq_1941 hm_1891 hk_1892)).symm.trans ((congrArg (hK _) e9).trans (kd_nO' (k := 10)))) (by decide)) q9) (rd_nOR (k := 10) hq_1941 hm_1891 hv_1924)
  have hv_1989 : hR S_1955 903 h = (some q_118) := hf_1957.fr (mem_old hm_1891) (fun q9 => (fun e9 => absurd (((kd_nO (k := 10) hq_1941 hm_1891 hk_1892)).symm.trans ((congrArg (hK _) e9).trans (kd_nO' (k := 10)))) (by decide)) q9) (rd_nOR (k := 10) hq_1941 hm_1891 hv_1925)
  have hv_1990 : hR S_1955 904 h = (some q_149) := hf_1957.fr (mem_old hm_1891) (fun q9 => (fun e9 => absurd (((kd_nO (k := 10) hq_1941 hm_1891 hk_1892)).symm.trans ((congrArg (hK _) e9).trans (kd_nO' (k := 10)))) (by decide)) q9) (rd_nOR (k := 10) hq_1941 hm_1891 hv_1926)
  have hv_1991 : hR S_1955 905 h = (some q_169) := hf_1957.fr (mem_old hm_1891) (fun q9 => (fun e9 => absurd (((kd_nO (k := 10) hq_1941 hm_1891 hk_1892)).symm.trans ((congrArg (hK _) e9).trans (kd_nO' (k := 10)))) (by decide)) q9) (rd_nOR (k := 10) hq_1941 hm_1891 hv_1927)
  have hv_1992 : hR S_1955 906 h = (some q_206) := hf_1957.fr (mem_old hm_1891) (fun q9 => (fun e9 => absurd (((kd_nO (k := 10) hq_1941 hm_1891 hk_1892)).symm.trans ((congrArg (hK _) e9).trans (kd_nO' (k := 10)))) (by decide)) q9) (rd_nOR (k := 10) hq_1941 hm_1891 hv_1928)
  have hv_1993 : hR S_1955 907 h = (some q_244) := hf_1957.fr (mem_old hm_1891) (fun q9 => (fun e9 => absurd (((kd_nO (k := 10) hq_1941 hm_1891 hk_1892)).symm.trans ((congrArg (hK _) e9).trans (kd_nO' (k := 10)))) (by decide)) q9) (rd_nOR (k := 10) hq_1941 hm_1891 hv_1929)
  have hv_1994 : hR S_1955 908 h = (some q_271) := hf_1957.fr (mem_old hm_1891) (fun q9 => (fun e9 => absurd (((kd_nO (k := 10) hq_1941 hm_1891 hk_1892)).symm.trans ((congrArg (hK _) e9).trans (kd_nO' (k := 10)))) (by decide)) q9) (rd_nOR (k := 10) hq_1941 hm_1891 hv_1930)
  have hv_1995 : hR S_1955 909 h = (some q_302) := hf_1957.fr (mem_old hm_1891) (fun q9 => (fun e9 => absurd (((kd_nO (k := 10) hq_1941 hm_1891 hk_1892)).symm.trans ((congrArg (hK _) e9).trans (kd_nO' (k := 10)))) (by decide)) q9) (rd_nOR (k := 10) hq_1941 hm_1891 hv_1931)
  have hv_1996 : hR S_1955 910 h = (some q_395) := hf_1957.fr (mem_old hm_1891) (fun q9 => (fun e9 => absurd (((kd_nO (k := 10) hq_1941 hm_1891 hk_1892)).symm.trans ((congrArg (hK _) e9).trans (kd_nO' (k := 10)))) (by decide)) q9) (rd_nOR (k := 10) hq_1941 hm_1891 hv_1932)
  have hv_1997 : hR S_1955 911 h = (some q_490) := hf_1957.fr (mem_old hm_1891) (fun q9 => (fun e9 => absurd (((kd_nO (k := 10) hq_1941 hm_1891 hk_1892)).symm.trans ((congrArg (hK _) e9).trans (kd_nO' (k := 10)))) (by decide)) q9) (rd_nOR (k := 10) hq_1941 hm_1891 hv_1933)
  have hv_1998 : hR S_1955 912 h = (some q_529) := hf_1957.fr (mem_old hm_1891) (fun q9 => (fun e9 => absurd (((kd_nO (k := 10) hq_1941 hm_1891 hk_1892)).symm.trans ((congrArg (hK _) e9).trans (kd_nO' (k := 10)))) (by decide)) q9) (rd_nOR (k := 10) hq_1941 hm_1891 hv_1934)
  have hv_1999 : hR S_1955 917 h = (some q_572) := hf_1957.fr (mem_old hm_1891) (fun q9 => (fun e9 => absurd (((kd_nO (k := 10) hq_1941 hm_1891 hk_1892)).symm.trans ((congrArg (hK _) e9).trans (kd_nO' (k := 10)))) (by decide)) q9) (rd_nOR (k := 10) hq_1941 hm_1891 hv_1935)
  have hf_2000 : Fm (fun _ _ => False) (fun f9 b9 => b9 = h) (fun _ => False) S S_1955 := hf_1944.then hf_1957 (fun a9 ha9 => ⟨(fun f9 h9 => (fun h9 => h9.elim (fun h8 => absurd (h8.2 ▸ ha9) hz_1942) (fun h8 => absurd (h8.2 ▸ ha9) hz_1942)) h9), (fun f9 h9 => (fun h8 => absurd (h8 ▸ ha9) hz_1942) h9), (fun h9 => h9.elim)⟩)
  have hN_2001 : NL S [q_1, q_5, q_6, q_37, q_43, q_44, q_45, q_46, q_47, q_48, q_49, q_50, q_118, q_124, q_149, q_169, q_174, q_206, q_212, q_244, q_271, q_302, q_307, q_308, q_309, q_310, q_311, q_312, q_313, q_314, q_395, q_401, q_402, q_403, q_404, q_405, q_406, q_407, q_408, q_490, q_529, q_572, q_621, q_626, q_740, q_745, q_860, q_865, q_980, q_985, q_1100, q_1105, q_1220, q_1225, q_1340, q_1345, q_1460, q_1465, q_1580, q_1585, q_1700, q_1705, q_1820, q_1825, q_1940] S_1955 := NL.mono (show NL S [q_1, q_5, q_6, q_37, q_43, q_44, q_45, q_46, q_47, q_48, q_49, q_50, q_118, q_124, q_149, q_169, q_174, q_206, q_212, q_244, q_271, q_302, q_307, q_308, q_309, q_310, q_311, q_312, q_313, q_314, q_395, q_401, q_402, q_403, q_404, q_405, q_406, q_407, q_408, q_490, q_529, q_572, q_621, q_626, q_740, q_745, q_860, q_865, q_980, q_985, q_1100, q_1105, q_1220, q_1225, q_1340, q_1345, q_1460, q_1465, q_1580, q_1585, q_1700, q_1705, q_1820, q_1825, q_1940] (nO S_1888 q_1940 10) from NL.nO hN_1937 hq_1941 hz_1942) (fun a9 h9 => hf_1957.mem h9)
  have hG_2002 : Gs h [(3, [q_1, q_5, q_6]), (4, [q_37, q_43, q_44, q_45, q_46, q_47, q_48, q_49, q_50]), (0, [q_118, q_124]), (1, [q_169, q_174]), (0, [q_206, q_212]), (2, [q_302, q_307, q_308, q_309, q_310, q_311, q_312, q_313, q_314]), (2, [q_395, q_401, q_402, q_403, q_404, q_405, q_406, q_407, q_408]), (1, [q_621, q_626]), (1, [q_740, q_745]), (1, [q_860, q_865]), (1, [q_980, q_985]), (1, [q_1100, q_1105]), (1, [q_1220, q_1225]), (1, [q_1340, q_1345]), (1, [q_1460, q_1465]), (1, [q_1580, q_1585]), (1, [q_1700, q_1705]), (1, [q_1820, q_1825])] S_1955 := Gs.fm (show Gs h [(3, [q_1, q_5, q_6]), (4, [q_37, q_43, q_44, q_45, q_46, q_47, q_48, q_49, q_50]), (0, [q_118, q_124]), (1, [q_169, q_174]), (0, [q_206, q_212]), (2, [q_302, q_307, q_308, q_309, q_310, q_311, q_312, q_313, q_314]), (2, [q_395, q_401, q_402, q_403, q_404, q_405, q_406, q_407, q_408]), (1, [q_621, q_626]), (1, [q_740, q_745]), (1, [q_860, q_865]), (1, [q_980, q_985]), (1, [q_1100, q_1105]), (1, [q_1220, q_1225]), (1, [q_1340, q_1345]), (1, [q_1460, q_1465]), (1, [q_1580, q_1585]), (1, [q_1700, q_1705]), (1, [q_1820, q_1825])] (nO S_1888 q_1940 10) from Gs.nO hG_1938 hq_1941) hf_1957 (fun g9 hg9 p9 hp9 => gn_1943 g9 hg9 p9 hp9)
  have hE_2003 : ELs S_1955 q_149 [q_621, q_740, q_860, q_980, q_1100, q_1220, q_1340, q_1460, q_1580, q_1700, q_1820] := ELs.fm (ELs.nO (S := S_1888) hE_1939) hf_1957 (mem_old hm_1893) (fun h9 => h9)
  have hz_2004 : q_1945 ∉ hL S := fun h9 => e_1948 (hf_1944.mem h9)
  have hN_2005 : NL S [q_1, q_5, q_6, q_37, q_43, q_44, q_45, q_46, q_47, q_48, q_49, q_50, q_118, q_124, q_149, q_169, q_174, q_206, q_212, q_244, q_271, q_302, q_307, q_308, q_309, q_310, q_311, q_312, q_313, q_314, q_395, q_401, q_402, q_403, q_404, q_405, q_406, q_407, q_408, q_490, q_529, q_572, q_621, q_626, q_740, q_745, q_860, q_865, q_980, q_985, q_1100, q_1105, q_1220, q_1225, q_1340, q_1345, q_1460, q_1465, q_1580, q_1585, q_1700, q_1705, q_1820, q_1825, q_1940, q_1945] S_1955 := NL.app (show NL S [q_1, q_5, q_6, q_37, q_43, q_44, q_45, q_46, q_47, q_48, q_49, q_50, q_118, q_124, q_149, q_169, q_174, q_206, q_212, q_244, q_271, q_302, q_307, q_308, q_309, q_310, q_311, q_312, q_313, q_314, q_395, q_401, q_402, q_403, q_404, q_405, q_406, q_407, q_408, q_490, q_529, q_572, q_621, q_626, q_740, q_745, q_860, q_865, q_980, q_985, q_1100, q_1105, q_1220, q_1225, q_1340, q_1345, q_1460, q_1465, q_1580, q_1585, q_1700, q_1705, q_1820, q_1825, q_1940] (nO S_1888 q_1940 10) from NL.nO hN_1937 hq_1941 hz_1942) hNl_1953 (fun a9 h9 => hf_1957.mem h9) (fun a9 h9 => hf_1944.mem h9)
  have hGt_2006 : Gt 1 [q_1940, q_1945] S_1955 := ⟨fun i9 k9 h9 => (match i9, h9 with | 0, h9 => (by have e9 : (10 : Nat) = k9 := Option.some.inj h9; subst e9; exact ⟨hm_1969, hk_1970⟩) | 1, h9 => (by have e9 : (15 : Nat) = k9 := Option.some.inj h9; subst e9; exact ⟨e_1949, e_1950⟩) | i9 + 2, h9 => absurd h9 (by simp [gT])), (List.forall_mem_cons.mpr ⟨e_1951, (fun _ h9 => absurd h9 List.not_mem_nil)⟩), (List.forall_mem_cons.mpr ⟨e_1952, (fun _ h9 => absurd h9 List.not_mem_nil)⟩), (fun _ h9 => absurd h9 List.not_mem_nil)⟩
  have hG_2007 : Gs h [(3, [q_1, q_5, q_6]), (4, [q_37, q_43, q_44, q_45, q_46, q_47, q_48, q_49, q_50]), (0, [q_118, q_124]), (1, [q_169, q_174]), (0, [q_206, q_212]), (2, [q_302, q_307, q_308, q_309, q_310, q_311, q_312, q_313, q_314]), (2, [q_395, q_401, q_402, q_403, q_404, q_405, q_406, q_407, q_408]), (1, [q_621, q_626]), (1, [q_740, q_745]), (1, [q_860, q_865]), (1, [q_980, q_985]), (1, [q_1100, q_1105]), (1, [q_1220, q_1225]), (1, [q_1340, q_1345]), (1, [q_1460, q_1465]), (1, [q_1580, q_1585]), (1, [q_1700, q_1705]), (1, [q_1820, q_1825]), (1, [q_1940, q_1945])] S_1955 := Gs.snoc hG_2002 (by decide) hGt_2006 (List.forall_mem_cons.mpr ⟨(fun e9 => hz_1942 (e9 ▸ hm)), (fun _ h9 => absurd h9 List.not_mem_nil)⟩)
  refine j_aast (j := 11) (ci := 10) C 20  (by decide) rfl dX9_init_159 hm_1966 hk_1967 (inr_of (n := 16) hn_1968 (vp_lit (by decide))) (by decide) hm_1969 hk_1970 rfl ?_
  have hf_2010 : Fm (fun _ _ => False) (fun f9 b9 => b9 = h) (fun _ => False) S (tR S_1955 q_149 11 (some q_1940)) := (hf_2000.tR _ _ (fun h9 => absurd h9 hz_152))
  obtain ⟨S_2008, eS_2009⟩ : ∃ S9 : Hp, S9 = (tR S_1955 q_149 11 (some q_1940)) := ⟨_, rfl⟩
  refine J.eq (S' := S_2008) eS_2009.symm rfl rfl ?_
  have hm_2011 : h ∈ hL S_2008 := by rw [eS_2009]; exact hm_1964
  have hk_2012 : Kd S_2008 h 9 := by rw [eS_2009]; exact hk_1965
  have hm_2013 : q_149 ∈ hL S_2008 := by rw [eS_2009]; exact hm_1966
  have hk_2014 : Kd S_2008 q_149 20 := by rw [eS_2009]; exact hk_1967
  have hn_2015 : Ln S_2008 q_149 16 := by rw [eS_2009]; exact hn_1968
  have hz_2016 : ∀ j, aI S_2008 q_149 j = 0 := by rw [eS_2009]; exact hz_1958
  have hm_2017 : q_1940 ∈ hL S_2008 := by rw [eS_2009]; exact hm_1969
  have hk_2018 : Kd S_2008 q_1940 10 := by rw [eS_2009]; exact hk_1970
  have hm_2019 : q_244 ∈ hL S_2008 := by rw [eS_2009]; exact hm_1971
  have hk_2020 : Kd S_2008 q_244 13 := by rw [eS_2009]; exact hk_1972
  have hn_2021 : Ln S_2008 q_244 24000 := by rw [eS_2009]; exact hn_1973
  have hz_2022 : ∀ j, aI S_2008 q_244 j = 0 := by rw [eS_2009]; exact hz_1959
  have hm_2023 : q_271 ∈ hL S_2008 := by rw [eS_2009]; exact hm_1974
  have hk_2024 : Kd S_2008 q_271 14 := by rw [eS_2009]; exact hk_1975
  have hn_2025 : Ln S_2008 q_271 16 := by rw [eS_2009]; exact hn_1976
  have hz_2026 : ∀ j, aI S_2008 q_271 j = 0 := by rw [eS_2009]; exact hz_1960
  have hm_2027 : q_490 ∈ hL S_2008 := by rw [eS_2009]; exact hm_1977
  have hk_2028 : Kd S_2008 q_490 18 := by rw [eS_2009]; exact hk_1978
  have hn_2029 : Ln S_2008 q_490 3 := by rw [eS_2009]; exact hn_1979
  have hz_2030 : ∀ j, aI S_2008 q_490 j = 0 := by rw [eS_2009]; exact hz_1961
  have hm_2031 : q_529 ∈ hL S_2008 := by rw [eS_2009]; exact hm_1980
  have hk_2032 : Kd S_2008 q_529 19 := by rw [eS_2009]; exact hk_1981
  have hn_2033 : Ln S_2008 q_529 4 := by rw [eS_2009]; exact hn_1982
  have hz_2034 : ∀ j, aI S_2008 q_529 j = 0 := by rw [eS_2009]; exact hz_1962
  have hm_2035 : q_572 ∈ hL S_2008 := by rw [eS_2009]; exact hm_1983
  have hk_2036 : Kd S_2008 q_572 14 := by rw [eS_2009]; exact hk_1984
  have hn_2037 : Ln S_2008 q_572 12 := by rw [eS_2009]; exact hn_1985
  have hz_2038 : ∀ j, aI S_2008 q_572 j = 0 := by rw [eS_2009]; exact hz_1963
  have hv_2039 : hI S_2008 1000 q_1940 = 1 := by rw [eS_2009]; exact e_1946
  have hv_2040 : hI S_2008 1001 q_1940 = 1 := by rw [eS_2009]; exact e_1947
  have hv_2041 : hR S_2008 1003 q_1940 = (some q_1945) := by rw [eS_2009]; exact e_1952
  have hv_2042 : hR S_2008 900 h = (some s0) := by rw [eS_2009]; exact hv_1986
  have hv_2043 : hR S_2008 901 h = (some q_1) := by rw [eS_2009]; exact hv_1987
  have hv_2044 : hR S_2008 902 h = (some q_37) := by rw [eS_2009]; exact hv_1988
  have hv_2045 : hR S_2008 903 h = (some q_118) := by rw [eS_2009]; exact hv_1989
  have hv_2046 : hR S_2008 904 h = (some q_149) := by rw [eS_2009]; exact hv_1990
  have hv_2047 : hR S_2008 905 h = (some q_169) := by rw [eS_2009]; exact hv_1991
  have hv_2048 : hR S_2008 906 h = (some q_206) := by rw [eS_2009]; exact hv_1992
  have hv_2049 : hR S_2008 907 h = (some q_244) := by rw [eS_2009]; exact hv_1993
  have hv_2050 : hR S_2008 908 h = (some q_271) := by rw [eS_2009]; exact hv_1994
  have hv_2051 : hR S_2008 909 h = (some q_302) := by rw [eS_2009]; exact hv_1995
  have hv_2052 : hR S_2008 910 h = (some q_395) := by rw [eS_2009]; exact hv_1996
  have hv_2053 : hR S_2008 911 h = (some q_490) := by rw [eS_2009]; exact hv_1997
  have hv_2054 : hR S_2008 912 h = (some q_529) := by rw [eS_2009]; exact hv_1998
  have hv_2055 : hR S_2008 917 h = (some q_572) := by rw [eS_2009]; exact hv_1999
  have hf_2056 : Fm (fun _ _ => False) (fun f9 b9 => b9 = h) (fun _ => False) S S_2008 := by rw [eS_2009]; exact hf_2010
  have hN_2057 : NL S [q_1, q_5, q_6, q_37, q_43, q_44, q_45, q_46, q_47, q_48, q_49, q_50, q_118, q_124, q_149, q_169, q_174, q_206, q_212, q_244, q_271, q_302, q_307, q_308, q_309, q_310, q_311, q_312, q_313, q_314, q_395, q_401, q_402, q_403, q_404, q_405, q_406, q_407, q_408, q_490, q_529, q_572, q_621, q_626, q_740, q_745, q_860, q_865, q_980, q_985, q_1100, q_1105, q_1220, q_1225, q_1340, q_1345, q_1460, q_1465, q_1580, q_1585, q_1700, q_1705, q_1820, q_1825, q_1940, q_1945] S_2008 := by rw [eS_2009]; exact (NL.tR (S := S_1955) hN_2005)
  have hG_2058 : Gs h [(3, [q_1, q_5, q_6]), (4, [q_37, q_43, q_44, q_45, q_46, q_47, q_48, q_49, q_50]), (0, [q_118, q_124]), (1, [q_169, q_174]), (0, [q_206, q_212]), (2, [q_302, q_307, q_308, q_309, q_310, q_311, q_312, q_313, q_314]), (2, [q_395, q_401, q_402, q_403, q_404, q_405, q_406, q_407, q_408]), (1, [q_621, q_626]), (1, [q_740, q_745]), (1, [q_860, q_865]), (1, [q_980, q_985]), (1, [q_1100, q_1105]), (1, [q_1220, q_1225]), (1, [q_1340, q_1345]), (1, [q_1460, q_1465]), (1, [q_1580, q_1585]), (1, [q_1700, q_1705]), (1, [q_1820, q_1825]), (1, [q_1940, q_1945])] S_2008 := by rw [eS_2009]; exact (Gs.tR (S := S_1955) hG_2007)
  have hE_2059 : ELs S_2008 q_149 [q_621, q_740, q_860, q_980, q_1100, q_1220, q_1340, q_1460, q_1580, q_1700, q_1820, q_1940] := by rw [eS_2009]; exact (show ELs (tR S_1955 q_149 11 (some q_1940)) q_149 [q_621, q_740, q_860, q_980, q_1100, q_1220, q_1340, q_1460, q_1580, q_1700, q_1820, q_1940] from ELs.snoc hE_2003 rfl)
  show J _ _ _ _ _ 160 _
  refine j_iinc (q := 0) (v := 12) (lv' := [(2, .int 12), (0, .ref h), (1, .ref s0)]) C dX9_init_160 rfl (by decide) (by rw [hn9]; decide) rfl ?_
  refine j_goto (tgt := 138) C dX9_init_163 (by decide) ?_
  refine j_iload_n C dX9_init_138 rfl 0 rfl ?_
  refine j_aload_n C dX9_init_139 rfl 1 rfl ?_
  refine j_getr (f := 904) (v := q_149) C flX9_34 dX9_init_140 hm_2011 hk_2012 (by decide) rfl hv_2046 ?_
  refine j_alen (v := 16) C dX9_init_143 hm_2013 hk_2014 (by decide) (by decide) (len_of (n := 16) hn_2015 (by decide)) ?_
  refine j_ic_ge (tgt := 166) C dX9_init_144 (by decide) (fun c9 => absurd c9 (by decide)) (fun c9 => ?_)
  refine j_aload_n C dX9_init_147 rfl 1 rfl ?_
  show J _ _ _ _ _ 148 _
  refine j_getr (f := 904) (v := q_149) C flX9_34 dX9_init_148 hm_2011 hk_2012 (by decide) rfl hv_2046 ?_
  refine j_iload_n C dX9_init_151 rfl 0 rfl ?_
  refine j_new (N := 4) C (ci := 10) rfl rfl klX9_32 knX10 kiX10 (M.cells (by decide)) (M.slots (by decide)) dX9_init_152 (fun q_2060 hq_2061 => ?_)
  have hz_2062 : q_2060 ∉ hL S := fun h9 => hq_2061 (hf_2056.mem h9)
  have gn_2063 : ∀ g9 ∈ ([(3, [q_1, q_5, q_6]), (4, [q_37, q_43, q_44, q_45, q_46, q_47, q_48, q_49, q_50]), (0, [q_118, q_124]), (1, [q_169, q_174]), (0, [q_206, q_212]), (2, [q_302, q_307, q_308, q_309, q_310, q_311, q_312, q_313, q_314]), (2, [q_395, q_401, q_402, q_403, q_404, q_405, q_406, q_407, q_408]), (1, [q_621, q_626]), (1, [q_740, q_745]), (1, [q_860, q_865]), (1, [q_980, q_985]), (1, [q_1100, q_1105]), (1, [q_1220, q_1225]), (1, [q_1340, q_1345]), (1, [q_1460, q_1465]), (1, [q_1580, q_1585]), (1, [q_1700, q_1705]), (1, [q_1820, q_1825]), (1, [q_1940, q_1945])] : List (Nat × List Nat)), ∀ p9 ∈ (gT g9.1).2.2, g9.2.getD p9.2.1 0 ≠ q_2060 := Gs.ne hG_2058 hq_2061
  refine j_dup C dX9_init_155 rfl ?_
  have hf_2064 : Fm (fun _ _ => False) (fun f9 b9 => b9 = h) (fun _ => False) S (nO S_2008 q_2060 10) := (hf_2056.nO _ hq_2061)
  refine j_callI C [] [.ref q_2060, .int 12, .ref q_149] mlX9_38 mcX10_init (c_X10_init (nO S_2008 q_2060 10) q_2060 mem_new (kd_nO' (k := 10))) (M.rm (by decide) (by decide) (Nat.le_of_ble_eq_true rfl) (Nat.le_of_ble_eq_true rfl)) rfl rfl (Nat.le_of_ble_eq_true rfl) dX9_init_156 (fun r_2074 S_2075 hp_2076 => ?_)
  obtain ⟨rfl, hf_2077, e_2066, e_2067, q_2065, e_2068, e_2069, e_2070, e_2071, e_2072, hNl_2073⟩ := hp_2076
  refine J.eq (st' := [.ref q_2060, .int 12, .ref q_149]) rfl rfl rfl ?_
  have hz_2078 : ∀ j, aI S_2075 q_149 j = 0 := fun j9 => (hf_2077.ai (mem_old hm_2013) (fun h9 => h9) j9).trans (hz_2016 j9)
  have hz_2079 : ∀ j, aI S_2075 q_244 j = 0 := fun j9 => (hf_2077.ai (mem_old hm_2019) (fun h9 => h9) j9).trans (hz_2022 j9)
  have hz_2080 : ∀ j, aI S_2075 q_271 j = 0 := fun j9 => (hf_2077.ai (mem_old hm_2023) (fun h9 => h9) j9).trans (hz_2026 j9)
  have hz_2081 : ∀ j, aI S_2075 q_490 j = 0 := fun j9 => (hf_2077.ai (mem_old hm_2027) (fun h9 => h9) j9).trans (hz_2030 j9)
  have hz_2082 : ∀ j, aI S_2075 q_529 j = 0 := fun j9 => (hf_2077.ai (mem_old hm_2031) (fun h9 => h9) j9).trans (hz_2034 j9)
  have hz_2083 : ∀ j, aI S_2075 q_572 j = 0 := fun j9 => (hf_2077.ai (mem_old hm_2035) (fun h9 => h9) j9).trans (hz_2038 j9)
  have hm_2084 : h ∈ hL S_2075 := hf_2077.mem (mem_old hm_2011)
  have hk_2085 : Kd S_2075 h 9 := hf_2077.kd (mem_old hm_2011) (kd_nO (k := 10) hq_2061 hm_2011 hk_2012)
  have hm_2086 : q_149 ∈ hL S_2075 := hf_2077.mem (mem_old hm_2013)
  have hk_2087 : Kd S_2075 q_149 20 := hf_2077.kd (mem_old hm_2013) (kd_nO (k := 10) hq_2061 hm_2013 hk_2014)
  have hn_2088 : Ln S_2075 q_149 16 := hf_2077.ln (mem_old hm_2013) hn_2015
  have hm_2089 : q_2060 ∈ hL S_2075 := hf_2077.mem mem_new
  have hk_2090 : Kd S_2075 q_2060 10 := hf_2077.kd mem_new (kd_nO' (k := 10))
  have hm_2091 : q_244 ∈ hL S_2075 := hf_2077.mem (mem_old hm_2019)
  have hk_2092 : Kd S_2075 q_244 13 := hf_2077.kd (mem_old hm_2019) (kd_nO (k := 10) hq_2061 hm_2019 hk_2020)
  have hn_2093 : Ln S_2075 q_244 24000 := hf_2077.ln (mem_old hm_2019) hn_2021
  have hm_2094 : q_271 ∈ hL S_2075 := hf_2077.mem (mem_old hm_2023)
  have hk_2095 : Kd S_2075 q_271 14 := hf_2077.kd (mem_old hm_2023) (kd_nO (k := 10) hq_2061 hm_2023 hk_2024)
  have hn_2096 : Ln S_2075 q_271 16 := hf_2077.ln (mem_old hm_2023) hn_2025
  have hm_2097 : q_490 ∈ hL S_2075 := hf_2077.mem (mem_old hm_2027)
  have hk_2098 : Kd S_2075 q_490 18 := hf_2077.kd (mem_old hm_2027) (kd_nO (k := 10) hq_2061 hm_2027 hk_2028)
  have hn_2099 : Ln S_2075 q_490 3 := hf_2077.ln (mem_old hm_2027) hn_2029
  have hm_2100 : q_529 ∈ hL S_2075 := hf_2077.mem (mem_old hm_2031)
  have hk_2101 : Kd S_2075 q_529 19 := hf_2077.kd (mem_old hm_2031) (kd_nO (k := 10) hq_2061 hm_2031 hk_2032)
  have hn_2102 : Ln S_2075 q_529 4 := hf_2077.ln (mem_old hm_2031) hn_2033
  have hm_2103 : q_572 ∈ hL S_2075 := hf_2077.mem (mem_old hm_2035)
  have hk_2104 : Kd S_2075 q_572 14 := hf_2077.kd (mem_old hm_2035) (kd_nO (k := 10) hq_2061 hm_2035 hk_2036)
  have hn_2105 : Ln S_2075 q_572 12 := hf_2077.ln (mem_old hm_2035) hn_2037
  have hv_2106 : hR S_2075 900 h = (some s0) := hf_2077.fr (mem_old hm_2011) (fun q9 => (fun e9 => absurd (((kd_nO (k := 10) hq_2061 hm_2011 hk_2012)).symm.trans ((congrArg (hK _) e9).trans (kd_nO' (k := 10)))) (by decide)) q9) (rd_nOR (k := 10) hq_2061 hm_2011 hv_2042)
  have hv_2107 : hR S_2075 901 h = (some q_1) := hf_2077.fr (mem_old hm_2011) (fun q9 => (fun e9 => absurd (((kd_nO (k := 10) hq_2061 hm_2011 hk_2012)).symm.trans ((congrArg (hK _) e9).trans (kd_nO' (k := 10)))) (by decide)) q9) (rd_nOR (k := 10) hq_2061 hm_2011 hv_2043)
  have hv_2108 : hR S_2075 902 h = (some q_37) := hf_2077.fr (mem_old hm_2011) (fun q9 => (fun e9 => absurd (((kd_nO (k := 10) hq_2061 hm_2011 hk_2012)).symm.trans ((congrArg (hK _) e9).trans (kd_nO' (k := 10)))) (by decide)) q9) (rd_nOR (k := 10) hq_2061 hm_2011 hv_2044)
  have hv_2109 : hR S_2075 903 h = (some q_118) := hf_2077.fr (mem_old hm_2011) (fun q9 => (fun e9 => absurd (((kd_nO (k := 10) hq_2061 hm_2011 hk_2012)).symm.trans ((congrArg (hK _) e9).trans (kd_nO' (k := 10)))) (by decide)) q9) (rd_nOR (k := 10) hq_2061 hm_2011 hv_2045)
  have hv_2110 : hR S_2075 904 h = (some q_149) := hf_2077.fr (mem_old hm_2011) (fun q9 => (fun e9 => absurd (((kd_nO (k := 10) hq_2061 hm_2011 hk_2012)).symm.trans ((congrArg (hK _) e9).trans (kd_nO' (k := 10)))) (by decide)) q9) (rd_nOR (k := 10) hq_2061 hm_2011 hv_2046)
  have hv_2111 : hR S_2075 905 h = (some q_169) := hf_2077.fr (mem_old hm_2011) (fun q9 => (fun e9 => absurd (((kd_nO (k := 10) hq_2061 hm_2011 hk_2012)).symm.trans ((congrArg (hK _) e9).trans (kd_nO' (k := 10)))) (by decide)) q9) (rd_nOR (k := 10) hq_2061 hm_2011 hv_2047)
  have hv_2112 : hR S_2075 906 h = (some q_206) := hf_2077.fr (mem_old hm_2011) (fun q9 => (fun e9 => absurd (((kd_nO (k := 10) hq_2061 hm_2011 hk_2012)).symm.trans ((congrArg (hK _) e9).trans (kd_nO' (k := 10)))) (by decide)) q9) (rd_nOR (k := 10) hq_2061 hm_2011 hv_2048)
  have hv_2113 : hR S_2075 907 h = (some q_244) := hf_2077.fr (mem_old hm_2011) (fun q9 => (fun e9 => absurd (((kd_nO (k := 10) hq_2061 hm_2011 hk_2012)).symm.trans ((congrArg (hK _) e9).trans (kd_nO' (k := 10)))) (by decide)) q9) (rd_nOR (k := 10) hq_2061 hm_2011 hv_2049)
  have hv_2114 : hR S_2075 908 h = (some q_271) := hf_2077.fr (mem_old hm_2011) (fun q9 => (fun e9 => absurd (((kd_nO (k := 10) hq_2061 hm_2011 hk_2012)).symm.trans ((congrArg (hK _) e9).trans (kd_nO' (k := 10)))) (by decide)) q9) (rd_nOR (k := 10) hq_2061 hm_2011 hv_2050)
  have hv_2115 : hR S_2075 909 h = (some q_302) := hf_2077.fr (mem_old hm_2011) (fun q9 => (fun e9 => absurd (((kd_nO (k := 10) hq_2061 hm_2011 hk_2012)).symm.trans ((congrArg (hK _) e9).trans (kd_nO' (k := 10)))) (by decide)) q9) (rd_nOR (k := 10) hq_2061 hm_2011 hv_2051)
  have hv_2116 : hR S_2075 910 h = (some q_395) := hf_2077.fr (mem_old hm_2011) (fun q9 => (fun e9 => absurd (((kd_nO (k := 10) hq_2061 hm_2011 hk_2012)).symm.trans ((congrArg (hK _) e9).trans (kd_nO' (k := 10)))) (by decide)) q9) (rd_nOR (k := 10) hq_2061 hm_2011 hv_2052)
  have hv_2117 : hR S_2075 911 h = (some q_490) := hf_2077.fr (mem_old hm_2011) (fun q9 => (fun e9 => absurd (((kd_nO (k := 10) hq_2061 hm_2011 hk_2012)).symm.trans ((congrArg (hK _) e9).trans (kd_nO' (k := 10)))) (by decide)) q9) (rd_nOR (k := 10) hq_2061 hm_2011 hv_2053)
  have hv_2118 : hR S_2075 912 h = (some q_529) := hf_2077.fr (mem_old hm_2011) (fun q9 => (fun e9 => absurd (((kd_nO (k := 10) hq_2061 hm_2011 hk_2012)).symm.trans ((congrArg (hK _) e9).trans (kd_nO' (k := 10)))) (by decide)) q9) (rd_nOR (k := 10) hq_2061 hm_2011 hv_2054)
  have hv_2119 : hR S_2075 917 h = (some q_572) := hf_2077.fr (mem_old hm_2011) (fun q9 => (fun e9 => absurd (((kd_nO (k := 10) hq_2061 hm_2011 hk_2012)).symm.trans ((congrArg (hK _) e9).trans (kd_nO' (k := 10)))) (by decide)) q9) (rd_nOR (k := 10) hq_2061 hm_2011 hv_2055)
  have hf_2120 : Fm (fun _ _ => False) (fun f9 b9 => b9 = h) (fun _ => False) S S_2075 := hf_2064.then hf_2077 (fun a9 ha9 => ⟨(fun f9 h9 => (fun h9 => h9.elim (fun h8 => absurd (h8.2 ▸ ha9) hz_2062) (fun h8 => absurd (h8.2 ▸ ha9) hz_2062)) h9), (fun f9 h9 => (fun h8 => absurd (h8 ▸ ha9) hz_2062) h9), (fun h9 => h9.elim)⟩)
  have hN_2121 : NL S [q_1, q_5, q_6, q_37, q_43, q_44, q_45, q_46, q_47, q_48, q_49, q_50, q_118, q_124, q_149, q_169, q_174, q_206, q_212, q_244, q_271, q_302, q_307, q_308, q_309, q_310, q_311, q_312, q_313, q_314, q_395, q_401, q_402, q_403, q_404, q_405, q_406, q_407, q_408, q_490, q_529, q_572, q_621, q_626, q_740, q_745, q_860, q_865, q_980, q_985, q_1100, q_1105, q_1220, q_1225, q_1340, q_1345, q_1460, q_1465, q_1580, q_1585, q_1700, q_1705, q_1820, q_1825, q_1940, q_1945, q_2060] S_2075 := NL.mono (show NL S [q_1, q_5, q_6, q_37, q_43, q_44, q_45, q_46, q_47, q_48, q_49, q_50, q_118, q_124, q_149, q_169, q_174, q_206, q_212, q_244, q_271, q_302, q_307, q_308, q_309, q_310, q_311, q_312, q_313, q_314, q_395, q_401, q_402, q_403, q_404, q_405, q_406, q_407, q_408, q_490, q_529, q_572, q_621, q_626, q_740, q_745, q_860, q_865, q_980, q_985, q_1100, q_1105, q_1220, q_1225, q_1340, q_1345, q_1460, q_1465, q_1580, q_1585, q_1700, q_1705, q_1820, q_1825, q_1940, q_1945, q_2060] (nO S_2008 q_2060 10) from NL.nO hN_2057 hq_2061 hz_2062) (fun a9 h9 => hf_2077.mem h9)
  have hG_2122 : Gs h [(3, [q_1, q_5, q_6]), (4, [q_37, q_43, q_44, q_45, q_46, q_47, q_48, q_49, q_50]), (0, [q_118, q_124]), (1, [q_169, q_174]), (0, [q_206, q_212]), (2, [q_302, q_307, q_308, q_309, q_310, q_311, q_312, q_313, q_314]), (2, [q_395, q_401, q_402, q_403, q_404, q_405, q_406, q_407, q_408]), (1, [q_621, q_626]), (1, [q_740, q_745]), (1, [q_860, q_865]), (1, [q_980, q_985]), (1, [q_1100, q_1105]), (1, [q_1220, q_1225]), (1, [q_1340, q_1345]), (1, [q_1460, q_1465]), (1, [q_1580, q_1585]), (1, [q_1700, q_1705]), (1, [q_1820, q_1825]), (1, [q_1940, q_1945])] S_2075 := Gs.fm (show Gs h [(3, [q_1, q_5, q_6]), (4, [q_37, q_43, q_44, q_45, q_46, q_47, q_48, q_49, q_50]), (0, [q_118, q_124]), (1, [q_169, q_174]), (0, [q_206, q_212]), (2, [q_302, q_307, q_308, q_309, q_310, q_311, q_312, q_313, q_314]), (2, [q_395, q_401, q_402, q_403, q_404, q_405, q_406, q_407, q_408]), (1, [q_621, q_626]), (1, [q_740, q_745]), (1, [q_860, q_865]), (1, [q_980, q_985]), (1, [q_1100, q_1105]), (1, [q_1220, q_1225]), (1, [q_1340, q_1345]), (1, [q_1460, q_1465]), (1, [q_1580, q_1585]), (1, [q_1700, q_1705]), (1, [q_1820, q_1825]), (1, [q_1940, q_1945])] (nO S_2008 q_2060 10) from Gs.nO hG_2058 hq_2061) hf_2077 (fun g9 hg9 p9 hp9 => gn_2063 g9 hg9 p9 hp9)
  have hE_2123 : ELs S_2075 q_149 [q_621, q_740, q_860, q_980, q_1100, q_1220, q_1340, q_1460, q_1580, q_1700, q_1820, q_1940] := ELs.fm (ELs.nO (S := S_2008) hE_2059) hf_2077 (mem_old hm_2013) (fun h9 => h9)
  have hz_2124 : q_2065 ∉ hL S := fun h9 => e_2068 (hf_2064.mem h9)
  have hN_2125 : NL S [q_1, q_5, q_6, q_37, q_43, q_44, q_45, q_46, q_47, q_48, q_49, q_50, q_118, q_124, q_149, q_169, q_174, q_206, q_212, q_244, q_271, q_302, q_307, q_308, q_309, q_310, q_311, q_312, q_313, q_314, q_395, q_401, q_402, q_403, q_404, q_405, q_406, q_407, q_408, q_490, q_529, q_572, q_621, q_626, q_740, q_745, q_860, q_865, q_980, q_985, q_1100, q_1105, q_1220, q_1225, q_1340, q_1345, q_1460, q_1465, q_1580, q_1585, q_1700, q_1705, q_1820, q_1825, q_1940, q_1945, q_2060, q_2065] S_2075 := NL.app (show NL S [q_1, q_5, q_6, q_37, q_43, q_44, q_45, q_46, q_47, q_48, q_49, q_50, q_118, q_124, q_149, q_169, q_174, q_206, q_212, q_244, q_271, q_302, q_307, q_308, q_309, q_310, q_311, q_312, q_313, q_314, q_395, q_401, q_402, q_403, q_404, q_405, q_406, q_407, q_408, q_490, q_529, q_572, q_621, q_626, q_740, q_745, q_860, q_865, q_980, q_985, q_1100, q_1105, q_1220, q_1225, q_1340, q_1345, q_1460, q_1465, q_1580, q_1585, q_1700, q_1705, q_1820, q_1825, q_1940, q_1945, q_2060] (nO S_2008 q_2060 10) from NL.nO hN_2057 hq_2061 hz_2062) hNl_2073 (fun a9 h9 => hf_2077.mem h9) (fun a9 h9 => hf_2064.mem h9)
  have hGt_2126 : Gt 1 [q_2060, q_2065] S_2075 := ⟨fun i9 k9 h9 => (match i9, h9 with | 0, h9 => (by have e9 : (10 : Nat) = k9 := Option.some.inj h9; subst e9; exact ⟨hm_2089, hk_2090⟩) | 1, h9 => (by have e9 : (15 : Nat) = k9 := Option.some.inj h9; subst e9; exact ⟨e_2069, e_2070⟩) | i9 + 2, h9 => absurd h9 (by simp [gT])), (List.forall_mem_cons.mpr ⟨e_2071, (fun _ h9 => absurd h9 List.not_mem_nil)⟩), (List.forall_mem_cons.mpr ⟨e_2072, (fun _ h9 => absurd h9 List.not_mem_nil)⟩), (fun _ h9 => absurd h9 List.not_mem_nil)⟩
  have hG_2127 : Gs h [(3, [q_1, q_5, q_6]), (4, [q_37, q_43, q_44, q_45, q_46, q_47, q_48, q_49, q_50]), (0, [q_118, q_124]), (1, [q_169, q_174]), (0, [q_206, q_212]), (2, [q_302, q_307, q_308, q_309, q_310, q_311, q_312, q_313, q_314]), (2, [q_395, q_401, q_402, q_403, q_404, q_405, q_406, q_407, q_408]), (1, [q_621, q_626]), (1, [q_740, q_745]), (1, [q_860, q_865]), (1, [q_980, q_985]), (1, [q_1100, q_1105]), (1, [q_1220, q_1225]), (1, [q_1340, q_1345]), (1, [q_1460, q_1465]), (1, [q_1580, q_1585]), (1, [q_1700, q_1705]), (1, [q_1820, q_1825]), (1, [q_1940, q_1945]), (1, [q_2060, q_2065])] S_2075 := Gs.snoc hG_2122 (by decide) hGt_2126 (List.forall_mem_cons.mpr ⟨(fun e9 => hz_2062 (e9 ▸ hm)), (fun _ h9 => absurd h9 List.not_mem_nil)⟩)
  refine j_aast (j := 12) (ci := 10) C 20  (by decide) rfl dX9_init_159 hm_2086 hk_2087 (inr_of (n := 16) hn_2088 (vp_lit (by decide))) (by decide) hm_2089 hk_2090 rfl ?_
  have hf_2130 : Fm (fun _ _ => False) (fun f9 b9 => b9 = h) (fun _ => False) S (tR S_2075 q_149 12 (some q_2060)) := (hf_2120.tR _ _ (fun h9 => absurd h9 hz_152))
  obtain ⟨S_2128, eS_2129⟩ : ∃ S9 : Hp, S9 = (tR S_2075 q_149 12 (some q_2060)) := ⟨_, rfl⟩
  refine J.eq (S' := S_2128) eS_2129.symm rfl rfl ?_
  have hm_2131 : h ∈ hL S_2128 := by rw [eS_2129]; exact hm_2084
  have hk_2132 : Kd S_2128 h 9 := by rw [eS_2129]; exact hk_2085
  have hm_2133 : q_149 ∈ hL S_2128 := by rw [eS_2129]; exact hm_2086
  have hk_2134 : Kd S_2128 q_149 20 := by rw [eS_2129]; exact hk_2087
  have hn_2135 : Ln S_2128 q_149 16 := by rw [eS_2129]; exact hn_2088
  have hz_2136 : ∀ j, aI S_2128 q_149 j = 0 := by rw [eS_2129]; exact hz_2078
  have hm_2137 : q_2060 ∈ hL S_2128 := by rw [eS_2129]; exact hm_2089
  have hk_2138 : Kd S_2128 q_2060 10 := by rw [eS_2129]; exact hk_2090
  have hm_2139 : q_244 ∈ hL S_2128 := by rw [eS_2129]; exact hm_2091
  have hk_2140 : Kd S_2128 q_244 13 := by rw [eS_2129]; exact hk_2092
  have hn_2141 : Ln S_2128 q_244 24000 := by rw [eS_2129]; exact hn_2093
  have hz_2142 : ∀ j, aI S_2128 q_244 j = 0 := by rw [eS_2129]; exact hz_2079
  have hm_2143 : q_271 ∈ hL S_2128 := by rw [eS_2129]; exact hm_2094
  have hk_2144 : Kd S_2128 q_271 14 := by rw [eS_2129]; exact hk_2095
  have hn_2145 : Ln S_2128 q_271 16 := by rw [eS_2129]; exact hn_2096
  have hz_2146 : ∀ j, aI S_2128 q_271 j = 0 := by rw [eS_2129]; exact hz_2080
  have hm_2147 : q_490 ∈ hL S_2128 := by rw [eS_2129]; exact hm_2097
  have hk_2148 : Kd S_2128 q_490 18 := by rw [eS_2129]; exact hk_2098
  have hn_2149 : Ln S_2128 q_490 3 := by rw [eS_2129]; exact hn_2099
  have hz_2150 : ∀ j, aI S_2128 q_490 j = 0 := by rw [eS_2129]; exact hz_2081
  have hm_2151 : q_529 ∈ hL S_2128 := by rw [eS_2129]; exact hm_2100
  have hk_2152 : Kd S_2128 q_529 19 := by rw [eS_2129]; exact hk_2101
  have hn_2153 : Ln S_2128 q_529 4 := by rw [eS_2129]; exact hn_2102
  have hz_2154 : ∀ j, aI S_2128 q_529 j = 0 := by rw [eS_2129]; exact hz_2082
  have hm_2155 : q_572 ∈ hL S_2128 := by rw [eS_2129]; exact hm_2103
  have hk_2156 : Kd S_2128 q_572 14 := by rw [eS_2129]; exact hk_2104
  have hn_2157 : Ln S_2128 q_572 12 := by rw [eS_2129]; exact hn_2105
  have hz_2158 : ∀ j, aI S_2128 q_572 j = 0 := by rw [eS_2129]; exact hz_2083
  have hv_2159 : hI S_2128 1000 q_2060 = 1 := by rw [eS_2129]; exact e_2066
  have hv_2160 : hI S_2128 1001 q_2060 = 1 := by rw [eS_2129]; exact e_2067
  have hv_2161 : hR S_2128 1003 q_2060 = (some q_2065) := by rw [eS_2129]; exact e_2072
  have hv_2162 : hR S_2128 900 h = (some s0) := by rw [eS_2129]; exact hv_2106
  have hv_2163 : hR S_2128 901 h = (some q_1) := by rw [eS_2129]; exact hv_2107
  have hv_2164 : hR S_2128 902 h = (some q_37) := by rw [eS_2129]; exact hv_2108
  have hv_2165 : hR S_2128 903 h = (some q_118) := by rw [eS_2129]; exact hv_2109
  have hv_2166 : hR S_2128 904 h = (some q_149) := by rw [eS_2129]; exact hv_2110
  have hv_2167 : hR S_2128 905 h = (some q_169) := by rw [eS_2129]; exact hv_2111
  have hv_2168 : hR S_2128 906 h = (some q_206) := by rw [eS_2129]; exact hv_2112
  have hv_2169 : hR S_2128 907 h = (some q_244) := by rw [eS_2129]; exact hv_2113
  have hv_2170 : hR S_2128 908 h = (some q_271) := by rw [eS_2129]; exact hv_2114
  have hv_2171 : hR S_2128 909 h = (some q_302) := by rw [eS_2129]; exact hv_2115
  have hv_2172 : hR S_2128 910 h = (some q_395) := by rw [eS_2129]; exact hv_2116
  have hv_2173 : hR S_2128 911 h = (some q_490) := by rw [eS_2129]; exact hv_2117
  have hv_2174 : hR S_2128 912 h = (some q_529) := by rw [eS_2129]; exact hv_2118
  have hv_2175 : hR S_2128 917 h = (some q_572) := by rw [eS_2129]; exact hv_2119
  have hf_2176 : Fm (fun _ _ => False) (fun f9 b9 => b9 = h) (fun _ => False) S S_2128 := by rw [eS_2129]; exact hf_2130
  have hN_2177 : NL S [q_1, q_5, q_6, q_37, q_43, q_44, q_45, q_46, q_47, q_48, q_49, q_50, q_118, q_124, q_149, q_169, q_174, q_206, q_212, q_244, q_271, q_302, q_307, q_308, q_309, q_310, q_311, q_312, q_313, q_314, q_395, q_401, q_402, q_403, q_404, q_405, q_406, q_407, q_408, q_490, q_529, q_572, q_621, q_626, q_740, q_745, q_860, q_865, q_980, q_985, q_1100, q_1105, q_1220, q_1225, q_1340, q_1345, q_1460, q_1465, q_1580, q_1585, q_1700, q_1705, q_1820, q_1825, q_1940, q_1945, q_2060, q_2065] S_2128 := by rw [eS_2129]; exact (NL.tR (S := S_2075) hN_2125)
  have hG_2178 : Gs h [(3, [q_1, q_5, q_6]), (4, [q_37, q_43, q_44, q_45, q_46, q_47, q_48, q_49, q_50]), (0, [q_118, q_124]), (1, [q_169, q_174]), (0, [q_206, q_212]), (2, [q_302, q_307, q_308, q_309, q_310, q_311, q_312, q_313, q_314]), (2, [q_395, q_401, q_402, q_403, q_404, q_405, q_406, q_407, q_408]), (1, [q_621, q_626]), (1, [q_740, q_745]), (1, [q_860, q_865]), (1, [q_980, q_985]), (1, [q_1100, q_1105]), (1, [q_1220, q_1225]), (1, [q_1340, q_1345]), (1, [q_1460, q_1465]), (1, [q_1580, q_1585]), (1, [q_1700, q_1705]), (1, [q_1820, q_1825]), (1, [q_1940, q_1945]), (1, [q_2060, q_2065])] S_2128 := by rw [eS_2129]; exact (Gs.tR (S := S_2075) hG_2127)
  have hE_2179 : ELs S_2128 q_149 [q_621, q_740, q_860, q_980, q_1100, q_1220, q_1340, q_1460, q_1580, q_1700, q_1820, q_1940, q_2060] := by rw [eS_2129]; exact (show ELs (tR S_2075 q_149 12 (some q_2060)) q_149 [q_621, q_740, q_860, q_980, q_1100, q_1220, q_1340, q_1460, q_1580, q_1700, q_1820, q_1940, q_2060] from ELs.snoc hE_2123 rfl)
  refine j_iinc (q := 0) (v := 13) (lv' := [(2, .int 13), (0, .ref h), (1, .ref s0)]) C dX9_init_160 rfl (by decide) (by rw [hn9]; decide) rfl ?_
  refine j_goto (tgt := 138) C dX9_init_163 (by decide) ?_
  show J _ _ _ _ _ 138 _
  refine j_iload_n C dX9_init_138 rfl 0 rfl ?_
  refine j_aload_n C dX9_init_139 rfl 1 rfl ?_
  refine j_getr (f := 904) (v := q_149) C flX9_34 dX9_init_140 hm_2131 hk_2132 (by decide) rfl hv_2166 ?_
  refine j_alen (v := 16) C dX9_init_143 hm_2133 hk_2134 (by decide) (by decide) (len_of (n := 16) hn_2135 (by decide)) ?_
  refine j_ic_ge (tgt := 166) C dX9_init_144 (by decide) (fun c9 => absurd c9 (by decide)) (fun c9 => ?_)
  refine j_aload_n C dX9_init_147 rfl 1 rfl ?_
  refine j_getr (f := 904) (v := q_149) C flX9_34 dX9_init_148 hm_2131 hk_2132 (by decide) rfl hv_2166 ?_
  refine j_iload_n C dX9_init_151 rfl 0 rfl ?_
  show J _ _ _ _ _ 152 _
  refine j_new (N := 4) C (ci := 10) rfl rfl klX9_32 knX10 kiX10 (M.cells (by decide)) (M.slots (by decide)) dX9_init_152 (fun q_2180 hq_2181 => ?_)
  have hz_2182 : q_2180 ∉ hL S := fun h9 => hq_2181 (hf_2176.mem h9)
  have gn_2183 : ∀ g9 ∈ ([(3, [q_1, q_5, q_6]), (4, [q_37, q_43, q_44, q_45, q_46, q_47, q_48, q_49, q_50]), (0, [q_118, q_124]), (1, [q_169, q_174]), (0, [q_206, q_212]), (2, [q_302, q_307, q_308, q_309, q_310, q_311, q_312, q_313, q_314]), (2, [q_395, q_401, q_402, q_403, q_404, q_405, q_406, q_407, q_408]), (1, [q_621, q_626]), (1, [q_740, q_745]), (1, [q_860, q_865]), (1, [q_980, q_985]), (1, [q_1100, q_1105]), (1, [q_1220, q_1225]), (1, [q_1340, q_1345]), (1, [q_1460, q_1465]), (1, [q_1580, q_1585]), (1, [q_1700, q_1705]), (1, [q_1820, q_1825]), (1, [q_1940, q_1945]), (1, [q_2060, q_2065])] : List (Nat × List Nat)), ∀ p9 ∈ (gT g9.1).2.2, g9.2.getD p9.2.1 0 ≠ q_2180 := Gs.ne hG_2178 hq_2181
  refine j_dup C dX9_init_155 rfl ?_
  have hf_2184 : Fm (fun _ _ => False) (fun f9 b9 => b9 = h) (fun _ => False) S (nO S_2128 q_2180 10) := (hf_2176.nO _ hq_2181)
  refine j_callI C [] [.ref q_2180, .int 13, .ref q_149] mlX9_38 mcX10_init (c_X10_init (nO S_2128 q_2180 10) q_2180 mem_new (kd_nO' (k := 10))) (M.rm (by decide) (by decide) (Nat.le_of_ble_eq_true rfl) (Nat.le_of_ble_eq_true rfl)) rfl rfl (Nat.le_of_ble_eq_true rfl) dX9_init_156 (fun r_2194 S_2195 hp_2196 => ?_)
  obtain ⟨rfl, hf_2197, e_2186, e_2187, q_2185, e_2188, e_2189, e_2190, e_2191, e_2192, hNl_2193⟩ := hp_2196
  refine J.eq (st' := [.ref q_2180, .int 13, .ref q_149]) rfl rfl rfl ?_
  have hz_2198 : ∀ j, aI S_2195 q_149 j = 0 := fun j9 => (hf_2197.ai (mem_old hm_2133) (fun h9 => h9) j9).trans (hz_2136 j9)
  have hz_2199 : ∀ j, aI S_2195 q_244 j = 0 := fun j9 => (hf_2197.ai (mem_old hm_2139) (fun h9 => h9) j9).trans (hz_2142 j9)
  have hz_2200 : ∀ j, aI S_2195 q_271 j = 0 := fun j9 => (hf_2197.ai (mem_old hm_2143) (fun h9 => h9) j9).trans (hz_2146 j9)
  have hz_2201 : ∀ j, aI S_2195 q_490 j = 0 := fun j9 => (hf_2197.ai (mem_old hm_2147) (fun h9 => h9) j9).trans (hz_2150 j9)
  have hz_2202 : ∀ j, aI S_2195 q_529 j = 0 := fun j9 => (hf_2197.ai (mem_old hm_2151) (fun h9 => h9) j9).trans (hz_2154 j9)
  have hz_2203 : ∀ j, aI S_2195 q_572 j = 0 := fun j9 => (hf_2197.ai (mem_old hm_2155) (fun h9 => h9) j9).trans (hz_2158 j9)
  have hm_2204 : h ∈ hL S_2195 := hf_2197.mem (mem_old hm_2131)
  have hk_2205 : Kd S_2195 h 9 := hf_2197.kd (mem_old hm_2131) (kd_nO (k := 10) hq_2181 hm_2131 hk_2132)
  have hm_2206 : q_149 ∈ hL S_2195 := hf_2197.mem (mem_old hm_2133)
  have hk_2207 : Kd S_2195 q_149 20 := hf_2197.kd (mem_old hm_2133) (kd_nO (k := 10) hq_2181 hm_2133 hk_2134)
  have hn_2208 : Ln S_2195 q_149 16 := hf_2197.ln (mem_old hm_2133) hn_2135
  have hm_2209 : q_2180 ∈ hL S_2195 := hf_2197.mem mem_new
  have hk_2210 : Kd S_2195 q_2180 10 := hf_2197.kd mem_new (kd_nO' (k := 10))
  have hm_2211 : q_244 ∈ hL S_2195 := hf_2197.mem (mem_old hm_2139)
  have hk_2212 : Kd S_2195 q_244 13 := hf_2197.kd (mem_old hm_2139) (kd_nO (k := 10) hq_2181 hm_2139 hk_2140)
  have hn_2213 : Ln S_2195 q_244 24000 := hf_2197.ln (mem_old hm_2139) hn_2141
  have hm_2214 : q_271 ∈ hL S_2195 := hf_2197.mem (mem_old hm_2143)
  have hk_2215 : Kd S_2195 q_271 14 := hf_2197.kd (mem_old hm_2143) (kd_nO (k := 10) hq_2181 hm_2143 hk_2144)
  have hn_2216 : Ln S_2195 q_271 16 := hf_2197.ln (mem_old hm_2143) hn_2145
  have hm_2217 : q_490 ∈ hL S_2195 := hf_2197.mem (mem_old hm_2147)
  have hk_2218 : Kd S_2195 q_490 18 := hf_2197.kd (mem_old hm_2147) (kd_nO (k := 10) hq_2181 hm_2147 hk_2148)
  have hn_2219 : Ln S_2195 q_490 3 := hf_2197.ln (mem_old hm_2147) hn_2149
  have hm_2220 : q_529 ∈ hL S_2195 := hf_2197.mem (mem_old hm_2151)
  have hk_2221 : Kd S_2195 q_529 19 := hf_2197.kd (mem_old hm_2151) (kd_nO (k := 10) hq_2181 hm_2151 hk_2152)
  have hn_2222 : Ln S_2195 q_529 4 := hf_2197.ln (mem_old hm_2151) hn_2153
  have hm_2223 : q_572 ∈ hL S_2195 := hf_2197.mem (mem_old hm_2155)
  have hk_2224 : Kd S_2195 q_572 14 := hf_2197.kd (mem_old hm_2155) (kd_nO (k := 10) hq_2181 hm_2155 hk_2156)
  have hn_2225 : Ln S_2195 q_572 12 := hf_2197.ln (mem_old hm_2155) hn_2157
  have hv_2226 : hR S_2195 900 h = (some s0) := hf_2197.fr (mem_old hm_2131) (fun q9 => (fun e9 => absurd (((kd_nO (k := 10) hq_2181 hm_2131 hk_2132)).symm.trans ((congrArg (hK _) e9).trans (kd_nO' (k := 10)))) (by decide)) q9) (rd_nOR (k := 10) hq_2181 hm_2131 hv_2162)
  have hv_2227 : hR S_2195 901 h = (some q_1) := hf_2197.fr (mem_old hm_2131) (fun q9 => (fun e9 => absurd (((kd_nO (k := 10) hq_2181 hm_2131 hk_2132)).symm.trans ((congrArg (hK _) e9).trans (kd_nO' (k := 10)))) (by decide)) q9) (rd_nOR (k := 10) hq_2181 hm_2131 hv_2163)
  have hv_2228 : hR S_2195 902 h = (some q_37) := hf_2197.fr (mem_old hm_2131) (fun q9 => (fun e9 => absurd (((kd_nO (k := 10) hq_2181 hm_2131 hk_2132)).symm.trans ((congrArg (hK _) e9).trans (kd_nO' (k := 10)))) (by decide)) q9) (rd_nOR (k := 10) hq_2181 hm_2131 hv_2164)
  have hv_2229 : hR S_2195 903 h = (some q_118) := hf_2197.fr (mem_old hm_2131) (fun q9 => (fun e9 => absurd (((kd_nO (k := 10) hq_2181 hm_2131 hk_2132)).symm.trans ((congrArg (hK _) e9).trans (kd_nO' (k := 10)))) (by decide)) q9) (rd_nOR (k := 10) hq_2181 hm_2131 hv_2165)
  have hv_2230 : hR S_2195 904 h = (some q_149) := hf_2197.fr (mem_old hm_2131) (fun q9 => (fun e9 => absurd (((kd_nO (k := 10) hq_2181 hm_2131 hk_2132)).symm.trans ((congrArg (hK _) e9).trans (kd_nO' (k := 10)))) (by decide)) q9) (rd_nOR (k := 10) hq_2181 hm_2131 hv_2166)
  have hv_2231 : hR S_2195 905 h = (some q_169) := hf_2197.fr (mem_old hm_2131) (fun q9 => (fun e9 => absurd (((kd_nO (k := 10) hq_2181 hm_2131 hk_2132)).symm.trans ((congrArg (hK _) e9).trans (kd_nO' (k := 10)))) (by decide)) q9) (rd_nOR (k := 10) hq_2181 hm_2131 hv_2167)
  have hv_2232 : hR S_2195 906 h = (some q_206) := hf_2197.fr (mem_old hm_2131) (fun q9 => (fun e9 => absurd (((kd_nO (k := 10) hq_2181 hm_2131 hk_2132)).symm.trans ((congrArg (hK _) e9).trans (kd_nO' (k := 10)))) (by decide)) q9) (rd_nOR (k := 10) hq_2181 hm_2131 hv_2168)
  have hv_2233 : hR S_2195 907 h = (some q_244) := hf_2197.fr (mem_old hm_2131) (fun q9 => (fun e9 => absurd (((kd_nO (k := 10) hq_2181 hm_2131 hk_2132)).symm.trans ((congrArg (hK _) e9).trans (kd_nO' (k := 10)))) (by decide)) q9) (rd_nOR (k := 10) hq_2181 hm_2131 hv_2169)
  have hv_2234 : hR S_2195 908 h = (some q_271) := hf_2197.fr (mem_old hm_2131) (fun q9 => (fun e9 => absurd (((kd_nO (k := 10) hq_2181 hm_2131 hk_2132)).symm.trans ((congrArg (hK _) e9).trans (kd_nO' (k := 10)))) (by decide)) q9) (rd_nOR (k := 10) hq_2181 hm_2131 hv_2170)
  have hv_2235 : hR S_2195 909 h = (some q_302) := hf_2197.fr (mem_old hm_2131) (fun q9 => (fun e9 => absurd (((kd_nO (k := 10) hq_2181 hm_2131 hk_2132)).symm.trans ((congrArg (hK _) e9).trans (kd_nO' (k := 10)))) (by decide)) q9) (rd_nOR (k := 10) hq_2181 hm_2131 hv_2171)
  have hv_2236 : hR S_2195 910 h = (some q_395) := hf_2197.fr (mem_old hm_2131) (fun q9 => (fun e9 => absurd (((kd_nO (k := 10) hq_2181 hm_2131 hk_2132)).symm.trans ((congrArg (hK _) e9).trans (kd_nO' (k := 10)))) (by decide)) q9) (rd_nOR (k := 10) hq_2181 hm_2131 hv_2172)
  have hv_2237 : hR S_2195 911 h = (some q_490) := hf_2197.fr (mem_old hm_2131) (fun q9 => (fun e9 => absurd (((kd_nO (k := 10) hq_2181 hm_2131 hk_2132)).symm.trans ((congrArg (hK _) e9).trans (kd_nO' (k := 10)))) (by decide)) q9) (rd_nOR (k := 10) hq_2181 hm_2131 hv_2173)
  have hv_2238 : hR S_2195 912 h = (some q_529) := hf_2197.fr (mem_old hm_2131) (fun q9 => (fun e9 => absurd (((kd_nO (k := 10) hq_2181 hm_2131 hk_2132)).symm.trans ((congrArg (hK _) e9).trans (kd_nO' (k := 10)))) (by decide)) q9) (rd_nOR (k := 10) hq_2181 hm_2131 hv_2174)
  have hv_2239 : hR S_2195 917 h = (some q_572) := hf_2197.fr (mem_old hm_2131) (fun q9 => (fun e9 => absurd (((kd_nO (k := 10) hq_2181 hm_2131 hk_2132)).symm.trans ((congrArg (hK _) e9).trans (kd_nO' (k := 10)))) (by decide)) q9) (rd_nOR (k := 10) hq_2181 hm_2131 hv_2175)
  have hf_2240 : Fm (fun _ _ => False) (fun f9 b9 => b9 = h) (fun _ => False) S S_2195 := hf_2184.then hf_2197 (fun a9 ha9 => ⟨(fun f9 h9 => (fun h9 => h9.elim (fun h8 => absurd (h8.2 ▸ ha9) hz_2182) (fun h8 => absurd (h8.2 ▸ ha9) hz_2182)) h9), (fun f9 h9 => (fun h8 => absurd (h8 ▸ ha9) hz_2182) h9), (fun h9 => h9.elim)⟩)
  have hN_2241 : NL S [q_1, q_5, q_6, q_37, q_43, q_44, q_45, q_46, q_47, q_48, q_49, q_50, q_118, q_124, q_149, q_169, q_174, q_206, q_212, q_244, q_271, q_302, q_307, q_308, q_309, q_310, q_311, q_312, q_313, q_314, q_395, q_401, q_402, q_403, q_404, q_405, q_406, q_407, q_408, q_490, q_529, q_572, q_621, q_626, q_740, q_745, q_860, q_865, q_980, q_985, q_1100, q_1105, q_1220, q_1225, q_1340, q_1345, q_1460, q_1465, q_1580, q_1585, q_1700, q_1705, q_1820, q_1825, q_1940, q_1945, q_2060, q_2065, q_2180] S_2195 := NL.mono (show NL S [q_1, q_5, q_6, q_37, q_43, q_44, q_45, q_46, q_47, q_48, q_49, q_50, q_118, q_124, q_149, q_169, q_174, q_206, q_212, q_244, q_271, q_302, q_307, q_308, q_309, q_310, q_311, q_312, q_313, q_314, q_395, q_401, q_402, q_403, q_404, q_405, q_406, q_407, q_408, q_490, q_529, q_572, q_621, q_626, q_740, q_745, q_860, q_865, q_980, q_985, q_1100, q_1105, q_1220, q_1225, q_1340, q_1345, q_1460, q_1465, q_1580, q_1585, q_1700, q_1705, q_1820, q_1825, q_1940, q_1945, q_2060, q_2065, q_2180] (nO S_2128 q_2180 10) from NL.nO hN_2177 hq_2181 hz_2182) (fun a9 h9 => hf_2197.mem h9)
  have hG_2242 : Gs h [(3, [q_1, q_5, q_6]), (4, [q_37, q_43, q_44, q_45, q_46, q_47, q_48, q_49, q_50]), (0, [q_118, q_124]), (1, [q_169, q_174]), (0, [q_206, q_212]), (2, [q_302, q_307, q_308, q_309, q_310, q_311, q_312, q_313, q_314]), (2, [q_395, q_401, q_402, q_403, q_404, q_405, q_406, q_407, q_408]), (1, [q_621, q_626]), (1, [q_740, q_745]), (1, [q_860, q_865]), (1, [q_980, q_985]), (1, [q_1100, q_1105]), (1, [q_1220, q_1225]), (1, [q_1340, q_1345]), (1, [q_1460, q_1465]), (1, [q_1580, q_1585]), (1, [q_1700, q_1705]), (1, [q_1820, q_1825]), (1, [q_1940, q_1945]), (1, [q_2060, q_2065])] S_2195 := Gs.fm (show Gs h [(3, [q_1, q_5, q_6]), (4, [q_37, q_43, q_44, q_45, q_46, q_47, q_48, q_49, q_50]), (0, [q_118, q_124]), (1, [q_169, q_174]), (0, [q_206, q_212]), (2, [q_302, q_307, q_308, q_309, q_310, q_311, q_312, q_313, q_314]), (2, [q_395, q_401, q_402, q_403, q_404, q_405, q_406, q_407, q_408]), (1, [q_621, q_626]), (1, [q_740, q_745]), (1, [q_860, q_865]), (1, [q_980, q_985]), (1, [q_1100, q_1105]), (1, [q_1220, q_1225]), (1, [q_1340, q_1345]), (1, [q_1460, q_1465]), (1, [q_1580, q_1585]), (1, [q_1700, q_1705]), (1, [q_1820, q_1825]), (1, [q_1940, q_1945]), (1, [q_2060, q_2065])] (nO S_2128 q_2180 10) from Gs.nO hG_2178 hq_2181) hf_2197 (fun g9 hg9 p9 hp9 => gn_2183 g9 hg9 p9 hp9)
  have hE_2243 : ELs S_2195 q_149 [q_621, q_740, q_860, q_980, q_1100, q_1220, q_1340, q_1460, q_1580, q_1700, q_1820, q_1940, q_2060] := ELs.fm (ELs.nO (S := S_2128) hE_2179) hf_2197 (mem_old hm_2133) (fun h9 => h9)
  have hz_2244 : q_2185 ∉ hL S := fun h9 => e_2188 (hf_2184.mem h9)
  have hN_2245 : NL S [q_1, q_5, q_6, q_37, q_43, q_44, q_45, q_46, q_47, q_48, q_49, q_50, q_118, q_124, q_149, q_169, q_174, q_206, q_212, q_244, q_271, q_302, q_307, q_308, q_309, q_310, q_311, q_312, q_313, q_314, q_395, q_401, q_402, q_403, q_404, q_405, q_406, q_407, q_408, q_490, q_529, q_572, q_621, q_626, q_740, q_745, q_860, q_865, q_980, q_985, q_1100, q_1105, q_1220, q_1225, q_1340, q_1345, q_1460, q_1465, q_1580, q_1585, q_1700, q_1705, q_1820, q_1825, q_1940, q_1945, q_2060, q_2065, q_2180, q_2185] S_2195 := NL.app (show NL S [q_1, q_5, q_6, q_37, q_43, q_44, q_45, q_46, q_47, q_48, q_49, q_50, q_118, q_124, q_149, q_169, q_174, q_206, q_212, q_244, q_271, q_302, q_307, q_308, q_309, q_310, q_311, q_312, q_313, q_314, q_395, q_401, q_402, q_403, q_404, q_405, q_406, q_407, q_408, q_490, q_529, q_572, q_621, q_626, q_740, q_745, q_860, q_865, q_980, q_985, q_1100, q_1105, q_1220, q_1225, q_1340, q_1345, q_1460, q_1465, q_1580, q_1585, q_1700, q_1705, q_1820, q_1825, q_1940, q_1945, q_2060, q_2065, q_2180] (nO S_2128 q_2180 10) from NL.nO hN_2177 hq_2181 hz_2182) hNl_2193 (fun a9 h9 => hf_2197.mem h9) (fun a9 h9 => hf_2184.mem h9)
  have hGt_2246 : Gt 1 [q_2180, q_2185] S_2195 := ⟨fun i9 k9 h9 => (match i9, h9 with | 0, h9 => (by have e9 : (10 : Nat) = k9 := Option.some.inj h9; subst e9; exact ⟨hm_2209, hk_2210⟩) | 1, h9 => (by have e9 : (15 : Nat) = k9 := Option.some.inj h9; subst e9; exact ⟨e_2189, e_2190⟩) | i9 + 2, h9 => absurd h9 (by simp [gT])), (List.forall_mem_cons.mpr ⟨e_2191, (fun _ h9 => absurd h9 List.not_mem_nil)⟩), (List.forall_mem_cons.mpr ⟨e_2192, (fun _ h9 => absurd h9 List.not_mem_nil)⟩), (fun _ h9 => absurd h9 List.not_mem_nil)⟩
  have hG_2247 : Gs h [(3, [q_1, q_5, q_6]), (4, [q_37, q_43, q_44, q_45, q_46, q_47, q_48, q_49, q_50]), (0, [q_118, q_124]), (1, [q_169, q_174]), (0, [q_206, q_212]), (2, [q_302, q_307, q_308, q_309, q_310, q_311, q_312, q_313, q_314]), (2, [q_395, q_401, q_402, q_403, q_404, q_405, q_406, q_407, q_408]), (1, [q_621, q_626]), (1, [q_740, q_745]), (1, [q_860, q_865]), (1, [q_980, q_985]), (1, [q_1100, q_1105]), (1, [q_1220, q_1225]), (1, [q_1340, q_1345]), (1, [q_1460, q_1465]), (1, [q_1580, q_1585]), (1, [q_1700, q_1705]), (1, [q_1820, q_1825]), (1, [q_1940, q_1945]), (1, [q_2060, q_2065]), (1, [q_2180, q_2185])] S_2195 := Gs.snoc hG_2242 (by decide) hGt_2246 (List.forall_mem_cons.mpr ⟨(fun e9 => hz_2182 (e9 ▸ hm)), (fun _ h9 => absurd h9 List.not_mem_nil)⟩)
  refine j_aast (j := 13) (ci := 10) C 20  (by decide) rfl dX9_init_159 hm_2206 hk_2207 (inr_of (n := 16) hn_2208 (vp_lit (by decide))) (by decide) hm_2209 hk_2210 rfl ?_
  have hf_2250 : Fm (fun _ _ => False) (fun f9 b9 => b9 = h) (fun _ => False) S (tR S_2195 q_149 13 (some q_2180)) := (hf_2240.tR _ _ (fun h9 => absurd h9 hz_152))
  obtain ⟨S_2248, eS_2249⟩ : ∃ S9 : Hp, S9 = (tR S_2195 q_149 13 (some q_2180)) := ⟨_, rfl⟩
  refine J.eq (S' := S_2248) eS_2249.symm rfl rfl ?_
  have hm_2251 : h ∈ hL S_2248 := by rw [eS_2249]; exact hm_2204
  have hk_2252 : Kd S_2248 h 9 := by rw [eS_2249]; exact hk_2205
  have hm_2253 : q_149 ∈ hL S_2248 := by rw [eS_2249]; exact hm_2206
  have hk_2254 : Kd S_2248 q_149 20 := by rw [eS_2249]; exact hk_2207
  have hn_2255 : Ln S_2248 q_149 16 := by rw [eS_2249]; exact hn_2208
  have hz_2256 : ∀ j, aI S_2248 q_149 j = 0 := by rw [eS_2249]; exact hz_2198
  have hm_2257 : q_2180 ∈ hL S_2248 := by rw [eS_2249]; exact hm_2209
  have hk_2258 : Kd S_2248 q_2180 10 := by rw [eS_2249]; exact hk_2210
  have hm_2259 : q_244 ∈ hL S_2248 := by rw [eS_2249]; exact hm_2211
  have hk_2260 : Kd S_2248 q_244 13 := by rw [eS_2249]; exact hk_2212
  have hn_2261 : Ln S_2248 q_244 24000 := by rw [eS_2249]; exact hn_2213
  have hz_2262 : ∀ j, aI S_2248 q_244 j = 0 := by rw [eS_2249]; exact hz_2199
  have hm_2263 : q_271 ∈ hL S_2248 := by rw [eS_2249]; exact hm_2214
  have hk_2264 : Kd S_2248 q_271 14 := by rw [eS_2249]; exact hk_2215
  have hn_2265 : Ln S_2248 q_271 16 := by rw [eS_2249]; exact hn_2216
  have hz_2266 : ∀ j, aI S_2248 q_271 j = 0 := by rw [eS_2249]; exact hz_2200
  have hm_2267 : q_490 ∈ hL S_2248 := by rw [eS_2249]; exact hm_2217
  have hk_2268 : Kd S_2248 q_490 18 := by rw [eS_2249]; exact hk_2218
  have hn_2269 : Ln S_2248 q_490 3 := by rw [eS_2249]; exact hn_2219
  have hz_2270 : ∀ j, aI S_2248 q_490 j = 0 := by rw [eS_2249]; exact hz_2201
  have hm_2271 : q_529 ∈ hL S_2248 := by rw [eS_2249]; exact hm_2220
  have hk_2272 : Kd S_2248 q_529 19 := by rw [eS_2249]; exact hk_2221
  have hn_2273 : Ln S_2248 q_529 4 := by rw [eS_2249]; exact hn_2222
  have hz_2274 : ∀ j, aI S_2248 q_529 j = 0 := by rw [eS_2249]; exact hz_2202
  have hm_2275 : q_572 ∈ hL S_2248 := by rw [eS_2249]; exact hm_2223
  have hk_2276 : Kd S_2248 q_572 14 := by rw [eS_2249]; exact hk_2224
  have hn_2277 : Ln S_2248 q_572 12 := by rw [eS_2249]; exact hn_2225
  have hz_2278 : ∀ j, aI S_2248 q_572 j = 0 := by rw [eS_2249]; exact hz_2203
  have hv_2279 : hI S_2248 1000 q_2180 = 1 := by rw [eS_2249]; exact e_2186
  have hv_2280 : hI S_2248 1001 q_2180 = 1 := by rw [eS_2249]; exact e_2187
  have hv_2281 : hR S_2248 1003 q_2180 = (some q_2185) := by rw [eS_2249]; exact e_2192
  have hv_2282 : hR S_2248 900 h = (some s0) := by rw [eS_2249]; exact hv_2226
  have hv_2283 : hR S_2248 901 h = (some q_1) := by rw [eS_2249]; exact hv_2227
  have hv_2284 : hR S_2248 902 h = (some q_37) := by rw [eS_2249]; exact hv_2228
  have hv_2285 : hR S_2248 903 h = (some q_118) := by rw [eS_2249]; exact hv_2229
  have hv_2286 : hR S_2248 904 h = (some q_149) := by rw [eS_2249]; exact hv_2230
  have hv_2287 : hR S_2248 905 h = (some q_169) := by rw [eS_2249]; exact hv_2231
  have hv_2288 : hR S_2248 906 h = (some q_206) := by rw [eS_2249]; exact hv_2232
  have hv_2289 : hR S_2248 907 h = (some q_244) := by rw [eS_2249]; exact hv_2233
  have hv_2290 : hR S_2248 908 h = (some q_271) := by rw [eS_2249]; exact hv_2234
  have hv_2291 : hR S_2248 909 h = (some q_302) := by rw [eS_2249]; exact hv_2235
  have hv_2292 : hR S_2248 910 h = (some q_395) := by rw [eS_2249]; exact hv_2236
  have hv_2293 : hR S_2248 911 h = (some q_490) := by rw [eS_2249]; exact hv_2237
  have hv_2294 : hR S_2248 912 h = (some q_529) := by rw [eS_2249]; exact hv_2238
  have hv_2295 : hR S_2248 917 h = (some q_572) := by rw [eS_2249]; exact hv_2239
  have hf_2296 : Fm (fun _ _ => False) (fun f9 b9 => b9 = h) (fun _ => False) S S_2248 := by rw [eS_2249]; exact hf_2250
  have hN_2297 : NL S [q_1, q_5, q_6, q_37, q_43, q_44, q_45, q_46, q_47, q_48, q_49, q_50, q_118, q_124, q_149, q_169, q_174, q_206, q_212, q_244, q_271, q_302, q_307, q_308, q_309, q_310, q_311, q_312, q_313, q_314, q_395, q_401, q_402, q_403, q_404, q_405, q_406, q_407, q_408, q_490, q_529, q_572, q_621, q_626, q_740, q_745, q_860, q_865, q_980, q_985, q_1100, q_1105, q_1220, q_1225, q_1340, q_1345, q_1460, q_1465, q_1580, q_1585, q_1700, q_1705, q_1820, q_1825, q_1940, q_1945, q_2060, q_2065, q_2180, q_2185] S_2248 := by rw [eS_2249]; exact (NL.tR (S := S_2195) hN_2245)
  have hG_2298 : Gs h [(3, [q_1, q_5, q_6]), (4, [q_37, q_43, q_44, q_45, q_46, q_47, q_48, q_49, q_50]), (0, [q_118, q_124]), (1, [q_169, q_174]), (0, [q_206, q_212]), (2, [q_302, q_307, q_308, q_309, q_310, q_311, q_312, q_313, q_314]), (2, [q_395, q_401, q_402, q_403, q_404, q_405, q_406, q_407, q_408]), (1, [q_621, q_626]), (1, [q_740, q_745]), (1, [q_860, q_865]), (1, [q_980, q_985]), (1, [q_1100, q_1105]), (1, [q_1220, q_1225]), (1, [q_1340, q_1345]), (1, [q_1460, q_1465]), (1, [q_1580, q_1585]), (1, [q_1700, q_1705]), (1, [q_1820, q_1825]), (1, [q_1940, q_1945]), (1, [q_2060, q_2065]), (1, [q_2180, q_2185])] S_2248 := by rw [eS_2249]; exact (Gs.tR (S := S_2195) hG_2247)
  have hE_2299 : ELs S_2248 q_149 [q_621, q_740, q_860, q_980, q_1100, q_1220, q_1340, q_1460, q_1580, q_1700, q_1820, q_1940, q_2060, q_2180] := by rw [eS_2249]; exact (show ELs (tR S_2195 q_149 13 (some q_2180)) q_149 [q_621, q_740, q_860, q_980, q_1100, q_1220, q_1340, q_1460, q_1580, q_1700, q_1820, q_1940, q_2060, q_2180] from ELs.snoc hE_2243 rfl)
  refine j_iinc (q := 0) (v := 14) (lv' := [(2, .int 14), (0, .ref h), (1, .ref s0)]) C dX9_init_160 rfl (by decide) (by rw [hn9]; decide) rfl ?_
  refine j_goto (tgt := 138) C dX9_init_163 (by decide) ?_
  refine j_iload_n C dX9_init_138 rfl 0 rfl ?_
  refine j_aload_n C dX9_init_139 rfl 1 rfl ?_
  show J _ _ _ _ _ 140 _
  refine j_getr (f := 904) (v := q_149) C flX9_34 dX9_init_140 hm_2251 hk_2252 (by decide) rfl hv_2286 ?_
  refine j_alen (v := 16) C dX9_init_143 hm_2253 hk_2254 (by decide) (by decide) (len_of (n := 16) hn_2255 (by decide)) ?_
  refine j_ic_ge (tgt := 166) C dX9_init_144 (by decide) (fun c9 => absurd c9 (by decide)) (fun c9 => ?_)
  refine j_aload_n C dX9_init_147 rfl 1 rfl ?_
  refine j_getr (f := 904) (v := q_149) C flX9_34 dX9_init_148 hm_2251 hk_2252 (by decide) rfl hv_2286 ?_
  refine j_iload_n C dX9_init_151 rfl 0 rfl ?_
  refine j_new (N := 4) C (ci := 10) rfl rfl klX9_32 knX10 kiX10 (M.cells (by decide)) (M.slots (by decide)) dX9_init_152 (fun q_2300 hq_2301 => ?_)
  have hz_2302 : q_2300 ∉ hL S := fun h9 => hq_2301 (hf_2296.mem h9)
  have gn_2303 : ∀ g9 ∈ ([(3, [q_1, q_5, q_6]), (4, [q_37, q_43, q_44, q_45, q_46, q_47, q_48, q_49, q_50]), (0, [q_118, q_124]), (1, [q_169, q_174]), (0, [q_206, q_212]), (2, [q_302, q_307, q_308, q_309, q_310, q_311, q_312, q_313, q_314]), (2, [q_395, q_401, q_402, q_403, q_404, q_405, q_406, q_407, q_408]), (1, [q_621, q_626]), (1, [q_740, q_745]), (1, [q_860, q_865]), (1, [q_980, q_985]), (1, [q_1100, q_1105]), (1, [q_1220, q_1225]), (1, [q_1340, q_1345]), (1, [q_1460, q_1465]), (1, [q_1580, q_1585]), (1, [q_1700, q_1705]), (1, [q_1820, q_1825]), (1, [q_1940, q_1945]), (1, [q_2060, q_2065]), (1, [q_2180, q_2185])] : List (Nat × List Nat)), ∀ p9 ∈ (gT g9.1).2.2, g9.2.getD p9.2.1 0 ≠ q_2300 := Gs.ne hG_2298 hq_2301
  refine j_dup C dX9_init_155 rfl ?_
  show J _ _ _ _ _ 156 _
  have hf_2304 : Fm (fun _ _ => False) (fun f9 b9 => b9 = h) (fun _ => False) S (nO S_2248 q_2300 10) := (hf_2296.nO _ hq_2301)
  refine j_callI C [] [.ref q_2300, .int 14, .ref q_149] mlX9_38 mcX10_init (c_X10_init (nO S_2248 q_2300 10) q_2300 mem_new (kd_nO' (k := 10))) (M.rm (by decide) (by decide) (Nat.le_of_ble_eq_true rfl) (Nat.le_of_ble_eq_true rfl)) rfl rfl (Nat.le_of_ble_eq_true rfl) dX9_init_156 (fun r_2314 S_2315 hp_2316 => ?_)
  obtain ⟨rfl, hf_2317, e_2306, e_2307, q_2305, e_2308, e_2309, e_2310, e_2311, e_2312, hNl_2313⟩ := hp_2316
  refine J.eq (st' := [.ref q_2300, .int 14, .ref q_149]) rfl rfl rfl ?_
  have hz_2318 : ∀ j, aI S_2315 q_149 j = 0 := fun j9 => (hf_2317.ai (mem_old hm_2253) (fun h9 => h9) j9).trans (hz_2256 j9)
  have hz_2319 : ∀ j, aI S_2315 q_244 j = 0 := fun j9 => (hf_2317.ai (mem_old hm_2259) (fun h9 => h9) j9).trans (hz_2262 j9)
  have hz_2320 : ∀ j, aI S_2315 q_271 j = 0 := fun j9 => (hf_2317.ai (mem_old hm_2263) (fun h9 => h9) j9).trans (hz_2266 j9)
  have hz_2321 : ∀ j, aI S_2315 q_490 j = 0 := fun j9 => (hf_2317.ai (mem_old hm_2267) (fun h9 => h9) j9).trans (hz_2270 j9)
  have hz_2322 : ∀ j, aI S_2315 q_529 j = 0 := fun j9 => (hf_2317.ai (mem_old hm_2271) (fun h9 => h9) j9).trans (hz_2274 j9)
  have hz_2323 : ∀ j, aI S_2315 q_572 j = 0 := fun j9 => (hf_2317.ai (mem_old hm_2275) (fun h9 => h9) j9).trans (hz_2278 j9)
  have hm_2324 : h ∈ hL S_2315 := hf_2317.mem (mem_old hm_2251)
  have hk_2325 : Kd S_2315 h 9 := hf_2317.kd (mem_old hm_2251) (kd_nO (k := 10) hq_2301 hm_2251 hk_2252)
  have hm_2326 : q_149 ∈ hL S_2315 := hf_2317.mem (mem_old hm_2253)
  have hk_2327 : Kd S_2315 q_149 20 := hf_2317.kd (mem_old hm_2253) (kd_nO (k := 10) hq_2301 hm_2253 hk_2254)
  have hn_2328 : Ln S_2315 q_149 16 := hf_2317.ln (mem_old hm_2253) hn_2255
  have hm_2329 : q_2300 ∈ hL S_2315 := hf_2317.mem mem_new
  have hk_2330 : Kd S_2315 q_2300 10 := hf_2317.kd mem_new (kd_nO' (k := 10))
  have hm_2331 : q_244 ∈ hL S_2315 := hf_2317.mem (mem_old hm_2259)
  have hk_2332 : Kd S_2315 q_244 13 := hf_2317.kd (mem_old hm_2259) (kd_nO (k := 10) hq_2301 hm_2259 hk_2260)
  have hn_2333 : Ln S_2315 q_244 24000 := hf_2317.ln (mem_old hm_2259) hn_2261
  have hm_2334 : q_271 ∈ hL S_2315 := hf_2317.mem (mem_old hm_2263)
  have hk_2335 : Kd S_2315 q_271 14 := hf_2317.kd (mem_old hm_2263) (kd_nO (k := 10) hq_2301 hm_2263 hk_2264)
  have hn_2336 : Ln S_2315 q_271 16 := hf_2317.ln (mem_old hm_2263) hn_2265
  have hm_2337 : q_490 ∈ hL S_2315 := hf_2317.mem (mem_old hm_2267)
  have hk_2338 : Kd S_2315 q_490 18 := hf_2317.kd (mem_old hm_2267) (kd_nO (k := 10) hq_2301 hm_2267 hk_2268)
  have hn_2339 : Ln S_2315 q_490 3 := hf_2317.ln (mem_old hm_2267) hn_2269
  have hm_2340 : q_529 ∈ hL S_2315 := hf_2317.mem (mem_old hm_2271)
  have hk_2341 : Kd S_2315 q_529 19 := hf_2317.kd (mem_old hm_2271) (kd_nO (k := 10) hq_2301 hm_2271 hk_2272)
  have hn_2342 : Ln S_2315 q_529 4 := hf_2317.ln (mem_old hm_2271) hn_2273
  have hm_2343 : q_572 ∈ hL S_2315 := hf_2317.mem (mem_old hm_2275)
  have hk_2344 : Kd S_2315 q_572 14 := hf_2317.kd (mem_old hm_2275) (kd_nO (k := 10) hq_2301 hm_2275 hk_2276)
  have hn_2345 : Ln S_2315 q_572 12 := hf_2317.ln (mem_old hm_2275) hn_2277
  have hv_2346 : hR S_2315 900 h = (some s0) := hf_2317.fr (mem_old hm_2251) (fun q9 => (fun e9 => absurd (((kd_nO (k := 10) hq_2301 hm_2251 hk_2252)).symm.trans ((congrArg (hK _) e9).trans (kd_nO' (k := 10)))) (by decide)) q9) (rd_nOR (k := 10) hq_2301 hm_2251 hv_2282)
  have hv_2347 : hR S_2315 901 h = (some q_1) := hf_2317.fr (mem_old hm_2251) (fun q9 => (fun e9 => absurd (((kd_nO (k := 10) hq_2301 hm_2251 hk_2252)).symm.trans ((congrArg (hK _) e9).trans (kd_nO' (k := 10)))) (by decide)) q9) (rd_nOR (k := 10) hq_2301 hm_2251 hv_2283)
  have hv_2348 : hR S_2315 902 h = (some q_37) := hf_2317.fr (mem_old hm_2251) (fun q9 => (fun e9 => absurd (((kd_nO (k := 10) hq_2301 hm_2251 hk_2252)).symm.trans ((congrArg (hK _) e9).trans (kd_nO' (k := 10)))) (by decide)) q9) (rd_nOR (k := 10) hq_2301 hm_2251 hv_2284)
  have hv_2349 : hR S_2315 903 h = (some q_118) := hf_2317.fr (mem_old hm_2251) (fun q9 => (fun e9 => absurd (((kd_nO (k := 10) hq_2301 hm_2251 hk_2252)).symm.trans ((congrArg (hK _) e9).trans (kd_nO' (k := 10)))) (by decide)) q9) (rd_nOR (k := 10) hq_2301 hm_2251 hv_2285)
  have hv_2350 : hR S_2315 904 h = (some q_149) := hf_2317.fr (mem_old hm_2251) (fun q9 => (fun e9 => absurd (((kd_nO (k := 10) hq_2301 hm_2251 hk_2252)).symm.trans ((congrArg (hK _) e9).trans (kd_nO' (k := 10)))) (by decide)) q9) (rd_nOR (k := 10) hq_2301 hm_2251 hv_2286)
  have hv_2351 : hR S_2315 905 h = (some q_169) := hf_2317.fr (mem_old hm_2251) (fun q9 => (fun e9 => absurd (((kd_nO (k := 10) hq_2301 hm_2251 hk_2252)).symm.trans ((congrArg (hK _) e9).trans (kd_nO' (k := 10)))) (by decide)) q9) (rd_nOR (k := 10) hq_2301 hm_2251 hv_2287)
  have hv_2352 : hR S_2315 906 h = (some q_206) := hf_2317.fr (mem_old hm_2251) (fun q9 => (fun e9 => absurd (((kd_nO (k := 10) hq_2301 hm_2251 hk_2252)).symm.trans ((congrArg (hK _) e9).trans (kd_nO' (k := 10)))) (by decide)) q9) (rd_nOR (k := 10) hq_2301 hm_2251 hv_2288)
  have hv_2353 : hR S_2315 907 h = (some q_244) := hf_2317.fr (mem_old hm_2251) (fun q9 => (fun e9 => absurd (((kd_nO (k := 10) hq_2301 hm_2251 hk_2252)).symm.trans ((congrArg (hK _) e9).trans (kd_nO' (k := 10)))) (by decide)) q9) (rd_nOR (k := 10) hq_2301 hm_2251 hv_2289)
  have hv_2354 : hR S_2315 908 h = (some q_271) := hf_2317.fr (mem_old hm_2251) (fun q9 => (fun e9 => absurd (((kd_nO (k := 10) hq_2301 hm_2251 hk_2252)).symm.trans ((congrArg (hK _) e9).trans (kd_nO' (k := 10)))) (by decide)) q9) (rd_nOR (k := 10) hq_2301 hm_2251 hv_2290)
  have hv_2355 : hR S_2315 909 h = (some q_302) := hf_2317.fr (mem_old hm_2251) (fun q9 => (fun e9 => absurd (((kd_nO (k := 10) hq_2301 hm_2251 hk_2252)).symm.trans ((congrArg (hK _) e9).trans (kd_nO' (k := 10)))) (by decide)) q9) (rd_nOR (k := 10) hq_2301 hm_2251 hv_2291)
  have hv_2356 : hR S_2315 910 h = (some q_395) := hf_2317.fr (mem_old hm_2251) (fun q9 => (fun e9 => absurd (((kd_nO (k := 10) hq_2301 hm_2251 hk_2252)).symm.trans ((congrArg (hK _) e9).trans (kd_nO' (k := 10)))) (by decide)) q9) (rd_nOR (k := 10) hq_2301 hm_2251 hv_2292)
  have hv_2357 : hR S_2315 911 h = (some q_490) := hf_2317.fr (mem_old hm_2251) (fun q9 => (fun e9 => absurd (((kd_nO (k := 10) hq_2301 hm_2251 hk_2252)).symm.trans ((congrArg (hK _) e9).trans (kd_nO' (k := 10)))) (by decide)) q9) (rd_nOR (k := 10) hq_2301 hm_2251 hv_2293)
  have hv_2358 : hR S_2315 912 h = (some q_529) := hf_2317.fr (mem_old hm_2251) (fun q9 => (fun e9 => absurd (((kd_nO (k := 10) hq_2301 hm_2251 hk_2252)).symm.trans ((congrArg (hK _) e9).trans (kd_nO' (k := 10)))) (by decide)) q9) (rd_nOR (k := 10) hq_2301 hm_2251 hv_2294)
  have hv_2359 : hR S_2315 917 h = (some q_572) := hf_2317.fr (mem_old hm_2251) (fun q9 => (fun e9 => absurd (((kd_nO (k := 10) hq_2301 hm_2251 hk_2252)).symm.trans ((congrArg (hK _) e9).trans (kd_nO' (k := 10)))) (by decide)) q9) (rd_nOR (k := 10) hq_2301 hm_2251 hv_2295)
  have hf_2360 : Fm (fun _ _ => False) (fun f9 b9 => b9 = h) (fun _ => False) S S_2315 := hf_2304.then hf_2317 (fun a9 ha9 => ⟨(fun f9 h9 => (fun h9 => h9.elim (fun h8 => absurd (h8.2 ▸ ha9) hz_2302) (fun h8 => absurd (h8.2 ▸ ha9) hz_2302)) h9), (fun f9 h9 => (fun h8 => absurd (h8 ▸ ha9) hz_2302) h9), (fun h9 => h9.elim)⟩)
  have hN_2361 : NL S [q_1, q_5, q_6, q_37, q_43, q_44, q_45, q_46, q_47, q_48, q_49, q_50, q_118, q_124, q_149, q_169, q_174, q_206, q_212, q_244, q_271, q_302, q_307, q_308, q_309, q_310, q_311, q_312, q_313, q_314, q_395, q_401, q_402, q_403, q_404, q_405, q_406, q_407, q_408, q_490, q_529, q_572, q_621, q_626, q_740, q_745, q_860, q_865, q_980, q_985, q_1100, q_1105, q_1220, q_1225, q_1340, q_1345, q_1460, q_1465, q_1580, q_1585, q_1700, q_1705, q_1820, q_1825, q_1940, q_1945, q_2060, q_2065, q_2180, q_2185, q_2300] S_2315 := NL.mono (show NL S [q_1, q_5, q_6, q_37, q_43, q_44, q_45, q_46, q_47, q_48, q_49, q_50, q_118, q_124, q_149, q_169, q_174, q_206, q_212, q_244, q_271, q_302, q_307, q_308, q_309, q_310, q_311, q_312, q_313, q_314, q_395, q_401, q_402, q_403, q_404, q_405, q_406, q_407, q_408, q_490, q_529, q_572, q_621, q_626, q_740, q_745, q_860, q_865, q_980, q_985, q_1100, q_1105, q_1220, q_1225, q_1340, q_1345, q_1460, q_1465, q_1580, q_1585, q_1700, q_1705, q_1820, q_1825, q_1940, q_1945, q_2060, q_2065, q_2180, q_2185, q_2300] (nO S_2248 q_2300 10) from NL.nO hN_2297 hq_2301 hz_2302) (fun a9 h9 => hf_2317.mem h9)
  have hG_2362 : Gs h [(3, [q_1, q_5, q_6]), (4, [q_37, q_43, q_44, q_45, q_46, q_47, q_48, q_49, q_50]), (0, [q_118, q_124]), (1, [q_169, q_174]), (0, [q_206, q_212]), (2, [q_302, q_307, q_308, q_309, q_310, q_311, q_312, q_313, q_314]), (2, [q_395, q_401, q_402, q_403, q_404, q_405, q_406, q_407, q_408]), (1, [q_621, q_626]), (1, [q_740, q_745]), (1, [q_860, q_865]), (1, [q_980, q_985]), (1, [q_1100, q_1105]), (1, [q_1220, q_1225]), (1, [q_1340, q_1345]), (1, [q_1460, q_1465]), (1, [q_1580, q_1585]), (1, [q_1700, q_1705]), (1, [q_1820, q_1825]), (1, [q_1940, q_1945]), (1, [q_2060, q_2065]), (1, [q_2180, q_2185])] S_2315 := Gs.fm (show Gs h [(3, [q_1, q_5, q_6]), (4, [q_37, q_43, q_44, q_45, q_46, q_47, q_48, q_49, q_50]), (0, [q_118, q_124]), (1, [q_169, q_174]), (0, [q_206, q_212]), (2, [q_302, q_307, q_308, q_309, q_310, q_311, q_312, q_313, q_314]), (2, [q_395, q_401, q_402, q_403, q_404, q_405, q_406, q_407, q_408]), (1, [q_621, q_626]), (1, [q_740, q_745]), (1, [q_860, q_865]), (1, [q_980, q_985]), (1, [q_1100, q_1105]), (1, [q_1220, q_1225]), (1, [q_1340, q_1345]), (1, [q_1460, q_1465]), (1, [q_1580, q_1585]), (1, [q_1700, q_1705]), (1, [q_1820, q_1825]), (1, [q_1940, q_1945]), (1, [q_2060, q_2065]), (1, [q_2180, q_2185])] (nO S_2248 q_2300 10) from Gs.nO hG_2298 hq_2301) hf_2317 (fun g9 hg9 p9 hp9 => gn_2303 g9 hg9 p9 hp9)
  have hE_2363 : ELs S_2315 q_149 [q_621, q_740, q_860, q_980, q_1100, q_1220, q_1340, q_1460, q_1580, q_1700, q_1820, q_1940, q_2060, q_2180] := ELs.fm (ELs.nO (S := S_2248) hE_2299) hf_2317 (mem_old hm_2253) (fun h9 => h9)
  have hz_2364 : q_2305 ∉ hL S := fun h9 => e_2308 (hf_2304.mem h9)
  have hN_2365 : NL S [q_1, q_5, q_6, q_37, q_43, q_44, q_45, q_46, q_47, q_48, q_49, q_50, q_118, q_124, q_149, q_169, q_174, q_206, q_212, q_244, q_271, q_302, q_307, q_308, q_309, q_310, q_311, q_312, q_313, q_314, q_395, q_401, q_402, q_403, q_404, q_405, q_406, q_407, q_408, q_490, q_529, q_572, q_621, q_626, q_740, q_745, q_860, q_865, q_980, q_985, q_1100, q_1105, q_1220, q_1225, q_1340, q_1345, q_1460, q_1465, q_1580, q_1585, q_1700, q_1705, q_1820, q_1825, q_1940, q_1945, q_2060, q_2065, q_2180, q_2185, q_2300, q_2305] S_2315 := NL.app (show NL S [q_1, q_5, q_6, q_37, q_43, q_44, q_45, q_46, q_47, q_48, q_49, q_50, q_118, q_124, q_149, q_169, q_174, q_206, q_212, q_244, q_271, q_302, q_307, q_308, q_309, q_310, q_311, q_312, q_313, q_314, q_395, q_401, q_402, q_403, q_404, q_405, q_406, q_407, q_408, q_490, q_529, q_572, q_621, q_626, q_740, q_745, q_860, q_865, q_980, q_985, q_1100, q_1105, q_1220, q_1225, q_1340, q_1345, q_1460, q_1465, q_1580, q_1585, q_1700, q_1705, q_1820, q_1825, q_1940, q_1945, q_2060, q_2065, q_2180, q_2185, q_2300] (nO S_2248 q_2300 10) from NL.nO hN_2297 hq_2301 hz_2302) hNl_2313 (fun a9 h9 => hf_2317.mem h9) (fun a9 h9 => hf_2304.mem h9)
  have hGt_2366 : Gt 1 [q_2300, q_2305] S_2315 := ⟨fun i9 k9 h9 => (match i9, h9 with | 0, h9 => (by have e9 : (10 : Nat) = k9 := Option.some.inj h9; subst e9; exact ⟨hm_2329, hk_2330⟩) | 1, h9 => (by have e9 : (15 : Nat) = k9 := Option.some.inj h9; subst e9; exact ⟨e_2309, e_2310⟩) | i9 + 2, h9 => absurd h9 (by simp [gT])), (List.forall_mem_cons.mpr ⟨e_2311, (fun _ h9 => absurd h9 List.not_mem_nil)⟩), (List.forall_mem_cons.mpr ⟨e_2312, (fun _ h9 => absurd h9 List.not_mem_nil)⟩), (fun _ h9 => absurd h9 List.not_mem_nil)⟩
  have hG_2367 : Gs h [(3, [q_1, q_5, q_6]), (4, [q_37, q_43, q_44, q_45, q_46, q_47, q_48, q_49, q_50]), (0, [q_118, q_124]), (1, [q_169, q_174]), (0, [q_206, q_212]), (2, [q_302, q_307, q_308, q_309, q_310, q_311, q_312, q_313, q_314]), (2, [q_395, q_401, q_402, q_403, q_404, q_405, q_406, q_407, q_408]), (1, [q_621, q_626]), (1, [q_740, q_745]), (1, [q_860, q_865]), (1, [q_980, q_985]), (1, [q_1100, q_1105]), (1, [q_1220, q_1225]), (1, [q_1340, q_1345]), (1, [q_1460, q_1465]), (1, [q_1580, q_1585]), (1, [q_1700, q_1705]), (1, [q_1820, q_1825]), (1, [q_1940, q_1945]), (1, [q_2060, q_2065]), (1, [q_2180, q_2185]), (1, [q_2300, q_2305])] S_2315 := Gs.snoc hG_2362 (by decide) hGt_2366 (List.forall_mem_cons.mpr ⟨(fun e9 => hz_2302 (e9 ▸ hm)), (fun _ h9 => absurd h9 List.not_mem_nil)⟩)
  refine j_aast (j := 14) (ci := 10) C 20  (by decide) rfl dX9_init_159 hm_2326 hk_2327 (inr_of (n := 16) hn_2328 (vp_lit (by decide))) (by decide) hm_2329 hk_2330 rfl ?_
  have hf_2370 : Fm (fun _ _ => False) (fun f9 b9 => b9 = h) (fun _ => False) S (tR S_2315 q_149 14 (some q_2300)) := (hf_2360.tR _ _ (fun h9 => absurd h9 hz_152))
  obtain ⟨S_2368, eS_2369⟩ : ∃ S9 : Hp, S9 = (tR S_2315 q_149 14 (some q_2300)) := ⟨_, rfl⟩
  refine J.eq (S' := S_2368) eS_2369.symm rfl rfl ?_
  have hm_2371 : h ∈ hL S_2368 := by rw [eS_2369]; exact hm_2324
  have hk_2372 : Kd S_2368 h 9 := by rw [eS_2369]; exact hk_2325
  have hm_2373 : q_149 ∈ hL S_2368 := by rw [eS_2369]; exact hm_2326
  have hk_2374 : Kd S_2368 q_149 20 := by rw [eS_2369]; exact hk_2327
  have hn_2375 : Ln S_2368 q_149 16 := by rw [eS_2369]; exact hn_2328
  have hz_2376 : ∀ j, aI S_2368 q_149 j = 0 := by rw [eS_2369]; exact hz_2318
  have hm_2377 : q_2300 ∈ hL S_2368 := by rw [eS_2369]; exact hm_2329
  have hk_2378 : Kd S_2368 q_2300 10 := by rw [eS_2369]; exact hk_2330
  have hm_2379 : q_244 ∈ hL S_2368 := by rw [eS_2369]; exact hm_2331
  have hk_2380 : Kd S_2368 q_244 13 := by rw [eS_2369]; exact hk_2332
  have hn_2381 : Ln S_2368 q_244 24000 := by rw [eS_2369]; exact hn_2333
  have hz_2382 : ∀ j, aI S_2368 q_244 j = 0 := by rw [eS_2369]; exact hz_2319
  have hm_2383 : q_271 ∈ hL S_2368 := by rw [eS_2369]; exact hm_2334
  have hk_2384 : Kd S_2368 q_271 14 := by rw [eS_2369]; exact hk_2335
  have hn_2385 : Ln S_2368 q_271 16 := by rw [eS_2369]; exact hn_2336
  have hz_2386 : ∀ j, aI S_2368 q_271 j = 0 := by rw [eS_2369]; exact hz_2320
  have hm_2387 : q_490 ∈ hL S_2368 := by rw [eS_2369]; exact hm_2337
  have hk_2388 : Kd S_2368 q_490 18 := by rw [eS_2369]; exact hk_2338
  have hn_2389 : Ln S_2368 q_490 3 := by rw [eS_2369]; exact hn_2339
  have hz_2390 : ∀ j, aI S_2368 q_490 j = 0 := by rw [eS_2369]; exact hz_2321
  have hm_2391 : q_529 ∈ hL S_2368 := by rw [eS_2369]; exact hm_2340
  have hk_2392 : Kd S_2368 q_529 19 := by rw [eS_2369]; exact hk_2341
  have hn_2393 : Ln S_2368 q_529 4 := by rw [eS_2369]; exact hn_2342
  have hz_2394 : ∀ j, aI S_2368 q_529 j = 0 := by rw [eS_2369]; exact hz_2322
  have hm_2395 : q_572 ∈ hL S_2368 := by rw [eS_2369]; exact hm_2343
  have hk_2396 : Kd S_2368 q_572 14 := by rw [eS_2369]; exact hk_2344
  have hn_2397 : Ln S_2368 q_572 12 := by rw [eS_2369]; exact hn_2345
  have hz_2398 : ∀ j, aI S_2368 q_572 j = 0 := by rw [eS_2369]; exact hz_2323
  have hv_2399 : hI S_2368 1000 q_2300 = 1 := by rw [eS_2369]; exact e_2306
  have hv_2400 : hI S_2368 1001 q_2300 = 1 := by rw [eS_2369]; exact e_2307
  have hv_2401 : hR S_2368 1003 q_2300 = (some q_2305) := by rw [eS_2369]; exact e_2312
  have hv_2402 : hR S_2368 900 h = (some s0) := by rw [eS_2369]; exact hv_2346
  have hv_2403 : hR S_2368 901 h = (some q_1) := by rw [eS_2369]; exact hv_2347
  have hv_2404 : hR S_2368 902 h = (some q_37) := by rw [eS_2369]; exact hv_2348
  have hv_2405 : hR S_2368 903 h = (some q_118) := by rw [eS_2369]; exact hv_2349
  have hv_2406 : hR S_2368 904 h = (some q_149) := by rw [eS_2369]; exact hv_2350
  have hv_2407 : hR S_2368 905 h = (some q_169) := by rw [eS_2369]; exact hv_2351
  have hv_2408 : hR S_2368 906 h = (some q_206) := by rw [eS_2369]; exact hv_2352
  have hv_2409 : hR S_2368 907 h = (some q_244) := by rw [eS_2369]; exact hv_2353
  have hv_2410 : hR S_2368 908 h = (some q_271) := by rw [eS_2369]; exact hv_2354
  have hv_2411 : hR S_2368 909 h = (some q_302) := by rw [eS_2369]; exact hv_2355
  have hv_2412 : hR S_2368 910 h = (some q_395) := by rw [eS_2369]; exact hv_2356
  have hv_2413 : hR S_2368 911 h = (some q_490) := by rw [eS_2369]; exact hv_2357
  have hv_2414 : hR S_2368 912 h = (some q_529) := by rw [eS_2369]; exact hv_2358
  have hv_2415 : hR S_2368 917 h = (some q_572) := by rw [eS_2369]; exact hv_2359
  have hf_2416 : Fm (fun _ _ => False) (fun f9 b9 => b9 = h) (fun _ => False) S S_2368 := by rw [eS_2369]; exact hf_2370
  have hN_2417 : NL S [q_1, q_5, q_6, q_37, q_43, q_44, q_45, q_46, q_47, q_48, q_49, q_50, q_118, q_124, q_149, q_169, q_174, q_206, q_212, q_244, q_271, q_302, q_307, q_308, q_309, q_310, q_311, q_312, q_313, q_314, q_395, q_401, q_402, q_403, q_404, q_405, q_406, q_407, q_408, q_490, q_529, q_572, q_621, q_626, q_740, q_745, q_860, q_865, q_980, q_985, q_1100, q_1105, q_1220, q_1225, q_1340, q_1345, q_1460, q_1465, q_1580, q_1585, q_1700, q_1705, q_1820, q_1825, q_1940, q_1945, q_2060, q_2065, q_2180, q_2185, q_2300, q_2305] S_2368 := by rw [eS_2369]; exact (NL.tR (S := S_2315) hN_2365)
  have hG_2418 : Gs h [(3, [q_1, q_5, q_6]), (4, [q_37, q_43, q_44, q_45, q_46, q_47, q_48, q_49, q_50]), (0, [q_118, q_124]), (1, [q_169, q_174]), (0, [q_206, q_212]), (2, [q_302, q_307, q_308, q_309, q_310, q_311, q_312, q_313, q_314]), (2, [q_395, q_401, q_402, q_403, q_404, q_405, q_406, q_407, q_408]), (1, [q_621, q_626]), (1, [q_740, q_745]), (1, [q_860, q_865]), (1, [q_980, q_985]), (1, [q_1100, q_1105]), (1, [q_1220, q_1225]), (1, [q_1340, q_1345]), (1, [q_1460, q_1465]), (1, [q_1580, q_1585]), (1, [q_1700, q_1705]), (1, [q_1820, q_1825]), (1, [q_1940, q_1945]), (1, [q_2060, q_2065]), (1, [q_2180, q_2185]), (1, [q_2300, q_2305])] S_2368 := by rw [eS_2369]; exact (Gs.tR (S := S_2315) hG_2367)
  have hE_2419 : ELs S_2368 q_149 [q_621, q_740, q_860, q_980, q_1100, q_1220, q_1340, q_1460, q_1580, q_1700, q_1820, q_1940, q_2060, q_2180, q_2300] := by rw [eS_2369]; exact (show ELs (tR S_2315 q_149 14 (some q_2300)) q_149 [q_621, q_740, q_860, q_980, q_1100, q_1220, q_1340, q_1460, q_1580, q_1700, q_1820, q_1940, q_2060, q_2180, q_2300] from ELs.snoc hE_2363 rfl)
  refine j_iinc (q := 0) (v := 15) (lv' := [(2, .int 15), (0, .ref h), (1, .ref s0)]) C dX9_init_160 rfl (by decide) (by rw [hn9]; decide) rfl ?_
  refine j_goto (tgt := 138) C dX9_init_163 (by decide) ?_
  refine j_iload_n C dX9_init_138 rfl 0 rfl ?_
  refine j_aload_n C dX9_init_139 rfl 1 rfl ?_
  refine j_getr (f := 904) (v := q_149) C flX9_34 dX9_init_140 hm_2371 hk_2372 (by decide) rfl hv_2406 ?_
  refine j_alen (v := 16) C dX9_init_143 hm_2373 hk_2374 (by decide) (by decide) (len_of (n := 16) hn_2375 (by decide)) ?_
  show J _ _ _ _ _ 144 _
  refine j_ic_ge (tgt := 166) C dX9_init_144 (by decide) (fun c9 => absurd c9 (by decide)) (fun c9 => ?_)
  refine j_aload_n C dX9_init_147 rfl 1 rfl ?_
  refine j_getr (f := 904) (v := q_149) C flX9_34 dX9_init_148 hm_2371 hk_2372 (by decide) rfl hv_2406 ?_
  refine j_iload_n C dX9_init_151 rfl 0 rfl ?_
  refine j_new (N := 4) C (ci := 10) rfl rfl klX9_32 knX10 kiX10 (M.cells (by decide)) (M.slots (by decide)) dX9_init_152 (fun q_2420 hq_2421 => ?_)
  have hz_2422 : q_2420 ∉ hL S := fun h9 => hq_2421 (hf_2416.mem h9)
  have gn_2423 : ∀ g9 ∈ ([(3, [q_1, q_5, q_6]), (4, [q_37, q_43, q_44, q_45, q_46, q_47, q_48, q_49, q_50]), (0, [q_118, q_124]), (1, [q_169, q_174]), (0, [q_206, q_212]), (2, [q_302, q_307, q_308, q_309, q_310, q_311, q_312, q_313, q_314]), (2, [q_395, q_401, q_402, q_403, q_404, q_405, q_406, q_407, q_408]), (1, [q_621, q_626]), (1, [q_740, q_745]), (1, [q_860, q_865]), (1, [q_980, q_985]), (1, [q_1100, q_1105]), (1, [q_1220, q_1225]), (1, [q_1340, q_1345]), (1, [q_1460, q_1465]), (1, [q_1580, q_1585]), (1, [q_1700, q_1705]), (1, [q_1820, q_1825]), (1, [q_1940, q_1945]), (1, [q_2060, q_2065]), (1, [q_2180, q_2185]), (1, [q_2300, q_2305])] : List (Nat × List Nat)), ∀ p9 ∈ (gT g9.1).2.2, g9.2.getD p9.2.1 0 ≠ q_2420 := Gs.ne hG_2418 hq_2421
  refine j_dup C dX9_init_155 rfl ?_
  have hf_2424 : Fm (fun _ _ => False) (fun f9 b9 => b9 = h) (fun _ => False) S (nO S_2368 q_2420 10) := (hf_2416.nO _ hq_2421)
  refine j_callI C [] [.ref q_2420, .int 15, .ref q_149] mlX9_38 mcX10_init (c_X10_init (nO S_2368 q_2420 10) q_2420 mem_new (kd_nO' (k := 10))) (M.rm (by decide) (by decide) (Nat.le_of_ble_eq_true rfl) (Nat.le_of_ble_eq_true rfl)) rfl rfl (Nat.le_of_ble_eq_true rfl) dX9_init_156 (fun r_2434 S_2435 hp_2436 => ?_)
  obtain ⟨rfl, hf_2437, e_2426, e_2427, q_2425, e_2428, e_2429, e_2430, e_2431, e_2432, hNl_2433⟩ := hp_2436
  refine J.eq (st' := [.ref q_2420, .int 15, .ref q_149]) rfl rfl rfl ?_
  have hz_2438 : ∀ j, aI S_2435 q_149 j = 0 := fun j9 => (hf_2437.ai (mem_old hm_2373) (fun h9 => h9) j9).trans (hz_2376 j9)
  have hz_2439 : ∀ j, aI S_2435 q_244 j = 0 := fun j9 => (hf_2437.ai (mem_old hm_2379) (fun h9 => h9) j9).trans (hz_2382 j9)
  have hz_2440 : ∀ j, aI S_2435 q_271 j = 0 := fun j9 => (hf_2437.ai (mem_old hm_2383) (fun h9 => h9) j9).trans (hz_2386 j9)
  have hz_2441 : ∀ j, aI S_2435 q_490 j = 0 := fun j9 => (hf_2437.ai (mem_old hm_2387) (fun h9 => h9) j9).trans (hz_2390 j9)
  have hz_2442 : ∀ j, aI S_2435 q_529 j = 0 := fun j9 => (hf_2437.ai (mem_old hm_2391) (fun h9 => h9) j9).trans (hz_2394 j9)
  have hz_2443 : ∀ j, aI S_2435 q_572 j = 0 := fun j9 => (hf_2437.ai (mem_old hm_2395) (fun h9 => h9) j9).trans (hz_2398 j9)
  have hm_2444 : h ∈ hL S_2435 := hf_2437.mem (mem_old hm_2371)
  have hk_2445 : Kd S_2435 h 9 := hf_2437.kd (mem_old hm_2371) (kd_nO (k := 10) hq_2421 hm_2371 hk_2372)
  have hm_2446 : q_149 ∈ hL S_2435 := hf_2437.mem (mem_old hm_2373)
  have hk_2447 : Kd S_2435 q_149 20 := hf_2437.kd (mem_old hm_2373) (kd_nO (k := 10) hq_2421 hm_2373 hk_2374)
  have hn_2448 : Ln S_2435 q_149 16 := hf_2437.ln (mem_old hm_2373) hn_2375
  have hm_2449 : q_2420 ∈ hL S_2435 := hf_2437.mem mem_new
  have hk_2450 : Kd S_2435 q_2420 10 := hf_2437.kd mem_new (kd_nO' (k := 10))
  have hm_2451 : q_244 ∈ hL S_2435 := hf_2437.mem (mem_old hm_2379)
  have hk_2452 : Kd S_2435 q_244 13 := hf_2437.kd (mem_old hm_2379) (kd_nO (k := 10) hq_2421 hm_2379 hk_2380)
  have hn_2453 : Ln S_2435 q_244 24000 := hf_2437.ln (mem_old hm_2379) hn_2381
  have hm_2454 : q_271 ∈ hL S_2435 := hf_2437.mem (mem_old hm_2383)
  have hk_2455 : Kd S_2435 q_271 14 := hf_2437.kd (mem_old hm_2383) (kd_nO (k := 10) hq_2421 hm_2383 hk_2384)
  have hn_2456 : Ln S_2435 q_271 16 := hf_2437.ln (mem_old hm_2383) hn_2385
  have hm_2457 : q_490 ∈ hL S_2435 := hf_2437.mem (mem_old hm_2387)
  have hk_2458 : Kd S_2435 q_490 18 := hf_2437.kd (mem_old hm_2387) (kd_nO (k := 10) hq_2421 hm_2387 hk_2388)
  have hn_2459 : Ln S_2435 q_490 3 := hf_2437.ln (mem_old hm_2387) hn_2389
  have hm_2460 : q_529 ∈ hL S_2435 := hf_2437.mem (mem_old hm_2391)
  have hk_2461 : Kd S_2435 q_529 19 := hf_2437.kd (mem_old hm_2391) (kd_nO (k := 10) hq_2421 hm_2391 hk_2392)
  have hn_2462 : Ln S_2435 q_529 4 := hf_2437.ln (mem_old hm_2391) hn_2393
  have hm_2463 : q_572 ∈ hL S_2435 := hf_2437.mem (mem_old hm_2395)
  have hk_2464 : Kd S_2435 q_572 14 := hf_2437.kd (mem_old hm_2395) (kd_nO (k := 10) hq_2421 hm_2395 hk_2396)
  have hn_2465 : Ln S_2435 q_572 12 := hf_2437.ln (mem_old hm_2395) hn_2397
  have hv_2466 : hR S_2435 900 h = (some s0) := hf_2437.fr (mem_old hm_2371) (fun q9 => (fun e9 => absurd (((kd_nO (k := 10) hq_2421 hm_2371 hk_2372)).symm.trans ((congrArg (hK _) e9).trans (kd_nO' (k := 10)))) (by decide)) q9) (rd_nOR (k := 10) hq_2421 hm_2371 hv_2402)
  have hv_2467 : hR S_2435 901 h = (some q_1) := hf_2437.fr (mem_old hm_2371) (fun q9 => (fun e9 => absurd (((kd_nO (k := 10) hq_2421 hm_2371 hk_2372)).symm.trans ((congrArg (hK _) e9).trans (kd_nO' (k := 10)))) (by decide)) q9) (rd_nOR (k := 10) hq_2421 hm_2371 hv_2403)
  have hv_2468 : hR S_2435 902 h = (some q_37) := hf_2437.fr (mem_old hm_2371) (fun q9 => (fun e9 => absurd (((kd_nO (k := 10) hq_2421 hm_2371 hk_2372)).symm.trans ((congrArg (hK _) e9).trans (kd_nO' (k := 10)))) (by decide)) q9) (rd_nOR (k := 10) hq_2421 hm_2371 hv_2404)
  have hv_2469 : hR S_2435 903 h = (some q_118) := hf_2437.fr (mem_old hm_2371) (fun q9 => (fun e9 => absurd (((kd_nO (k := 10) hq_2421 hm_2371 hk_2372)).symm.trans ((congrArg (hK _) e9).trans (kd_nO' (k := 10)))) (by decide)) q9) (rd_nOR (k := 10) hq_2421 hm_2371 hv_2405)
  have hv_2470 : hR S_2435 904 h = (some q_149) := hf_2437.fr (mem_old hm_2371) (fun q9 => (fun e9 => absurd (((kd_nO (k := 10) hq_2421 hm_2371 hk_2372)).symm.trans ((congrArg (hK _) e9).trans (kd_nO' (k := 10)))) (by decide)) q9) (rd_nOR (k := 10) hq_2421 hm_2371 hv_2406)
  have hv_2471 : hR S_2435 905 h = (some q_169) := hf_2437.fr (mem_old hm_2371) (fun q9 => (fun e9 => absurd (((kd_nO (k := 10) hq_2421 hm_2371 hk_2372)).symm.trans ((congrArg (hK _) e9).trans (kd_nO' (k := 10)))) (by decide)) q9) (rd_nOR (k := 10) hq_2421 hm_2371 hv_2407)
  have hv_2472 : hR S_2435 906 h = (some q_206) := hf_2437.fr (mem_old hm_2371) (fun q9 => (fun e9 => absurd (((kd_nO (k := 10) hq_2421 hm_2371 hk_2372)).symm.trans ((congrArg (hK _) e9).trans (kd_nO' (k := 10)))) (by decide)) q9) (rd_nOR (k := 10) hq_2421 hm_2371 hv_2408)
  have hv_2473 : hR S_2435 907 h = (some q_244) := hf_2437.fr (mem_old hm_2371) (fun q9 => (fun e9 => absurd (((kd_nO (k := 10) hq_2421 hm_2371 hk_2372)).symm.trans ((congrArg (hK _) e9).trans (kd_nO' (k := 10)))) (by decide)) q9) (rd_nOR (k := 10) hq_2421 hm_2371 hv_2409)
  have hv_2474 : hR S_2435 908 h = (some q_271) := hf_2437.fr (mem_old hm_2371) (fun q9 => (fun e9 => absurd (((kd_nO (k := 10) hq_2421 hm_2371 hk_2372)).symm.trans ((congrArg (hK _) e9).trans (kd_nO' (k := 10)))) (by decide)) q9) (rd_nOR (k := 10) hq_2421 hm_2371 hv_2410)
  have hv_2475 : hR S_2435 909 h = (some q_302) := hf_2437.fr (mem_old hm_2371) (fun q9 => (fun e9 => absurd (((kd_nO (k := 10) hq_2421 hm_2371 hk_2372)).symm.trans ((congrArg (hK _) e9).trans (kd_nO' (k := 10)))) (by decide)) q9) (rd_nOR (k := 10) hq_2421 hm_2371 hv_2411)
  have hv_2476 : hR S_2435 910 h = (some q_395) := hf_2437.fr (mem_old hm_2371) (fun q9 => (fun e9 => absurd (((kd_nO (k := 10) hq_2421 hm_2371 hk_2372)).symm.trans ((congrArg (hK _) e9).trans (kd_nO' (k := 10)))) (by decide)) q9) (rd_nOR (k := 10) hq_2421 hm_2371 hv_2412)
  have hv_2477 : hR S_2435 911 h = (some q_490) := hf_2437.fr (mem_old hm_2371) (fun q9 => (fun e9 => absurd (((kd_nO (k := 10) hq_2421 hm_2371 hk_2372)).symm.trans ((congrArg (hK _) e9).trans (kd_nO' (k := 10)))) (by decide)) q9) (rd_nOR (k := 10) hq_2421 hm_2371 hv_2413)
  have hv_2478 : hR S_2435 912 h = (some q_529) := hf_2437.fr (mem_old hm_2371) (fun q9 => (fun e9 => absurd (((kd_nO (k := 10) hq_2421 hm_2371 hk_2372)).symm.trans ((congrArg (hK _) e9).trans (kd_nO' (k := 10)))) (by decide)) q9) (rd_nOR (k := 10) hq_2421 hm_2371 hv_2414)
  have hv_2479 : hR S_2435 917 h = (some q_572) := hf_2437.fr (mem_old hm_2371) (fun q9 => (fun e9 => absurd (((kd_nO (k := 10) hq_2421 hm_2371 hk_2372)).symm.trans ((congrArg (hK _) e9).trans (kd_nO' (k := 10)))) (by decide)) q9) (rd_nOR (k := 10) hq_2421 hm_2371 hv_2415)
  have hf_2480 : Fm (fun _ _ => False) (fun f9 b9 => b9 = h) (fun _ => False) S S_2435 := hf_2424.then hf_2437 (fun a9 ha9 => ⟨(fun f9 h9 => (fun h9 => h9.elim (fun h8 => absurd (h8.2 ▸ ha9) hz_2422) (fun h8 => absurd (h8.2 ▸ ha9) hz_2422)) h9), (fun f9 h9 => (fun h8 => absurd (h8 ▸ ha9) hz_2422) h9), (fun h9 => h9.elim)⟩)
  have hN_2481 : NL S [q_1, q_5, q_6, q_37, q_43, q_44, q_45, q_46, q_47, q_48, q_49, q_50, q_118, q_124, q_149, q_169, q_174, q_206, q_212, q_244, q_271, q_302, q_307, q_308, q_309, q_310, q_311, q_312, q_313, q_314, q_395, q_401, q_402, q_403, q_404, q_405, q_406, q_407, q_408, q_490, q_529, q_572, q_621, q_626, q_740, q_745, q_860, q_865, q_980, q_985, q_1100, q_1105, q_1220, q_1225, q_1340, q_1345, q_1460, q_1465, q_1580, q_1585, q_1700, q_1705, q_1820, q_1825, q_1940, q_1945, q_2060, q_2065, q_2180, q_2185, q_2300, q_2305, q_2420] S_2435 := NL.mono (show NL S [q_1, q_5, q_6, q_37, q_43, q_44, q_45, q_46, q_47, q_48, q_49, q_50, q_118, q_124, q_149, q_169, q_174, q_206, q_212, q_244, q_271, q_302, q_307, q_308, q_309, q_310, q_311, q_312, q_313, q_314, q_395, q_401, q_402, q_403, q_404, q_405, q_406, q_407, q_408, q_490, q_529, q_572, q_621, q_626, q_740, q_745, q_860, q_865, q_980, q_985, q_1100, q_1105, q_1220, q_1225, q_1340, q_1345, q_1460, q_1465, q_1580, q_1585, q_1700, q_1705, q_1820, q_1825, q_1940, q_1945, q_2060, q_2065, q_2180, q_2185, q_2300, q_2305, q_2420] (nO S_2368 q_2420 10) from NL.nO hN_2417 hq_2421 hz_2422) (fun a9 h9 => hf_2437.mem h9)
  have hG_2482 : Gs h [(3, [q_1, q_5, q_6]), (4, [q_37, q_43, q_44, q_45, q_46, q_47, q_48, q_49, q_50]), (0, [q_118, q_124]), (1, [q_169, q_174]), (0, [q_206, q_212]), (2, [q_302, q_307, q_308, q_309, q_310, q_311, q_312, q_313, q_314]), (2, [q_395, q_401, q_402, q_403, q_404, q_405, q_406, q_407, q_408]), (1, [q_621, q_626]), (1, [q_740, q_745]), (1, [q_860, q_865]), (1, [q_980, q_985]), (1, [q_1100, q_1105]), (1, [q_1220, q_1225]), (1, [q_1340, q_1345]), (1, [q_1460, q_1465]), (1, [q_1580, q_1585]), (1, [q_1700, q_1705]), (1, [q_1820, q_1825]), (1, [q_1940, q_1945]), (1, [q_2060, q_2065]), (1, [q_2180, q_2185]), (1, [q_2300, q_2305])] S_2435 := Gs.fm (show Gs h [(3, [q_1, q_5, q_6]), (4, [q_37, q_43, q_44, q_45, q_46, q_47, q_48, q_49, q_50]), (0, [q_118, q_124]), (1, [q_169, q_174]), (0, [q_206, q_212]), (2, [q_302, q_307, q_308, q_309, q_310, q_311, q_312, q_313, q_314]), (2, [q_395, q_401, q_402, q_403, q_404, q_405, q_406, q_407, q_408]), (1, [q_621, q_626]), (1, [q_740, q_745]), (1, [q_860, q_865]), (1, [q_980, q_985]), (1, [q_1100, q_1105]), (1, [q_1220, q_1225]), (1, [q_1340, q_1345]), (1, [q_1460, q_1465]), (1, [q_1580, q_1585]), (1, [q_1700, q_1705]), (1, [q_1820, q_1825]), (1, [q_1940, q_1945]), (1, [q_2060, q_2065]), (1, [q_2180, q_2185]), (1, [q_2300, q_2305])] (nO S_2368 q_2420 10) from Gs.nO hG_2418 hq_2421) hf_2437 (fun g9 hg9 p9 hp9 => gn_2423 g9 hg9 p9 hp9)
  have hE_2483 : ELs S_2435 q_149 [q_621, q_740, q_860, q_980, q_1100, q_1220, q_1340, q_1460, q_1580, q_1700, q_1820, q_1940, q_2060, q_2180, q_2300] := ELs.fm (ELs.nO (S := S_2368) hE_2419) hf_2437 (mem_old hm_2373) (fun h9 => h9)
  have hz_2484 : q_2425 ∉ hL S := fun h9 => e_2428 (hf_2424.mem h9)
  have hN_2485 : NL S [q_1, q_5, q_6, q_37, q_43, q_44, q_45, q_46, q_47, q_48, q_49, q_50, q_118, q_124, q_149, q_169, q_174, q_206, q_212, q_244, q_271, q_302, q_307, q_308, q_309, q_310, q_311, q_312, q_313, q_314, q_395, q_401, q_402, q_403, q_404, q_405, q_406, q_407, q_408, q_490, q_529, q_572, q_621, q_626, q_740, q_745, q_860, q_865, q_980, q_985, q_1100, q_1105, q_1220, q_1225, q_1340, q_1345, q_1460, q_1465, q_1580, q_1585, q_1700, q_1705, q_1820, q_1825, q_1940, q_1945, q_2060, q_2065, q_2180, q_2185, q_2300, q_2305, q_2420, q_2425] S_2435 := NL.app (show NL S [q_1, q_5, q_6, q_37, q_43, q_44, q_45, q_46, q_47, q_48, q_49, q_50, q_118, q_124, q_149, q_169, q_174, q_206, q_212, q_244, q_271, q_302, q_307, q_308, q_309, q_310, q_311, q_312, q_313, q_314, q_395, q_401, q_402, q_403, q_404, q_405, q_406, q_407, q_408, q_490, q_529, q_572, q_621, q_626, q_740, q_745, q_860, q_865, q_980, q_985, q_1100, q_1105, q_1220, q_1225, q_1340, q_1345, q_1460, q_1465, q_1580, q_1585, q_1700, q_1705, q_1820, q_1825, q_1940, q_1945, q_2060, q_2065, q_2180, q_2185, q_2300, q_2305, q_2420] (nO S_2368 q_2420 10) from NL.nO hN_2417 hq_2421 hz_2422) hNl_2433 (fun a9 h9 => hf_2437.mem h9) (fun a9 h9 => hf_2424.mem h9)
  have hGt_2486 : Gt 1 [q_2420, q_2425] S_2435 := ⟨fun i9 k9 h9 => (match i9, h9 with | 0, h9 => (by have e9 : (10 : Nat) = k9 := Option.some.inj h9; subst e9; exact ⟨hm_2449, hk_2450⟩) | 1, h9 => (by have e9 : (15 : Nat) = k9 := Option.some.inj h9; subst e9; exact ⟨e_2429, e_2430⟩) | i9 + 2, h9 => absurd h9 (by simp [gT])), (List.forall_mem_cons.mpr ⟨e_2431, (fun _ h9 => absurd h9 List.not_mem_nil)⟩), (List.forall_mem_cons.mpr ⟨e_2432, (fun _ h9 => absurd h9 List.not_mem_nil)⟩), (fun _ h9 => absurd h9 List.not_mem_nil)⟩
  have hG_2487 : Gs h [(3, [q_1, q_5, q_6]), (4, [q_37, q_43, q_44, q_45, q_46, q_47, q_48, q_49, q_50]), (0, [q_118, q_124]), (1, [q_169, q_174]), (0, [q_206, q_212]), (2, [q_302, q_307, q_308, q_309, q_310, q_311, q_312, q_313, q_314]), (2, [q_395, q_401, q_402, q_403, q_404, q_405, q_406, q_407, q_408]), (1, [q_621, q_626]), (1, [q_740, q_745]), (1, [q_860, q_865]), (1, [q_980, q_985]), (1, [q_1100, q_1105]), (1, [q_1220, q_1225]), (1, [q_1340, q_1345]), (1, [q_1460, q_1465]), (1, [q_1580, q_1585]), (1, [q_1700, q_1705]), (1, [q_1820, q_1825]), (1, [q_1940, q_1945]), (1, [q_2060, q_2065]), (1, [q_2180, q_2185]), (1, [q_2300, q_2305]), (1, [q_2420, q_2425])] S_2435 := Gs.snoc hG_2482 (by decide) hGt_2486 (List.forall_mem_cons.mpr ⟨(fun e9 => hz_2422 (e9 ▸ hm)), (fun _ h9 => absurd h9 List.not_mem_nil)⟩)
  refine j_aast (j := 15) (ci := 10) C 20  (by decide) rfl dX9_init_159 hm_2446 hk_2447 (inr_of (n := 16) hn_2448 (vp_lit (by decide))) (by decide) hm_2449 hk_2450 rfl ?_
  have hf_2490 : Fm (fun _ _ => False) (fun f9 b9 => b9 = h) (fun _ => False) S (tR S_2435 q_149 15 (some q_2420)) := (hf_2480.tR _ _ (fun h9 => absurd h9 hz_152))
  obtain ⟨S_2488, eS_2489⟩ : ∃ S9 : Hp, S9 = (tR S_2435 q_149 15 (some q_2420)) := ⟨_, rfl⟩
  refine J.eq (S' := S_2488) eS_2489.symm rfl rfl ?_
  have hm_2491 : h ∈ hL S_2488 := by rw [eS_2489]; exact hm_2444
  have hk_2492 : Kd S_2488 h 9 := by rw [eS_2489]; exact hk_2445
  have hm_2493 : q_149 ∈ hL S_2488 := by rw [eS_2489]; exact hm_2446
  have hk_2494 : Kd S_2488 q_149 20 := by rw [eS_2489]; exact hk_2447
  have hn_2495 : Ln S_2488 q_149 16 := by rw [eS_2489]; exact hn_2448
  have hz_2496 : ∀ j, aI S_2488 q_149 j = 0 := by rw [eS_2489]; exact hz_2438
  have hm_2497 : q_2420 ∈ hL S_2488 := by rw [eS_2489]; exact hm_2449
  have hk_2498 : Kd S_2488 q_2420 10 := by rw [eS_2489]; exact hk_2450
  have hm_2499 : q_244 ∈ hL S_2488 := by rw [eS_2489]; exact hm_2451
  have hk_2500 : Kd S_2488 q_244 13 := by rw [eS_2489]; exact hk_2452
  have hn_2501 : Ln S_2488 q_244 24000 := by rw [eS_2489]; exact hn_2453
  have hz_2502 : ∀ j, aI S_2488 q_244 j = 0 := by rw [eS_2489]; exact hz_2439
  have hm_2503 : q_271 ∈ hL S_2488 := by rw [eS_2489]; exact hm_2454
  have hk_2504 : Kd S_2488 q_271 14 := by rw [eS_2489]; exact hk_2455
  have hn_2505 : Ln S_2488 q_271 16 := by rw [eS_2489]; exact hn_2456
  have hz_2506 : ∀ j, aI S_2488 q_271 j = 0 := by rw [eS_2489]; exact hz_2440
  have hm_2507 : q_490 ∈ hL S_2488 := by rw [eS_2489]; exact hm_2457
  have hk_2508 : Kd S_2488 q_490 18 := by rw [eS_2489]; exact hk_2458
  have hn_2509 : Ln S_2488 q_490 3 := by rw [eS_2489]; exact hn_2459
  have hz_2510 : ∀ j, aI S_2488 q_490 j = 0 := by rw [eS_2489]; exact hz_2441
  have hm_2511 : q_529 ∈ hL S_2488 := by rw [eS_2489]; exact hm_2460
  have hk_2512 : Kd S_2488 q_529 19 := by rw [eS_2489]; exact hk_2461
  have hn_2513 : Ln S_2488 q_529 4 := by rw [eS_2489]; exact hn_2462
  have hz_2514 : ∀ j, aI S_2488 q_529 j = 0 := by rw [eS_2489]; exact hz_2442
  have hm_2515 : q_572 ∈ hL S_2488 := by rw [eS_2489]; exact hm_2463
  have hk_2516 : Kd S_2488 q_572 14 := by rw [eS_2489]; exact hk_2464
  have hn_2517 : Ln S_2488 q_572 12 := by rw [eS_2489]; exact hn_2465
  have hz_2518 : ∀ j, aI S_2488 q_572 j = 0 := by rw [eS_2489]; exact hz_2443
  have hv_2519 : hI S_2488 1000 q_2420 = 1 := by rw [eS_2489]; exact e_2426
  have hv_2520 : hI S_2488 1001 q_2420 = 1 := by rw [eS_2489]; exact e_2427
  have hv_2521 : hR S_2488 1003 q_2420 = (some q_2425) := by rw [eS_2489]; exact e_2432
  have hv_2522 : hR S_2488 900 h = (some s0) := by rw [eS_2489]; exact hv_2466
  have hv_2523 : hR S_2488 901 h = (some q_1) := by rw [eS_2489]; exact hv_2467
  have hv_2524 : hR S_2488 902 h = (some q_37) := by rw [eS_2489]; exact hv_2468
  have hv_2525 : hR S_2488 903 h = (some q_118) := by rw [eS_2489]; exact hv_2469
  have hv_2526 : hR S_2488 904 h = (some q_149) := by rw [eS_2489]; exact hv_2470
  have hv_2527 : hR S_2488 905 h = (some q_169) := by rw [eS_2489]; exact hv_2471
  have hv_2528 : hR S_2488 906 h = (some q_206) := by rw [eS_2489]; exact hv_2472
  have hv_2529 : hR S_2488 907 h = (some q_244) := by rw [eS_2489]; exact hv_2473
  have hv_2530 : hR S_2488 908 h = (some q_271) := by rw [eS_2489]; exact hv_2474
  have hv_2531 : hR S_2488 909 h = (some q_302) := by rw [eS_2489]; exact hv_2475
  have hv_2532 : hR S_2488 910 h = (some q_395) := by rw [eS_2489]; exact hv_2476
  have hv_2533 : hR S_2488 911 h = (some q_490) := by rw [eS_2489]; exact hv_2477
  have hv_2534 : hR S_2488 912 h = (some q_529) := by rw [eS_2489]; exact hv_2478
  have hv_2535 : hR S_2488 917 h = (some q_572) := by rw [eS_2489]; exact hv_2479
  have hf_2536 : Fm (fun _ _ => False) (fun f9 b9 => b9 = h) (fun _ => False) S S_2488 := by rw [eS_2489]; exact hf_2490
  have hN_2537 : NL S [q_1, q_5, q_6, q_37, q_43, q_44, q_45, q_46, q_47, q_48, q_49, q_50, q_118, q_124, q_149, q_169, q_174, q_206, q_212, q_244, q_271, q_302, q_307, q_308, q_309, q_310, q_311, q_312, q_313, q_314, q_395, q_401, q_402, q_403, q_404, q_405, q_406, q_407, q_408, q_490, q_529, q_572, q_621, q_626, q_740, q_745, q_860, q_865, q_980, q_985, q_1100, q_1105, q_1220, q_1225, q_1340, q_1345, q_1460, q_1465, q_1580, q_1585, q_1700, q_1705, q_1820, q_1825, q_1940, q_1945, q_2060, q_2065, q_2180, q_2185, q_2300, q_2305, q_2420, q_2425] S_2488 := by rw [eS_2489]; exact (NL.tR (S := S_2435) hN_2485)
  have hG_2538 : Gs h [(3, [q_1, q_5, q_6]), (4, [q_37, q_43, q_44, q_45, q_46, q_47, q_48, q_49, q_50]), (0, [q_118, q_124]), (1, [q_169, q_174]), (0, [q_206, q_212]), (2, [q_302, q_307, q_308, q_309, q_310, q_311, q_312, q_313, q_314]), (2, [q_395, q_401, q_402, q_403, q_404, q_405, q_406, q_407, q_408]), (1, [q_621, q_626]), (1, [q_740, q_745]), (1, [q_860, q_865]), (1, [q_980, q_985]), (1, [q_1100, q_1105]), (1, [q_1220, q_1225]), (1, [q_1340, q_1345]), (1, [q_1460, q_1465]), (1, [q_1580, q_1585]), (1, [q_1700, q_1705]), (1, [q_1820, q_1825]), (1, [q_1940, q_1945]), (1, [q_2060, q_2065]), (1, [q_2180, q_2185]), (1, [q_2300, q_2305]), (1, [q_2420, q_2425])] S_2488 := by rw [eS_2489]; exact (Gs.tR (S := S_2435) hG_2487)
  have hE_2539 : ELs S_2488 q_149 [q_621, q_740, q_860, q_980, q_1100, q_1220, q_1340, q_1460, q_1580, q_1700, q_1820, q_1940, q_2060, q_2180, q_2300, q_2420] := by rw [eS_2489]; exact (show ELs (tR S_2435 q_149 15 (some q_2420)) q_149 [q_621, q_740, q_860, q_980, q_1100, q_1220, q_1340, q_1460, q_1580, q_1700, q_1820, q_1940, q_2060, q_2180, q_2300, q_2420] from ELs.snoc hE_2483 rfl)
  show J _ _ _ _ _ 160 _
  refine j_iinc (q := 0) (v := 16) (lv' := [(2, .int 16), (0, .ref h), (1, .ref s0)]) C dX9_init_160 rfl (by decide) (by rw [hn9]; decide) rfl ?_
  refine j_goto (tgt := 138) C dX9_init_163 (by decide) ?_
  refine j_iload_n C dX9_init_138 rfl 0 rfl ?_
  refine j_aload_n C dX9_init_139 rfl 1 rfl ?_
  refine j_getr (f := 904) (v := q_149) C flX9_34 dX9_init_140 hm_2491 hk_2492 (by decide) rfl hv_2526 ?_
  refine j_alen (v := 16) C dX9_init_143 hm_2493 hk_2494 (by decide) (by decide) (len_of (n := 16) hn_2495 (by decide)) ?_
  refine j_ic_ge (tgt := 166) C dX9_init_144 (by decide) (fun c9 => ?_) (fun c9 => absurd (by decide) c9)
  refine j_iconst (v := 0) C dX9_init_166 (by decide) ?_
  show J _ _ _ _ _ 167 _
  refine j_istore_n (lv' := [(2, .int 0), (0, .ref h), (1, .ref s0)]) C dX9_init_167 rfl (by rw [hn9]; decide) rfl ?_
  refine j_iload_n C dX9_init_168 rfl 0 rfl ?_
  refine j_aload_n C dX9_init_169 rfl 1 rfl ?_
  refine j_getr (f := 911) (v := q_490) C flX9_64 dX9_init_170 hm_2491 hk_2492 (by decide) rfl hv_2533 ?_
  refine j_alen (v := 3) C dX9_init_173 hm_2507 hk_2508 (by decide) (by decide) (len_of (n := 3) hn_2509 (by decide)) ?_
  refine j_ic_ge (tgt := 196) C dX9_init_174 (by decide) (fun c9 => absurd c9 (by decide)) (fun c9 => ?_)
  refine j_aload_n C dX9_init_177 rfl 1 rfl ?_
  refine j_getr (f := 911) (v := q_490) C flX9_64 dX9_init_178 hm_2491 hk_2492 (by decide) rfl hv_2533 ?_
  show J _ _ _ _ _ 181 _
  refine j_iload_n C dX9_init_181 rfl 0 rfl ?_
  refine j_new (N := 21) C (ci := 1) rfl rfl klX9_54 knX1 kiX1 (M.cells (by decide)) (M.slots (by decide)) dX9_init_182 (fun q_2540 hq_2541 => ?_)
  have hz_2542 : q_2540 ∉ hL S := fun h9 => hq_2541 (hf_2536.mem h9)
  have gn_2543 : ∀ g9 ∈ ([(3, [q_1, q_5, q_6]), (4, [q_37, q_43, q_44, q_45, q_46, q_47, q_48, q_49, q_50]), (0, [q_118, q_124]), (1, [q_169, q_174]), (0, [q_206, q_212]), (2, [q_302, q_307, q_308, q_309, q_310, q_311, q_312, q_313, q_314]), (2, [q_395, q_401, q_402, q_403, q_404, q_405, q_406, q_407, q_408]), (1, [q_621, q_626]), (1, [q_740, q_745]), (1, [q_860, q_865]), (1, [q_980, q_985]), (1, [q_1100, q_1105]), (1, [q_1220, q_1225]), (1, [q_1340, q_1345]), (1, [q_1460, q_1465]), (1, [q_1580, q_1585]), (1, [q_1700, q_1705]), (1, [q_1820, q_1825]), (1, [q_1940, q_1945]), (1, [q_2060, q_2065]), (1, [q_2180, q_2185]), (1, [q_2300, q_2305]), (1, [q_2420, q_2425])] : List (Nat × List Nat)), ∀ p9 ∈ (gT g9.1).2.2, g9.2.getD p9.2.1 0 ≠ q_2540 := Gs.ne hG_2538 hq_2541
  refine j_dup C dX9_init_185 rfl ?_
  have hf_2544 : Fm (fun _ _ => False) (fun f9 b9 => b9 = h) (fun _ => False) S (nO S_2488 q_2540 1) := (hf_2536.nO _ hq_2541)
  refine j_callI C [] [.ref q_2540, .int 0, .ref q_490] mlX9_56 mcX1_init (c_X1_init (nO S_2488 q_2540 1) q_2540 mem_new (kd_nO' (k := 1))) (M.rm (by decide) (by decide) (Nat.le_of_ble_eq_true rfl) (Nat.le_of_ble_eq_true rfl)) rfl rfl (Nat.le_of_ble_eq_true rfl) dX9_init_186 (fun r_2591 S_2592 hp_2593 => ?_)
  obtain ⟨rfl, hf_2594, q_2545, q_2546, q_2547, q_2548, q_2549, q_2550, q_2551, q_2552, e_2553, e_2554, e_2555, e_2556, e_2557, e_2558, e_2559, e_2560, e_2561, e_2562, e_2563, e_2564, e_2565, e_2566, e_2567, e_2568, e_2569, e_2570, e_2571, e_2572, e_2573, e_2574, e_2575, e_2576, e_2577, e_2578, e_2579, e_2580, e_2581, e_2582, e_2583, e_2584, e_2585, e_2586, e_2587, e_2588, e_2589, hNl_2590⟩ := hp_2593
  refine J.eq (st' := [.ref q_2540, .int 0, .ref q_490]) rfl rfl rfl ?_
  have hz_2595 : ∀ j, aI S_2592 q_149 j = 0 := fun j9 => (hf_2594.ai (mem_old hm_2493) (fun h9 => h9) j9).trans (hz_2496 j9)
  have hz_2596 : ∀ j, aI S_2592 q_244 j = 0 := fun j9 => (hf_2594.ai (mem_old hm_2499) (fun h9 => h9) j9).trans (hz_2502 j9)
  have hz_2597 : ∀ j, aI S_2592 q_271 j = 0 := fun j9 => (hf_2594.ai (mem_old hm_2503) (fun h9 => h9) j9).trans (hz_2506 j9)
  have hz_2598 : ∀ j, aI S_2592 q_490 j = 0 := fun j9 => (hf_2594.ai (mem_old hm_2507) (fun h9 => h9) j9).trans (hz_2510 j9)
  have hz_2599 : ∀ j, aI S_2592 q_529 j = 0 := fun j9 => (hf_2594.ai (mem_old hm_2511) (fun h9 => h9) j9).trans (hz_2514 j9)
  have hz_2600 : ∀ j, aI S_2592 q_572 j = 0 := fun j9 => (hf_2594.ai (mem_old hm_2515) (fun h9 => h9) j9).trans (hz_2518 j9)
  have hm_2601 : h ∈ hL S_2592 := hf_2594.mem (mem_old hm_2491)
  have hk_2602 : Kd S_2592 h 9 := hf_2594.kd (mem_old hm_2491) (kd_nO (k := 1) hq_2541 hm_2491 hk_2492)
  have hm_2603 : q_149 ∈ hL S_2592 := hf_2594.mem (mem_old hm_2493)
  have hk_2604 : Kd S_2592 q_149 20 := hf_2594.kd (mem_old hm_2493) (kd_nO (k := 1) hq_2541 hm_2493 hk_2494)
  have hn_2605 : Ln S_2592 q_149 16 := hf_2594.ln (mem_old hm_2493) hn_2495
  have hm_2606 : q_244 ∈ hL S_2592 := hf_2594.mem (mem_old hm_2499)
  have hk_2607 : Kd S_2592 q_244 13 := hf_2594.kd (mem_old hm_2499) (kd_nO (k := 1) hq_2541 hm_2499 hk_2500)
  have hn_2608 : Ln S_2592 q_244 24000 := hf_2594.ln (mem_old hm_2499) hn_2501
  have hm_2609 : q_2540 ∈ hL S_2592 := hf_2594.mem mem_new
  have hk_2610 : Kd S_2592 q_2540 1 := hf_2594.kd mem_new (kd_nO' (k := 1))
  have hm_2611 : q_271 ∈ hL S_2592 := hf_2594.mem (mem_old hm_2503)
  have hk_2612 : Kd S_2592 q_271 14 := hf_2594.kd (mem_old hm_2503) (kd_nO (k := 1) hq_2541 hm_2503 hk_2504)
  have hn_2613 : Ln S_2592 q_271 16 := hf_2594.ln (mem_old hm_2503) hn_2505
  have hm_2614 : q_490 ∈ hL S_2592 := hf_2594.mem (mem_old hm_2507)
  have hk_2615 : Kd S_2592 q_490 18 := hf_2594.kd (mem_old hm_2507) (kd_nO (k := 1) hq_2541 hm_2507 hk_2508)
  have hn_2616 : Ln S_2592 q_490 3 := hf_2594.ln (mem_old hm_2507) hn_2509
  have hm_2617 : q_529 ∈ hL S_2592 := hf_2594.mem (mem_old hm_2511)
  have hk_2618 : Kd S_2592 q_529 19 := hf_2594.kd (mem_old hm_2511) (kd_nO (k := 1) hq_2541 hm_2511 hk_2512)
  have hn_2619 : Ln S_2592 q_529 4 := hf_2594.ln (mem_old hm_2511) hn_2513
  have hm_2620 : q_572 ∈ hL S_2592 := hf_2594.mem (mem_old hm_2515)
  have hk_2621 : Kd S_2592 q_572 14 := hf_2594.kd (mem_old hm_2515) (kd_nO (k := 1) hq_2541 hm_2515 hk_2516)
  have hn_2622 : Ln S_2592 q_572 12 := hf_2594.ln (mem_old hm_2515) hn_2517
  have hv_2623 : hR S_2592 900 h = (some s0) := hf_2594.fr (mem_old hm_2491) (fun q9 => (fun e9 => absurd (((kd_nO (k := 1) hq_2541 hm_2491 hk_2492)).symm.trans ((congrArg (hK _) e9).trans (kd_nO' (k := 1)))) (by decide)) q9) (rd_nOR (k := 1) hq_2541 hm_2491 hv_2522)
  have hv_2624 : hR S_2592 901 h = (some q_1) := hf_2594.fr (mem_old hm_2491) (fun q9 => (fun e9 => absurd (((kd_nO (k := 1) hq_2541 hm_2491 hk_2492)).symm.trans ((congrArg (hK _) e9).trans (kd_nO' (k := 1)))) (by decide)) q9) (rd_nOR (k := 1) hq_2541 hm_2491 hv_2523)
  have hv_2625 : hR S_2592 902 h = (some q_37) := hf_2594.fr (mem_old hm_2491) (fun q9 => (fun e9 => absurd (((kd_nO (k := 1) hq_2541 hm_2491 hk_2492)).symm.trans ((congrArg (hK _) e9).trans (kd_nO' (k := 1)))) (by decide)) q9) (rd_nOR (k := 1) hq_2541 hm_2491 hv_2524)
  have hv_2626 : hR S_2592 903 h = (some q_118) := hf_2594.fr (mem_old hm_2491) (fun q9 => (fun e9 => absurd (((kd_nO (k := 1) hq_2541 hm_2491 hk_2492)).symm.trans ((congrArg (hK _) e9).trans (kd_nO' (k := 1)))) (by decide)) q9) (rd_nOR (k := 1) hq_2541 hm_2491 hv_2525)
  have hv_2627 : hR S_2592 904 h = (some q_149) := hf_2594.fr (mem_old hm_2491) (fun q9 => (fun e9 => absurd (((kd_nO (k := 1) hq_2541 hm_2491 hk_2492)).symm.trans ((congrArg (hK _) e9).trans (kd_nO' (k := 1)))) (by decide)) q9) (rd_nOR (k := 1) hq_2541 hm_2491 hv_2526)
  have hv_2628 : hR S_2592 905 h = (some q_169) := hf_2594.fr (mem_old hm_2491) (fun q9 => (fun e9 => absurd (((kd_nO (k := 1) hq_2541 hm_2491 hk_2492)).symm.trans ((congrArg (hK _) e9).trans (kd_nO' (k := 1)))) (by decide)) q9) (rd_nOR (k := 1) hq_2541 hm_2491 hv_2527)
  have hv_2629 : hR S_2592 906 h = (some q_206) := hf_2594.fr (mem_old hm_2491) (fun q9 => (fun e9 => absurd (((kd_nO (k := 1) hq_2541 hm_2491 hk_2492)).symm.trans ((congrArg (hK _) e9).trans (kd_nO' (k := 1)))) (by decide)) q9) (rd_nOR (k := 1) hq_2541 hm_2491 hv_2528)
  have hv_2630 : hR S_2592 907 h = (some q_244) := hf_2594.fr (mem_old hm_2491) (fun q9 => (fun e9 => absurd (((kd_nO (k := 1) hq_2541 hm_2491 hk_2492)).symm.trans ((congrArg (hK _) e9).trans (kd_nO' (k := 1)))) (by decide)) q9) (rd_nOR (k := 1) hq_2541 hm_2491 hv_2529)
  have hv_2631 : hR S_2592 908 h = (some q_271) := hf_2594.fr (mem_old hm_2491) (fun q9 => (fun e9 => absurd (((kd_nO (k := 1) hq_2541 hm_2491 hk_2492)).symm.trans ((congrArg (hK _) e9).trans (kd_nO' (k := 1)))) (by decide)) q9) (rd_nOR (k := 1) hq_2541 hm_2491 hv_2530)
  have hv_2632 : hR S_2592 909 h = (some q_302) := hf_2594.fr (mem_old hm_2491) (fun q9 => (fun e9 => absurd (((kd_nO (k := 1) hq_2541 hm_2491 hk_2492)).symm.trans ((congrArg (hK _) e9).trans (kd_nO' (k := 1)))) (by decide)) q9) (rd_nOR (k := 1) hq_2541 hm_2491 hv_2531)
  have hv_2633 : hR S_2592 910 h = (some q_395) := hf_2594.fr (mem_old hm_2491) (fun q9 => (fun e9 => absurd (((kd_nO (k := 1) hq_2541 hm_2491 hk_2492)).symm.trans ((congrArg (hK _) e9).trans (kd_nO' (k := 1)))) (by decide)) q9) (rd_nOR (k := 1) hq_2541 hm_2491 hv_2532)
  have hv_2634 : hR S_2592 911 h = (some q_490) := hf_2594.fr (mem_old hm_2491) (fun q9 => (fun e9 => absurd (((kd_nO (k := 1) hq_2541 hm_2491 hk_2492)).symm.trans ((congrArg (hK _) e9).trans (kd_nO' (k := 1)))) (by decide)) q9) (rd_nOR (k := 1) hq_2541 hm_2491 hv_2533)
  have hv_2635 : hR S_2592 912 h = (some q_529) := hf_2594.fr (mem_old hm_2491) (fun q9 => (fun e9 => absurd (((kd_nO (k := 1) hq_2541 hm_2491 hk_2492)).symm.trans ((congrArg (hK _) e9).trans (kd_nO' (k := 1)))) (by decide)) q9) (rd_nOR (k := 1) hq_2541 hm_2491 hv_2534)
  have hv_2636 : hR S_2592 917 h = (some q_572) := hf_2594.fr (mem_old hm_2491) (fun q9 => (fun e9 => absurd (((kd_nO (k := 1) hq_2541 hm_2491 hk_2492)).symm.trans ((congrArg (hK _) e9).trans (kd_nO' (k := 1)))) (by decide)) q9) (rd_nOR (k := 1) hq_2541 hm_2491 hv_2535)
  have hf_2637 : Fm (fun _ _ => False) (fun f9 b9 => b9 = h) (fun _ => False) S S_2592 := hf_2544.then hf_2594 (fun a9 ha9 => ⟨(fun f9 h9 => h9.elim), (fun f9 h9 => (fun h8 => absurd (h8 ▸ ha9) hz_2542) h9), (fun h9 => h9.elim)⟩)
  have hN_2638 : NL S [q_1, q_5, q_6, q_37, q_43, q_44, q_45, q_46, q_47, q_48, q_49, q_50, q_118, q_124, q_149, q_169, q_174, q_206, q_212, q_244, q_271, q_302, q_307, q_308, q_309, q_310, q_311, q_312, q_313, q_314, q_395, q_401, q_402, q_403, q_404, q_405, q_406, q_407, q_408, q_490, q_529, q_572, q_621, q_626, q_740, q_745, q_860, q_865, q_980, q_985, q_1100, q_1105, q_1220, q_1225, q_1340, q_1345, q_1460, q_1465, q_1580, q_1585, q_1700, q_1705, q_1820, q_1825, q_1940, q_1945, q_2060, q_2065, q_2180, q_2185, q_2300, q_2305, q_2420, q_2425, q_2540] S_2592 := NL.mono (show NL S [q_1, q_5, q_6, q_37, q_43, q_44, q_45, q_46, q_47, q_48, q_49, q_50, q_118, q_124, q_149, q_169, q_174, q_206, q_212, q_244, q_271, q_302, q_307, q_308, q_309, q_310, q_311, q_312, q_313, q_314, q_395, q_401, q_402, q_403, q_404, q_405, q_406, q_407, q_408, q_490, q_529, q_572, q_621, q_626, q_740, q_745, q_860, q_865, q_980, q_985, q_1100, q_1105, q_1220, q_1225, q_1340, q_1345, q_1460, q_1465, q_1580, q_1585, q_1700, q_1705, q_1820, q_1825, q_1940, q_1945, q_2060, q_2065, q_2180, q_2185, q_2300, q_2305, q_2420, q_2425, q_2540] (nO S_2488 q_2540 1) from NL.nO hN_2537 hq_2541 hz_2542) (fun a9 h9 => hf_2594.mem h9)
  have hG_2639 : Gs h [(3, [q_1, q_5, q_6]), (4, [q_37, q_43, q_44, q_45, q_46, q_47, q_48, q_49, q_50]), (0, [q_118, q_124]), (1, [q_169, q_174]), (0, [q_206, q_212]), (2, [q_302, q_307, q_308, q_309, q_310, q_311, q_312, q_313, q_314]), (2, [q_395, q_401, q_402, q_403, q_404, q_405, q_406, q_407, q_408]), (1, [q_621, q_626]), (1, [q_740, q_745]), (1, [q_860, q_865]), (1, [q_980, q_985]), (1, [q_1100, q_1105]), (1, [q_1220, q_1225]), (1, [q_1340, q_1345]), (1, [q_1460, q_1465]), (1, [q_1580, q_1585]), (1, [q_1700, q_1705]), (1, [q_1820, q_1825]), (1, [q_1940, q_1945]), (1, [q_2060, q_2065]), (1, [q_2180, q_2185]), (1, [q_2300, q_2305]), (1, [q_2420, q_2425])] S_2592 := Gs.fm (show Gs h [(3, [q_1, q_5, q_6]), (4, [q_37, q_43, q_44, q_45, q_46, q_47, q_48, q_49, q_50]), (0, [q_118, q_124]), (1, [q_169, q_174]), (0, [q_206, q_212]), (2, [q_302, q_307, q_308, q_309, q_310, q_311, q_312, q_313, q_314]), (2, [q_395, q_401, q_402, q_403, q_404, q_405, q_406, q_407, q_408]), (1, [q_621, q_626]), (1, [q_740, q_745]), (1, [q_860, q_865]), (1, [q_980, q_985]), (1, [q_1100, q_1105]), (1, [q_1220, q_1225]), (1, [q_1340, q_1345]), (1, [q_1460, q_1465]), (1, [q_1580, q_1585]), (1, [q_1700, q_1705]), (1, [q_1820, q_1825]), (1, [q_1940, q_1945]), (1, [q_2060, q_2065]), (1, [q_2180, q_2185]), (1, [q_2300, q_2305]), (1, [q_2420, q_2425])] (nO S_2488 q_2540 1) from Gs.nO hG_2538 hq_2541) hf_2594 (fun g9 hg9 p9 hp9 => gn_2543 g9 hg9 p9 hp9)
  have hE_2640 : ELs S_2592 q_149 [q_621, q_740, q_860, q_980, q_1100, q_1220, q_1340, q_1460, q_1580, q_1700, q_1820, q_1940, q_2060, q_2180, q_2300, q_2420] := ELs.fm (ELs.nO (S := S_2488) hE_2539) hf_2594 (mem_old hm_2493) (fun h9 => h9)
  have hz_2641 : q_2545 ∉ hL S := fun h9 => e_2553 (hf_2544.mem h9)
  have hz_2642 : q_2546 ∉ hL S := fun h9 => e_2557 (hf_2544.mem h9)
  have hz_2643 : q_2547 ∉ hL S := fun h9 => e_2562 (hf_2544.mem h9)
  have hz_2644 : q_2548 ∉ hL S := fun h9 => e_2566 (hf_2544.mem h9)
  have hz_2645 : q_2549 ∉ hL S := fun h9 => e_2571 (hf_2544.mem h9)
  have hz_2646 : q_2550 ∉ hL S := fun h9 => e_2575 (hf_2544.mem h9)
  have hz_2647 : q_2551 ∉ hL S := fun h9 => e_2580 (hf_2544.mem h9)
  have hz_2648 : q_2552 ∉ hL S := fun h9 => e_2585 (hf_2544.mem h9)
  have hN_2649 : NL S [q_1, q_5, q_6, q_37, q_43, q_44, q_45, q_46, q_47, q_48, q_49, q_50, q_118, q_124, q_149, q_169, q_174, q_206, q_212, q_244, q_271, q_302, q_307, q_308, q_309, q_310, q_311, q_312, q_313, q_314, q_395, q_401, q_402, q_403, q_404, q_405, q_406, q_407, q_408, q_490, q_529, q_572, q_621, q_626, q_740, q_745, q_860, q_865, q_980, q_985, q_1100, q_1105, q_1220, q_1225, q_1340, q_1345, q_1460, q_1465, q_1580, q_1585, q_1700, q_1705, q_1820, q_1825, q_1940, q_1945, q_2060, q_2065, q_2180, q_2185, q_2300, q_2305, q_2420, q_2425, q_2540, q_2545, q_2546, q_2547, q_2548, q_2549, q_2550, q_2551, q_2552] S_2592 := NL.app (show NL S [q_1, q_5, q_6, q_37, q_43, q_44, q_45, q_46, q_47, q_48, q_49, q_50, q_118, q_124, q_149, q_169, q_174, q_206, q_212, q_244, q_271, q_302, q_307, q_308, q_309, q_310, q_311, q_312, q_313, q_314, q_395, q_401, q_402, q_403, q_404, q_405, q_406, q_407, q_408, q_490, q_529, q_572, q_621, q_626, q_740, q_745, q_860, q_865, q_980, q_985, q_1100, q_1105, q_1220, q_1225, q_1340, q_1345, q_1460, q_1465, q_1580, q_1585, q_1700, q_1705, q_1820, q_1825, q_1940, q_1945, q_2060, q_2065, q_2180, q_2185, q_2300, q_2305, q_2420, q_2425, q_2540] (nO S_2488 q_2540 1) from NL.nO hN_2537 hq_2541 hz_2542) hNl_2590 (fun a9 h9 => hf_2594.mem h9) (fun a9 h9 => hf_2544.mem h9)
  have hGt_2650 : Gt 2 [q_2540, q_2545, q_2546, q_2547, q_2548, q_2549, q_2550, q_2551, q_2552] S_2592 := ⟨fun i9 k9 h9 => (match i9, h9 with | 0, h9 => (by have e9 : (1 : Nat) = k9 := Option.some.inj h9; subst e9; exact ⟨hm_2609, hk_2610⟩) | 1, h9 => (by have e9 : (7 : Nat) = k9 := Option.some.inj h9; subst e9; exact ⟨e_2554, e_2555⟩) | 2, h9 => (by have e9 : (14 : Nat) = k9 := Option.some.inj h9; subst e9; exact ⟨e_2558, e_2559⟩) | 3, h9 => (by have e9 : (4 : Nat) = k9 := Option.some.inj h9; subst e9; exact ⟨e_2563, e_2564⟩) | 4, h9 => (by have e9 : (14 : Nat) = k9 := Option.some.inj h9; subst e9; exact ⟨e_2567, e_2568⟩) | 5, h9 => (by have e9 : (10 : Nat) = k9 := Option.some.inj h9; subst e9; exact ⟨e_2572, e_2573⟩) | 6, h9 => (by have e9 : (15 : Nat) = k9 := Option.some.inj h9; subst e9; exact ⟨e_2576, e_2577⟩) | 7, h9 => (by have e9 : (14 : Nat) = k9 := Option.some.inj h9; subst e9; exact ⟨e_2581, e_2582⟩) | 8, h9 => (by have e9 : (14 : Nat) = k9 := Option.some.inj h9; subst e9; exact ⟨e_2586, e_2587⟩) | i9 + 9, h9 => absurd h9 (by simp [gT])), (List.forall_mem_cons.mpr ⟨e_2560, (List.forall_mem_cons.mpr ⟨e_2569, (List.forall_mem_cons.mpr ⟨e_2578, (List.forall_mem_cons.mpr ⟨e_2583, (List.forall_mem_cons.mpr ⟨e_2588, (fun _ h9 => absurd h9 List.not_mem_nil)⟩)⟩)⟩)⟩)⟩), (List.forall_mem_cons.mpr ⟨e_2556, (List.forall_mem_cons.mpr ⟨e_2561, (List.forall_mem_cons.mpr ⟨e_2565, (List.forall_mem_cons.mpr ⟨e_2570, (List.forall_mem_cons.mpr ⟨e_2574, (List.forall_mem_cons.mpr ⟨e_2579, (List.forall_mem_cons.mpr ⟨e_2584, (List.forall_mem_cons.mpr ⟨e_2589, (fun _ h9 => absurd h9 List.not_mem_nil)⟩)⟩)⟩)⟩)⟩)⟩)⟩)⟩), (fun _ h9 => absurd h9 List.not_mem_nil)⟩
  have hG_2651 : Gs h [(3, [q_1, q_5, q_6]), (4, [q_37, q_43, q_44, q_45, q_46, q_47, q_48, q_49, q_50]), (0, [q_118, q_124]), (1, [q_169, q_174]), (0, [q_206, q_212]), (2, [q_302, q_307, q_308, q_309, q_310, q_311, q_312, q_313, q_314]), (2, [q_395, q_401, q_402, q_403, q_404, q_405, q_406, q_407, q_408]), (1, [q_621, q_626]), (1, [q_740, q_745]), (1, [q_860, q_865]), (1, [q_980, q_985]), (1, [q_1100, q_1105]), (1, [q_1220, q_1225]), (1, [q_1340, q_1345]), (1, [q_1460, q_1465]), (1, [q_1580, q_1585]), (1, [q_1700, q_1705]), (1, [q_1820, q_1825]), (1, [q_1940, q_1945]), (1, [q_2060, q_2065]), (1, [q_2180, q_2185]), (1, [q_2300, q_2305]), (1, [q_2420, q_2425]), (2, [q_2540, q_2545, q_2546, q_2547, q_2548, q_2549, q_2550, q_2551, q_2552])] S_2592 := Gs.snoc hG_2639 (by decide) hGt_2650 (List.forall_mem_cons.mpr ⟨(fun e9 => hz_2542 (e9 ▸ hm)), (List.forall_mem_cons.mpr ⟨(fun e9 => hz_2641 (e9 ▸ hm)), (List.forall_mem_cons.mpr ⟨(fun e9 => hz_2542 (e9 ▸ hm)), (List.forall_mem_cons.mpr ⟨(fun e9 => hz_2643 (e9 ▸ hm)), (List.forall_mem_cons.mpr ⟨(fun e9 => hz_2542 (e9 ▸ hm)), (List.forall_mem_cons.mpr ⟨(fun e9 => hz_2645 (e9 ▸ hm)), (List.forall_mem_cons.mpr ⟨(fun e9 => hz_2542 (e9 ▸ hm)), (List.forall_mem_cons.mpr ⟨(fun e9 => hz_2542 (e9 ▸ hm)), (fun _ h9 => absurd h9 List.not_mem_nil)⟩)⟩)⟩)⟩)⟩)⟩)⟩)⟩)
  refine j_aast (j := 0) (ci := 1) C 18  (by decide) rfl dX9_init_189 hm_2614 hk_2615 (inr_of (n := 3) hn_2616 (vp_lit (by decide))) (by decide) hm_2609 hk_2610 rfl ?_
  have hf_2654 : Fm (fun _ _ => False) (fun f9 b9 => b9 = h) (fun _ => False) S (tR S_2592 q_490 0 (some q_2540)) := (hf_2637.tR _ _ (fun h9 => absurd h9 hz_493))
  obtain ⟨S_2652, eS_2653⟩ : ∃ S9 : Hp, S9 = (tR S_2592 q_490 0 (some q_2540)) := ⟨_, rfl⟩
  refine J.eq (S' := S_2652) eS_2653.symm rfl rfl ?_
  have hm_2655 : h ∈ hL S_2652 := by rw [eS_2653]; exact hm_2601
  have hk_2656 : Kd S_2652 h 9 := by rw [eS_2653]; exact hk_2602
  have hm_2657 : q_149 ∈ hL S_2652 := by rw [eS_2653]; exact hm_2603
  have hk_2658 : Kd S_2652 q_149 20 := by rw [eS_2653]; exact hk_2604
  have hn_2659 : Ln S_2652 q_149 16 := by rw [eS_2653]; exact hn_2605
  have hz_2660 : ∀ j, aI S_2652 q_149 j = 0 := by rw [eS_2653]; exact hz_2595
  have hm_2661 : q_244 ∈ hL S_2652 := by rw [eS_2653]; exact hm_2606
  have hk_2662 : Kd S_2652 q_244 13 := by rw [eS_2653]; exact hk_2607
  have hn_2663 : Ln S_2652 q_244 24000 := by rw [eS_2653]; exact hn_2608
  have hz_2664 : ∀ j, aI S_2652 q_244 j = 0 := by rw [eS_2653]; exact hz_2596
  have hm_2665 : q_2540 ∈ hL S_2652 := by rw [eS_2653]; exact hm_2609
  have hk_2666 : Kd S_2652 q_2540 1 := by rw [eS_2653]; exact hk_2610
  have hm_2667 : q_271 ∈ hL S_2652 := by rw [eS_2653]; exact hm_2611
  have hk_2668 : Kd S_2652 q_271 14 := by rw [eS_2653]; exact hk_2612
  have hn_2669 : Ln S_2652 q_271 16 := by rw [eS_2653]; exact hn_2613
  have hz_2670 : ∀ j, aI S_2652 q_271 j = 0 := by rw [eS_2653]; exact hz_2597
  have hm_2671 : q_490 ∈ hL S_2652 := by rw [eS_2653]; exact hm_2614
  have hk_2672 : Kd S_2652 q_490 18 := by rw [eS_2653]; exact hk_2615
  have hn_2673 : Ln S_2652 q_490 3 := by rw [eS_2653]; exact hn_2616
  have hz_2674 : ∀ j, aI S_2652 q_490 j = 0 := by rw [eS_2653]; exact hz_2598
  have hm_2675 : q_529 ∈ hL S_2652 := by rw [eS_2653]; exact hm_2617
  have hk_2676 : Kd S_2652 q_529 19 := by rw [eS_2653]; exact hk_2618
  have hn_2677 : Ln S_2652 q_529 4 := by rw [eS_2653]; exact hn_2619
  have hz_2678 : ∀ j, aI S_2652 q_529 j = 0 := by rw [eS_2653]; exact hz_2599
  have hm_2679 : q_572 ∈ hL S_2652 := by rw [eS_2653]; exact hm_2620
  have hk_2680 : Kd S_2652 q_572 14 := by rw [eS_2653]; exact hk_2621
  have hn_2681 : Ln S_2652 q_572 12 := by rw [eS_2653]; exact hn_2622
  have hz_2682 : ∀ j, aI S_2652 q_572 j = 0 := by rw [eS_2653]; exact hz_2600
  have hv_2683 : hR S_2652 100 q_2540 = (some q_2545) := by rw [eS_2653]; exact e_2556
  have hv_2684 : hR S_2652 101 q_2540 = (some q_2547) := by rw [eS_2653]; exact e_2565
  have hv_2685 : hR S_2652 102 q_2540 = (some q_2549) := by rw [eS_2653]; exact e_2574
  have hv_2686 : hR S_2652 103 q_2540 = (some q_2551) := by rw [eS_2653]; exact e_2584
  have hv_2687 : hR S_2652 104 q_2540 = (some q_2552) := by rw [eS_2653]; exact e_2589
  have hv_2688 : hR S_2652 900 h = (some s0) := by rw [eS_2653]; exact hv_2623
  have hv_2689 : hR S_2652 901 h = (some q_1) := by rw [eS_2653]; exact hv_2624
  have hv_2690 : hR S_2652 902 h = (some q_37) := by rw [eS_2653]; exact hv_2625
  have hv_2691 : hR S_2652 903 h = (some q_118) := by rw [eS_2653]; exact hv_2626
  have hv_2692 : hR S_2652 904 h = (some q_149) := by rw [eS_2653]; exact hv_2627
  have hv_2693 : hR S_2652 905 h = (some q_169) := by rw [eS_2653]; exact hv_2628
  have hv_2694 : hR S_2652 906 h = (some q_206) := by rw [eS_2653]; exact hv_2629
  have hv_2695 : hR S_2652 907 h = (some q_244) := by rw [eS_2653]; exact hv_2630
  have hv_2696 : hR S_2652 908 h = (some q_271) := by rw [eS_2653]; exact hv_2631
  have hv_2697 : hR S_2652 909 h = (some q_302) := by rw [eS_2653]; exact hv_2632
  have hv_2698 : hR S_2652 910 h = (some q_395) := by rw [eS_2653]; exact hv_2633
  have hv_2699 : hR S_2652 911 h = (some q_490) := by rw [eS_2653]; exact hv_2634
  have hv_2700 : hR S_2652 912 h = (some q_529) := by rw [eS_2653]; exact hv_2635
  have hv_2701 : hR S_2652 917 h = (some q_572) := by rw [eS_2653]; exact hv_2636
  have hf_2702 : Fm (fun _ _ => False) (fun f9 b9 => b9 = h) (fun _ => False) S S_2652 := by rw [eS_2653]; exact hf_2654
  have hN_2703 : NL S [q_1, q_5, q_6, q_37, q_43, q_44, q_45, q_46, q_47, q_48, q_49, q_50, q_118, q_124, q_149, q_169, q_174, q_206, q_212, q_244, q_271, q_302, q_307, q_308, q_309, q_310, q_311, q_312, q_313, q_314, q_395, q_401, q_402, q_403, q_404, q_405, q_406, q_407, q_408, q_490, q_529, q_572, q_621, q_626, q_740, q_745, q_860, q_865, q_980, q_985, q_1100, q_1105, q_1220, q_1225, q_1340, q_1345, q_1460, q_1465, q_1580, q_1585, q_1700, q_1705, q_1820, q_1825, q_1940, q_1945, q_2060, q_2065, q_2180, q_2185, q_2300, q_2305, q_2420, q_2425, q_2540, q_2545, q_2546, q_2547, q_2548, q_2549, q_2550, q_2551, q_2552] S_2652 := by rw [eS_2653]; exact (NL.tR (S := S_2592) hN_2649)
  have hG_2704 : Gs h [(3, [q_1, q_5, q_6]), (4, [q_37, q_43, q_44, q_45, q_46, q_47, q_48, q_49, q_50]), (0, [q_118, q_124]), (1, [q_169, q_174]), (0, [q_206, q_212]), (2, [q_302, q_307, q_308, q_309, q_310, q_311, q_312, q_313, q_314]), (2, [q_395, q_401, q_402, q_403, q_404, q_405, q_406, q_407, q_408]), (1, [q_621, q_626]), (1, [q_740, q_745]), (1, [q_860, q_865]), (1, [q_980, q_985]), (1, [q_1100, q_1105]), (1, [q_1220, q_1225]), (1, [q_1340, q_1345]), (1, [q_1460, q_1465]), (1, [q_1580, q_1585]), (1, [q_1700, q_1705]), (1, [q_1820, q_1825]), (1, [q_1940, q_1945]), (1, [q_2060, q_2065]), (1, [q_2180, q_2185]), (1, [q_2300, q_2305]), (1, [q_2420, q_2425]), (2, [q_2540, q_2545, q_2546, q_2547, q_2548, q_2549, q_2550, q_2551, q_2552])] S_2652 := by rw [eS_2653]; exact (Gs.tR (S := S_2592) hG_2651)
  have hE_2705 : ELs S_2652 q_149 [q_621, q_740, q_860, q_980, q_1100, q_1220, q_1340, q_1460, q_1580, q_1700, q_1820, q_1940, q_2060, q_2180, q_2300, q_2420] := by rw [eS_2653]; exact (ELs.tRx (S := S_2592) (fun e9 => absurd ((hk_2604).symm.trans ((congrArg (hK _) e9).trans hk_2615)) (by decide)) hE_2640)
  have hE_2706 : ELs S_2652 q_490 [q_2540] := by rw [eS_2653]; exact (show ELs (tR S_2592 q_490 0 (some q_2540)) q_490 [q_2540] from ELs.snoc (ELs.nil (S := S_2592) (a := q_490)) rfl)
  refine j_iinc (q := 0) (v := 1) (lv' := [(2, .int 1), (0, .ref h), (1, .ref s0)]) C dX9_init_190 rfl (by decide) (by rw [hn9]; decide) rfl ?_
  refine j_goto (tgt := 168) C dX9_init_193 (by decide) ?_
  refine j_iload_n C dX9_init_168 rfl 0 rfl ?_
  show J _ _ _ _ _ 169 _
  refine j_aload_n C dX9_init_169 rfl 1 rfl ?_
  refine j_getr (f := 911) (v := q_490) C flX9_64 dX9_init_170 hm_2655 hk_2656 (by decide) rfl hv_2699 ?_
  refine j_alen (v := 3) C dX9_init_173 hm_2671 hk_2672 (by decide) (by decide) (len_of (n := 3) hn_2673 (by decide)) ?_
  refine j_ic_ge (tgt := 196) C dX9_init_174 (by decide) (fun c9 => absurd c9 (by decide)) (fun c9 => ?_)
  refine j_aload_n C dX9_init_177 rfl 1 rfl ?_
  refine j_getr (f := 911) (v := q_490) C flX9_64 dX9_init_178 hm_2655 hk_2656 (by decide) rfl hv_2699 ?_
  refine j_iload_n C dX9_init_181 rfl 0 rfl ?_
  refine j_new (N := 21) C (ci := 1) rfl rfl klX9_54 knX1 kiX1 (M.cells (by decide)) (M.slots (by decide)) dX9_init_182 (fun q_2707 hq_2708 => ?_)
  have hz_2709 : q_2707 ∉ hL S := fun h9 => hq_2708 (hf_2702.mem h9)
  have gn_2710 : ∀ g9 ∈ ([(3, [q_1, q_5, q_6]), (4, [q_37, q_43, q_44, q_45, q_46, q_47, q_48, q_49, q_50]), (0, [q_118, q_124]), (1, [q_169, q_174]), (0, [q_206, q_212]), (2, [q_302, q_307, q_308, q_309, q_310, q_311, q_312, q_313, q_314]), (2, [q_395, q_401, q_402, q_403, q_404, q_405, q_406, q_407, q_408]), (1, [q_621, q_626]), (1, [q_740, q_745]), (1, [q_860, q_865]), (1, [q_980, q_985]), (1, [q_1100, q_1105]), (1, [q_1220, q_1225]), (1, [q_1340, q_1345]), (1, [q_1460, q_1465]), (1, [q_1580, q_1585]), (1, [q_1700, q_1705]), (1, [q_1820, q_1825]), (1, [q_1940, q_1945]), (1, [q_2060, q_2065]), (1, [q_2180, q_2185]), (1, [q_2300, q_2305]), (1, [q_2420, q_2425]), (2, [q_2540, q_2545, q_2546, q_2547, q_2548, q_2549, q_2550, q_2551, q_2552])] : List (Nat × List Nat)), ∀ p9 ∈ (gT g9.1).2.2, g9.2.getD p9.2.1 0 ≠ q_2707 := Gs.ne hG_2704 hq_2708
  show J _ _ _ _ _ 185 _
  refine j_dup C dX9_init_185 rfl ?_
  have hf_2711 : Fm (fun _ _ => False) (fun f9 b9 => b9 = h) (fun _ => False) S (nO S_2652 q_2707 1) := (hf_2702.nO _ hq_2708)
  refine j_callI C [] [.ref q_2707, .int 1, .ref q_490] mlX9_56 mcX1_init (c_X1_init (nO S_2652 q_2707 1) q_2707 mem_new (kd_nO' (k := 1))) (M.rm (by decide) (by decide) (Nat.le_of_ble_eq_true rfl) (Nat.le_of_ble_eq_true rfl)) rfl rfl (Nat.le_of_ble_eq_true rfl) dX9_init_186 (fun r_2758 S_2759 hp_2760 => ?_)
  obtain ⟨rfl, hf_2761, q_2712, q_2713, q_2714, q_2715, q_2716, q_2717, q_2718, q_2719, e_2720, e_2721, e_2722, e_2723, e_2724, e_2725, e_2726, e_2727, e_2728, e_2729, e_2730, e_2731, e_2732, e_2733, e_2734, e_2735, e_2736, e_2737, e_2738, e_2739, e_2740, e_2741, e_2742, e_2743, e_2744, e_2745, e_2746, e_2747, e_2748, e_2749, e_2750, e_2751, e_2752, e_2753, e_2754, e_2755, e_2756, hNl_2757⟩ := hp_2760
  refine J.eq (st' := [.ref q_2707, .int 1, .ref q_490]) rfl rfl rfl ?_
  have hz_2762 : ∀ j, aI S_2759 q_149 j = 0 := fun j9 => (hf_2761.ai (mem_old hm_2657) (fun h9 => h9) j9).trans (hz_2660 j9)
  have hz_2763 : ∀ j, aI S_2759 q_244 j = 0 := fun j9 => (hf_2761.ai (mem_old hm_2661) (fun h9 => h9) j9).trans (hz_2664 j9)
  have hz_2764 : ∀ j, aI S_2759 q_271 j = 0 := fun j9 => (hf_2761.ai (mem_old hm_2667) (fun h9 => h9) j9).trans (hz_2670 j9)
  have hz_2765 : ∀ j, aI S_2759 q_490 j = 0 := fun j9 => (hf_2761.ai (mem_old hm_2671) (fun h9 => h9) j9).trans (hz_2674 j9)
  have hz_2766 : ∀ j, aI S_2759 q_529 j = 0 := fun j9 => (hf_2761.ai (mem_old hm_2675) (fun h9 => h9) j9).trans (hz_2678 j9)
  have hz_2767 : ∀ j, aI S_2759 q_572 j = 0 := fun j9 => (hf_2761.ai (mem_old hm_2679) (fun h9 => h9) j9).trans (hz_2682 j9)
  have hm_2768 : h ∈ hL S_2759 := hf_2761.mem (mem_old hm_2655)
  have hk_2769 : Kd S_2759 h 9 := hf_2761.kd (mem_old hm_2655) (kd_nO (k := 1) hq_2708 hm_2655 hk_2656)
  have hm_2770 : q_149 ∈ hL S_2759 := hf_2761.mem (mem_old hm_2657)
  have hk_2771 : Kd S_2759 q_149 20 := hf_2761.kd (mem_old hm_2657) (kd_nO (k := 1) hq_2708 hm_2657 hk_2658)
  have hn_2772 : Ln S_2759 q_149 16 := hf_2761.ln (mem_old hm_2657) hn_2659
  have hm_2773 : q_244 ∈ hL S_2759 := hf_2761.mem (mem_old hm_2661)
  have hk_2774 : Kd S_2759 q_244 13 := hf_2761.kd (mem_old hm_2661) (kd_nO (k := 1) hq_2708 hm_2661 hk_2662)
  have hn_2775 : Ln S_2759 q_244 24000 := hf_2761.ln (mem_old hm_2661) hn_2663
  have hm_2776 : q_2707 ∈ hL S_2759 := hf_2761.mem mem_new
  have hk_2777 : Kd S_2759 q_2707 1 := hf_2761.kd mem_new (kd_nO' (k := 1))
  have hm_2778 : q_271 ∈ hL S_2759 := hf_2761.mem (mem_old hm_2667)
  have hk_2779 : Kd S_2759 q_271 14 := hf_2761.kd (mem_old hm_2667) (kd_nO (k := 1) hq_2708 hm_2667 hk_2668)
  have hn_2780 : Ln S_2759 q_271 16 := hf_2761.ln (mem_old hm_2667) hn_2669
  have hm_2781 : q_490 ∈ hL S_2759 := hf_2761.mem (mem_old hm_2671)
  have hk_2782 : Kd S_2759 q_490 18 := hf_2761.kd (mem_old hm_2671) (kd_nO (k := 1) hq_2708 hm_2671 hk_2672)
  have hn_2783 : Ln S_2759 q_490 3 := hf_2761.ln (mem_old hm_2671) hn_2673
  have hm_2784 : q_529 ∈ hL S_2759 := hf_2761.mem (mem_old hm_2675)
  have hk_2785 : Kd S_2759 q_529 19 := hf_2761.kd (mem_old hm_2675) (kd_nO (k := 1) hq_2708 hm_2675 hk_2676)
  have hn_2786 : Ln S_2759 q_529 4 := hf_2761.ln (mem_old hm_2675) hn_2677
  have hm_2787 : q_572 ∈ hL S_2759 := hf_2761.mem (mem_old hm_2679)
  have hk_2788 : Kd S_2759 q_572 14 := hf_2761.kd (mem_old hm_2679) (kd_nO (k := 1) hq_2708 hm_2679 hk_2680)
  have hn_2789 : Ln S_2759 q_572 12 := hf_2761.ln (mem_old hm_2679) hn_2681
  have hv_2790 : hR S_2759 900 h = (some s0) := hf_2761.fr (mem_old hm_2655) (fun q9 => (fun e9 => absurd (((kd_nO (k := 1) hq_2708 hm_2655 hk_2656)).symm.trans ((congrArg (hK _) e9).trans (kd_nO' (k := 1)))) (by decide)) q9) (rd_nOR (k := 1) hq_2708 hm_2655 hv_2688)
  have hv_2791 : hR S_2759 901 h = (some q_1) := hf_2761.fr (mem_old hm_2655) (fun q9 => (fun e9 => absurd (((kd_nO (k := 1) hq_2708 hm_2655 hk_2656)).symm.trans ((congrArg (hK _) e9).trans (kd_nO' (k := 1)))) (by decide)) q9) (rd_nOR (k := 1) hq_2708 hm_2655 hv_2689)
  have hv_2792 : hR S_2759 902 h = (some q_37) := hf_2761.fr (mem_old hm_2655) (fun q9 => (fun e9 => absurd (((kd_nO (k := 1) hq_2708 hm_2655 hk_2656)).symm.trans ((congrArg (hK _) e9).trans (kd_nO' (k := 1)))) (by decide)) q9) (rd_nOR (k := 1) hq_2708 hm_2655 hv_2690)
  have hv_2793 : hR S_2759 903 h = (some q_118) := hf_2761.fr (mem_old hm_2655) (fun q9 => (fun e9 => absurd (((kd_nO (k := 1) hq_2708 hm_2655 hk_2656)).symm.trans ((congrArg (hK _) e9).trans (kd_nO' (k := 1)))) (by decide)) q9) (rd_nOR (k := 1) hq_2708 hm_2655 hv_2691)
  have hv_2794 : hR S_2759 904 h = (some q_149) := hf_2761.fr (mem_old hm_2655) (fun q9 => (fun e9 => absurd (((kd_nO (k := 1) hq_2708 hm_2655 hk_2656)).symm.trans ((congrArg (hK _) e9).trans (kd_nO' (k := 1)))) (by decide)) q9) (rd_nOR (k := 1) hq_2708 hm_2655 hv_2692)
  have hv_2795 : hR S_2759 905 h = (some q_169) := hf_2761.fr (mem_old hm_2655) (fun q9 => (fun e9 => absurd (((kd_nO (k := 1) hq_2708 hm_2655 hk_2656)).symm.trans ((congrArg (hK _) e9).trans (kd_nO' (k := 1)))) (by decide)) q9) (rd_nOR (k := 1) hq_2708 hm_2655 hv_2693)
  have hv_2796 : hR S_2759 906 h = (some q_206) := hf_2761.fr (mem_old hm_2655) (fun q9 => (fun e9 => absurd (((kd_nO (k := 1) hq_2708 hm_2655 hk_2656)).symm.trans ((congrArg (hK _) e9).trans (kd_nO' (k := 1)))) (by decide)) q9) (rd_nOR (k := 1) hq_2708 hm_2655 hv_2694)
  have hv_2797 : hR S_2759 907 h = (some q_244) := hf_2761.fr (mem_old hm_2655) (fun q9 => (fun e9 => absurd (((kd_nO (k := 1) hq_2708 hm_2655 hk_2656)).symm.trans ((congrArg (hK _) e9).trans (kd_nO' (k := 1)))) (by decide)) q9) (rd_nOR (k := 1) hq_2708 hm_2655 hv_2695)
  have hv_2798 : hR S_2759 908 h = (some q_271) := hf_2761.fr (mem_old hm_2655) (fun q9 => (fun e9 => absurd (((kd_nO (k := 1) hq_2708 hm_2655 hk_2656)).symm.trans ((congrArg (hK _) e9).trans (kd_nO' (k := 1)))) (by decide)) q9) (rd_nOR (k := 1) hq_2708 hm_2655 hv_2696)
  have hv_2799 : hR S_2759 909 h = (some q_302) := hf_2761.fr (mem_old hm_2655) (fun q9 => (fun e9 => absurd (((kd_nO (k := 1) hq_2708 hm_2655 hk_2656)).symm.trans ((congrArg (hK _) e9).trans (kd_nO' (k := 1)))) (by decide)) q9) (rd_nOR (k := 1) hq_2708 hm_2655 hv_2697)
  have hv_2800 : hR S_2759 910 h = (some q_395) := hf_2761.fr (mem_old hm_2655) (fun q9 => (fun e9 => absurd (((kd_nO (k := 1) hq_2708 hm_2655 hk_2656)).symm.trans ((congrArg (hK _) e9).trans (kd_nO' (k := 1)))) (by decide)) q9) (rd_nOR (k := 1) hq_2708 hm_2655 hv_2698)
  have hv_2801 : hR S_2759 911 h = (some q_490) := hf_2761.fr (mem_old hm_2655) (fun q9 => (fun e9 => absurd (((kd_nO (k := 1) hq_2708 hm_2655 hk_2656)).symm.trans ((congrArg (hK _) e9).trans (kd_nO' (k := 1)))) (by decide)) q9) (rd_nOR (k := 1) hq_2708 hm_2655 hv_2699)
  have hv_2802 : hR S_2759 912 h = (some q_529) := hf_2761.fr (mem_old hm_2655) (fun q9 => (fun e9 => absurd (((kd_nO (k := 1) hq_2708 hm_2655 hk_2656)).symm.trans ((congrArg (hK _) e9).trans (kd_nO' (k := 1)))) (by decide)) q9) (rd_nOR (k := 1) hq_2708 hm_2655 hv_2700)
  have hv_2803 : hR S_2759 917 h = (some q_572) := hf_2761.fr (mem_old hm_2655) (fun q9 => (fun e9 => absurd (((kd_nO (k := 1) hq_2708 hm_2655 hk_2656)).symm.trans ((congrArg (hK _) e9).trans (kd_nO' (k := 1)))) (by decide)) q9) (rd_nOR (k := 1) hq_2708 hm_2655 hv_2701)
  have hf_2804 : Fm (fun _ _ => False) (fun f9 b9 => b9 = h) (fun _ => False) S S_2759 := hf_2711.then hf_2761 (fun a9 ha9 => ⟨(fun f9 h9 => h9.elim), (fun f9 h9 => (fun h8 => absurd (h8 ▸ ha9) hz_2709) h9), (fun h9 => h9.elim)⟩)
  have hN_2805 : NL S [q_1, q_5, q_6, q_37, q_43, q_44, q_45, q_46, q_47, q_48, q_49, q_50, q_118, q_124, q_149, q_169, q_174, q_206, q_212, q_244, q_271, q_302, q_307, q_308, q_309, q_310, q_311, q_312, q_313, q_314, q_395, q_401, q_402, q_403, q_404, q_405, q_406, q_407, q_408, q_490, q_529, q_572, q_621, q_626, q_740, q_745, q_860, q_865, q_980, q_985, q_1100, q_1105, q_1220, q_1225, q_1340, q_1345, q_1460, q_1465, q_1580, q_1585, q_1700, q_1705, q_1820, q_1825, q_1940, q_1945, q_2060, q_2065, q_2180, q_2185, q_2300, q_2305, q_2420, q_2425, q_2540, q_2545, q_2546, q_2547, q_2548, q_2549, q_2550, q_2551, q_2552, q_2707] S_2759 := NL.mono (show NL S [q_1, q_5, q_6, q_37, q_43, q_44, q_45, q_46, q_47, q_48, q_49, q_50, q_118, q_124, q_149, q_169, q_174, q_206, q_212, q_244, q_271, q_302, q_307, q_308, q_309, q_310, q_311, q_312, q_313, q_314, q_395, q_401, q_402, q_403, q_404, q_405, q_406, q_407, q_408, q_490, q_529, q_572, q_621, q_626, q_740, q_745, q_860, q_865, q_980, q_985, q_1100, q_1105, q_1220, q_1225, q_1340, q_1345, q_1460, q_1465, q_1580, q_1585, q_1700, q_1705, q_1820, q_1825, q_1940, q_1945, q_2060, q_2065, q_2180, q_2185, q_2300, q_2305, q_2420, q_2425, q_2540, q_2545, q_2546, q_2547, q_2548, q_2549, q_2550, q_2551, q_2552, q_2707] (nO S_2652 q_2707 1) from NL.nO hN_2703 hq_2708 hz_2709) (fun a9 h9 => hf_2761.mem h9)
  have hG_2806 : Gs h [(3, [q_1, q_5, q_6]), (4, [q_37, q_43, q_44, q_45, q_46, q_47, q_48, q_49, q_50]), (0, [q_118, q_124]), (1, [q_169, q_174]), (0, [q_206, q_212]), (2, [q_302, q_307, q_308, q_309, q_310, q_311, q_312, q_313, q_314]), (2, [q_395, q_401, q_402, q_403, q_404, q_405, q_406, q_407, q_408]), (1, [q_621, q_626]), (1, [q_740, q_745]), (1, [q_860, q_865]), (1, [q_980, q_985]), (1, [q_1100, q_1105]), (1, [q_1220, q_1225]), (1, [q_1340, q_1345]), (1, [q_1460, q_1465]), (1, [q_1580, q_1585]), (1, [q_1700, q_1705]), (1, [q_1820, q_1825]), (1, [q_1940, q_1945]), (1, [q_2060, q_2065]), (1, [q_2180, q_2185]), (1, [q_2300, q_2305]), (1, [q_2420, q_2425]), (2, [q_2540, q_2545, q_2546, q_2547, q_2548, q_2549, q_2550, q_2551, q_2552])] S_2759 := Gs.fm (show Gs h [(3, [q_1, q_5, q_6]), (4, [q_37, q_43, q_44, q_45, q_46, q_47, q_48, q_49, q_50]), (0, [q_118, q_124]), (1, [q_169, q_174]), (0, [q_206, q_212]), (2, [q_302, q_307, q_308, q_309, q_310, q_311, q_312, q_313, q_314]), (2, [q_395, q_401, q_402, q_403, q_404, q_405, q_406, q_407, q_408]), (1, [q_621, q_626]), (1, [q_740, q_745]), (1, [q_860, q_865]), (1, [q_980, q_985]), (1, [q_1100, q_1105]), (1, [q_1220, q_1225]), (1, [q_1340, q_1345]), (1, [q_1460, q_1465]), (1, [q_1580, q_1585]), (1, [q_1700, q_1705]), (1, [q_1820, q_1825]), (1, [q_1940, q_1945]), (1, [q_2060, q_2065]), (1, [q_2180, q_2185]), (1, [q_2300, q_2305]), (1, [q_2420, q_2425]), (2, [q_2540, q_2545, q_2546, q_2547, q_2548, q_2549, q_2550, q_2551, q_2552])] (nO S_2652 q_2707 1) from Gs.nO hG_2704 hq_2708) hf_2761 (fun g9 hg9 p9 hp9 => gn_2710 g9 hg9 p9 hp9)
  have hE_2807 : ELs S_2759 q_149 [q_621, q_740, q_860, q_980, q_1100, q_1220, q_1340, q_1460, q_1580, q_1700, q_1820, q_1940, q_2060, q_2180, q_2300, q_2420] := ELs.fm (ELs.nO (S := S_2652) hE_2705) hf_2761 (mem_old hm_2657) (fun h9 => h9)
  have hE_2808 : ELs S_2759 q_490 [q_2540] := ELs.fm (ELs.nO (S := S_2652) hE_2706) hf_2761 (mem_old hm_2671) (fun h9 => h9)
  have hz_2809 : q_2712 ∉ hL S := fun h9 => e_2720 (hf_2711.mem h9)
  have hz_2810 : q_2713 ∉ hL S := fun h9 => e_2724 (hf_2711.mem h9)
  have hz_2811 : q_2714 ∉ hL S := fun h9 => e_2729 (hf_2711.mem h9)
  have hz_2812 : q_2715 ∉ hL S := fun h9 => e_2733 (hf_2711.mem h9)
  have hz_2813 : q_2716 ∉ hL S := fun h9 => e_2738 (hf_2711.mem h9)
  have hz_2814 : q_2717 ∉ hL S := fun h9 => e_2742 (hf_2711.mem h9)
  have hz_2815 : q_2718 ∉ hL S := fun h9 => e_2747 (hf_2711.mem h9)
  have hz_2816 : q_2719 ∉ hL S := fun h9 => e_2752 (hf_2711.mem h9)
  have hN_2817 : NL S [q_1, q_5, q_6, q_37, q_43, q_44, q_45, q_46, q_47, q_48, q_49, q_50, q_118, q_124, q_149, q_169, q_174, q_206, q_212, q_244, q_271, q_302, q_307, q_308, q_309, q_310, q_311, q_312, q_313, q_314, q_395, q_401, q_402, q_403, q_404, q_405, q_406, q_407, q_408, q_490, q_529, q_572, q_621, q_626, q_740, q_745, q_860, q_865, q_980, q_985, q_1100, q_1105, q_1220, q_1225, q_1340, q_1345, q_1460, q_1465, q_1580, q_1585, q_1700, q_1705, q_1820, q_1825, q_1940, q_1945, q_2060, q_2065, q_2180, q_2185, q_2300, q_2305, q_2420, q_2425, q_2540, q_2545, q_2546, q_2547, q_2548, q_2549, q_2550, q_2551, q_2552, q_2707, q_2712, q_2713, q_2714, q_2715, q_2716, q_2717, q_2718, q_2719] S_2759 := NL.app (show NL S [q_1, q_5, q_6, q_37, q_43, q_44, q_45, q_46, q_47, q_48, q_49, q_50, q_118, q_124, q_149, q_169, q_174, q_206, q_212, q_244, q_271, q_302, q_307, q_308, q_309, q_310, q_311, q_312, q_313, q_314, q_395, q_401, q_402, q_403, q_404, q_405, q_406, q_407, q_408, q_490, q_529, q_572, q_621, q_626, q_740, q_745, q_860, q_865, q_980, q_985, q_1100, q_1105, q_1220, q_1225, q_1340, q_1345, q_1460, q_1465, q_1580, q_1585, q_1700, q_1705, q_1820, q_1825, q_1940, q_1945, q_2060, q_2065, q_2180, q_2185, q_2300, q_2305, q_2420, q_2425, q_2540, q_2545, q_2546, q_2547, q_2548, q_2549, q_2550, q_2551, q_2552, q_2707] (nO S_2652 q_2707 1) from NL.nO hN_2703 hq_2708 hz_2709) hNl_2757 (fun a9 h9 => hf_2761.mem h9) (fun a9 h9 => hf_2711.mem h9)
  have hGt_2818 : Gt 2 [q_2707, q_2712, q_2713, q_2714, q_2715, q_2716, q_2717, q_2718, q_2719] S_2759 := ⟨fun i9 k9 h9 => (match i9, h9 with | 0, h9 => (by have e9 : (1 : Nat) = k9 := Option.some.inj h9; subst e9; exact ⟨hm_2776, hk_2777⟩) | 1, h9 => (by have e9 : (7 : Nat) = k9 := Option.some.inj h9; subst e9; exact ⟨e_2721, e_2722⟩) | 2, h9 => (by have e9 : (14 : Nat) = k9 := Option.some.inj h9; subst e9; exact ⟨e_2725, e_2726⟩) | 3, h9 => (by have e9 : (4 : Nat) = k9 := Option.some.inj h9; subst e9; exact ⟨e_2730, e_2731⟩) | 4, h9 => (by have e9 : (14 : Nat) = k9 := Option.some.inj h9; subst e9; exact ⟨e_2734, e_2735⟩) | 5, h9 => (by have e9 : (10 : Nat) = k9 := Option.some.inj h9; subst e9; exact ⟨e_2739, e_2740⟩) | 6, h9 => (by have e9 : (15 : Nat) = k9 := Option.some.inj h9; subst e9; exact ⟨e_2743, e_2744⟩) | 7, h9 => (by have e9 : (14 : Nat) = k9 := Option.some.inj h9; subst e9; exact ⟨e_2748, e_2749⟩) | 8, h9 => (by have e9 : (14 : Nat) = k9 := Option.some.inj h9; subst e9; exact ⟨e_2753, e_2754⟩) | i9 + 9, h9 => absurd h9 (by simp [gT])), (List.forall_mem_cons.mpr ⟨e_2727, (List.forall_mem_cons.mpr ⟨e_2736, (List.forall_mem_cons.mpr ⟨e_2745, (List.forall_mem_cons.mpr ⟨e_2750, (List.forall_mem_cons.mpr ⟨e_2755, (fun _ h9 => absurd h9 List.not_mem_nil)⟩)⟩)⟩)⟩)⟩), (List.forall_mem_cons.mpr ⟨e_2723, (List.forall_mem_cons.mpr ⟨e_2728, (List.forall_mem_cons.mpr ⟨e_2732, (List.forall_mem_cons.mpr ⟨e_2737, (List.forall_mem_cons.mpr ⟨e_2741, (List.forall_mem_cons.mpr ⟨e_2746, (List.forall_mem_cons.mpr ⟨e_2751, (List.forall_mem_cons.mpr ⟨e_2756, (fun _ h9 => absurd h9 List.not_mem_nil)⟩)⟩)⟩)⟩)⟩)⟩)⟩)⟩), (fun _ h9 => absurd h9 List.not_mem_nil)⟩
  have hG_2819 : Gs h [(3, [q_1, q_5, q_6]), (4, [q_37, q_43, q_44, q_45, q_46, q_47, q_48, q_49, q_50]), (0, [q_118, q_124]), (1, [q_169, q_174]), (0, [q_206, q_212]), (2, [q_302, q_307, q_308, q_309, q_310, q_311, q_312, q_313, q_314]), (2, [q_395, q_401, q_402, q_403, q_404, q_405, q_406, q_407, q_408]), (1, [q_621, q_626]), (1, [q_740, q_745]), (1, [q_860, q_865]), (1, [q_980, q_985]), (1, [q_1100, q_1105]), (1, [q_1220, q_1225]), (1, [q_1340, q_1345]), (1, [q_1460, q_1465]), (1, [q_1580, q_1585]), (1, [q_1700, q_1705]), (1, [q_1820, q_1825]), (1, [q_1940, q_1945]), (1, [q_2060, q_2065]), (1, [q_2180, q_2185]), (1, [q_2300, q_2305]), (1, [q_2420, q_2425]), (2, [q_2540, q_2545, q_2546, q_2547, q_2548, q_2549, q_2550, q_2551, q_2552]), (2, [q_2707, q_2712, q_2713, q_2714, q_2715, q_2716, q_2717, q_2718, q_2719])] S_2759 := Gs.snoc hG_2806 (by decide) hGt_2818 (List.forall_mem_cons.mpr ⟨(fun e9 => hz_2709 (e9 ▸ hm)), (List.forall_mem_cons.mpr ⟨(fun e9 => hz_2809 (e9 ▸ hm)), (List.forall_mem_cons.mpr ⟨(fun e9 => hz_2709 (e9 ▸ hm)), (List.forall_mem_cons.mpr ⟨(fun e9 => hz_2811 (e9 ▸ hm)), (List.forall_mem_cons.mpr ⟨(fun e9 => hz_2709 (e9 ▸ hm)), (List.forall_mem_cons.mpr ⟨(fun e9 => hz_2813 (e9 ▸ hm)), (List.forall_mem_cons.mpr ⟨(fun e9 => hz_2709 (e9 ▸ hm)), (List.forall_mem_cons.mpr ⟨(fun e9 => hz_2709 (e9 ▸ hm)), (fun _ h9 => absurd h9 List.not_mem_nil)⟩)⟩)⟩)⟩)⟩)⟩)⟩)⟩)
  refine j_aast (j := 1) (ci := 1) C 18  (by decide) rfl dX9_init_189 hm_2781 hk_2782 (inr_of (n := 3) hn_2783 (vp_lit (by decide))) (by decide) hm_2776 hk_2777 rfl ?_
  have hf_2822 : Fm (fun _ _ => False) (fun f9 b9 => b9 = h) (fun _ => False) S (tR S_2759 q_490 1 (some q_2707)) := (hf_2804.tR _ _ (fun h9 => absurd h9 hz_493))
  obtain ⟨S_2820, eS_2821⟩ : ∃ S9 : Hp, S9 = (tR S_2759 q_490 1 (some q_2707)) := ⟨_, rfl⟩
  refine J.eq (S' := S_2820) eS_2821.symm rfl rfl ?_
  have hm_2823 : h ∈ hL S_2820 := by rw [eS_2821]; exact hm_2768
  have hk_2824 : Kd S_2820 h 9 := by rw [eS_2821]; exact hk_2769
  have hm_2825 : q_149 ∈ hL S_2820 := by rw [eS_2821]; exact hm_2770
  have hk_2826 : Kd S_2820 q_149 20 := by rw [eS_2821]; exact hk_2771
  have hn_2827 : Ln S_2820 q_149 16 := by rw [eS_2821]; exact hn_2772
  have hz_2828 : ∀ j, aI S_2820 q_149 j = 0 := by rw [eS_2821]; exact hz_2762
  have hm_2829 : q_244 ∈ hL S_2820 := by rw [eS_2821]; exact hm_2773
  have hk_2830 : Kd S_2820 q_244 13 := by rw [eS_2821]; exact hk_2774
  have hn_2831 : Ln S_2820 q_244 24000 := by rw [eS_2821]; exact hn_2775
  have hz_2832 : ∀ j, aI S_2820 q_244 j = 0 := by rw [eS_2821]; exact hz_2763
  have hm_2833 : q_2707 ∈ hL S_2820 := by rw [eS_2821]; exact hm_2776
  have hk_2834 : Kd S_2820 q_2707 1 := by rw [eS_2821]; exact hk_2777
  have hm_2835 : q_271 ∈ hL S_2820 := by rw [eS_2821]; exact hm_2778
  have hk_2836 : Kd S_2820 q_271 14 := by rw [eS_2821]; exact hk_2779
  have hn_2837 : Ln S_2820 q_271 16 := by rw [eS_2821]; exact hn_2780
  have hz_2838 : ∀ j, aI S_2820 q_271 j = 0 := by rw [eS_2821]; exact hz_2764
  have hm_2839 : q_490 ∈ hL S_2820 := by rw [eS_2821]; exact hm_2781
  have hk_2840 : Kd S_2820 q_490 18 := by rw [eS_2821]; exact hk_2782
  have hn_2841 : Ln S_2820 q_490 3 := by rw [eS_2821]; exact hn_2783
  have hz_2842 : ∀ j, aI S_2820 q_490 j = 0 := by rw [eS_2821]; exact hz_2765
  have hm_2843 : q_529 ∈ hL S_2820 := by rw [eS_2821]; exact hm_2784
  have hk_2844 : Kd S_2820 q_529 19 := by rw [eS_2821]; exact hk_2785
  have hn_2845 : Ln S_2820 q_529 4 := by rw [eS_2821]; exact hn_2786
  have hz_2846 : ∀ j, aI S_2820 q_529 j = 0 := by rw [eS_2821]; exact hz_2766
  have hm_2847 : q_572 ∈ hL S_2820 := by rw [eS_2821]; exact hm_2787
  have hk_2848 : Kd S_2820 q_572 14 := by rw [eS_2821]; exact hk_2788
  have hn_2849 : Ln S_2820 q_572 12 := by rw [eS_2821]; exact hn_2789
  have hz_2850 : ∀ j, aI S_2820 q_572 j = 0 := by rw [eS_2821]; exact hz_2767
  have hv_2851 : hR S_2820 100 q_2707 = (some q_2712) := by rw [eS_2821]; exact e_2723
  have hv_2852 : hR S_2820 101 q_2707 = (some q_2714) := by rw [eS_2821]; exact e_2732
  have hv_2853 : hR S_2820 102 q_2707 = (some q_2716) := by rw [eS_2821]; exact e_2741
  have hv_2854 : hR S_2820 103 q_2707 = (some q_2718) := by rw [eS_2821]; exact e_2751
  have hv_2855 : hR S_2820 104 q_2707 = (some q_2719) := by rw [eS_2821]; exact e_2756
  have hv_2856 : hR S_2820 900 h = (some s0) := by rw [eS_2821]; exact hv_2790
  have hv_2857 : hR S_2820 901 h = (some q_1) := by rw [eS_2821]; exact hv_2791
  have hv_2858 : hR S_2820 902 h = (some q_37) := by rw [eS_2821]; exact hv_2792
  have hv_2859 : hR S_2820 903 h = (some q_118) := by rw [eS_2821]; exact hv_2793
  have hv_2860 : hR S_2820 904 h = (some q_149) := by rw [eS_2821]; exact hv_2794
  have hv_2861 : hR S_2820 905 h = (some q_169) := by rw [eS_2821]; exact hv_2795
  have hv_2862 : hR S_2820 906 h = (some q_206) := by rw [eS_2821]; exact hv_2796
  have hv_2863 : hR S_2820 907 h = (some q_244) := by rw [eS_2821]; exact hv_2797
  have hv_2864 : hR S_2820 908 h = (some q_271) := by rw [eS_2821]; exact hv_2798
  have hv_2865 : hR S_2820 909 h = (some q_302) := by rw [eS_2821]; exact hv_2799
  have hv_2866 : hR S_2820 910 h = (some q_395) := by rw [eS_2821]; exact hv_2800
  have hv_2867 : hR S_2820 911 h = (some q_490) := by rw [eS_2821]; exact hv_2801
  have hv_2868 : hR S_2820 912 h = (some q_529) := by rw [eS_2821]; exact hv_2802
  have hv_2869 : hR S_2820 917 h = (some q_572) := by rw [eS_2821]; exact hv_2803
  have hf_2870 : Fm (fun _ _ => False) (fun f9 b9 => b9 = h) (fun _ => False) S S_2820 := by rw [eS_2821]; exact hf_2822
  have hN_2871 : NL S [q_1, q_5, q_6, q_37, q_43, q_44, q_45, q_46, q_47, q_48, q_49, q_50, q_118, q_124, q_149, q_169, q_174, q_206, q_212, q_244, q_271, q_302, q_307, q_308, q_309, q_310, q_311, q_312, q_313, q_314, q_395, q_401, q_402, q_403, q_404, q_405, q_406, q_407, q_408, q_490, q_529, q_572, q_621, q_626, q_740, q_745, q_860, q_865, q_980, q_985, q_1100, q_1105, q_1220, q_1225, q_1340, q_1345, q_1460, q_1465, q_1580, q_1585, q_1700, q_1705, q_1820, q_1825, q_1940, q_1945, q_2060, q_2065, q_2180, q_2185, q_2300, q_2305, q_2420, q_2425, q_2540, q_2545, q_2546, q_2547, q_2548, q_2549, q_2550, q_2551, q_2552, q_2707, q_2712, q_2713, q_2714, q_2715, q_2716, q_2717, q_2718, q_2719] S_2820 := by rw [eS_2821]; exact (NL.tR (S := S_2759) hN_2817)
  have hG_2872 : Gs h [(3, [q_1, q_5, q_6]), (4, [q_37, q_43, q_44, q_45, q_46, q_47, q_48, q_49, q_50]), (0, [q_118, q_124]), (1, [q_169, q_174]), (0, [q_206, q_212]), (2, [q_302, q_307, q_308, q_309, q_310, q_311, q_312, q_313, q_314]), (2, [q_395, q_401, q_402, q_403, q_404, q_405, q_406, q_407, q_408]), (1, [q_621, q_626]), (1, [q_740, q_745]), (1, [q_860, q_865]), (1, [q_980, q_985]), (1, [q_1100, q_1105]), (1, [q_1220, q_1225]), (1, [q_1340, q_1345]), (1, [q_1460, q_1465]), (1, [q_1580, q_1585]), (1, [q_1700, q_1705]), (1, [q_1820, q_1825]), (1, [q_1940, q_1945]), (1, [q_2060, q_2065]), (1, [q_2180, q_2185]), (1, [q_2300, q_2305]), (1, [q_2420, q_2425]), (2, [q_2540, q_2545, q_2546, q_2547, q_2548, q_2549, q_2550, q_2551, q_2552]), (2, [q_2707, q_2712, q_2713, q_2714, q_2715, q_2716, q_2717, q_2718, q_2719])] S_2820 := by rw [eS_2821]; exact (Gs.tR (S := S_2759) hG_2819)
  have hE_2873 : ELs S_2820 q_149 [q_621, q_740, q_860, q_980, q_1100, q_1220, q_1340, q_1460, q_1580, q_1700, q_1820, q_1940, q_2060, q_2180, q_2300, q_2420] := by rw [eS_2821]; exact (ELs.tRx (S := S_2759) (fun e9 => absurd ((hk_2771).symm.trans ((congrArg (hK _) e9).trans hk_2782)) (by decide)) hE_2807)
  have hE_2874 : ELs S_2820 q_490 [q_2540, q_2707] := by rw [eS_2821]; exact (show ELs (tR S_2759 q_490 1 (some q_2707)) q_490 [q_2540, q_2707] from ELs.snoc hE_2808 rfl)
  refine j_iinc (q := 0) (v := 2) (lv' := [(2, .int 2), (0, .ref h), (1, .ref s0)]) C dX9_init_190 rfl (by decide) (by rw [hn9]; decide) rfl ?_
  refine j_goto (tgt := 168) C dX9_init_193 (by decide) ?_
  refine j_iload_n C dX9_init_168 rfl 0 rfl ?_
  refine j_aload_n C dX9_init_169 rfl 1 rfl ?_
  refine j_getr (f := 911) (v := q_490) C flX9_64 dX9_init_170 hm_2823 hk_2824 (by decide) rfl hv_2867 ?_
  show J _ _ _ _ _ 173 _
  refine j_alen (v := 3) C dX9_init_173 hm_2839 hk_2840 (by decide) (by decide) (len_of (n := 3) hn_2841 (by decide)) ?_
  refine j_ic_ge (tgt := 196) C dX9_init_174 (by decide) (fun c9 => absurd c9 (by decide)) (fun c9 => ?_)
  refine j_aload_n C dX9_init_177 rfl 1 rfl ?_
  refine j_getr (f := 911) (v := q_490) C flX9_64 dX9_init_178 hm_2823 hk_2824 (by decide) rfl hv_2867 ?_
  refine j_iload_n C dX9_init_181 rfl 0 rfl ?_
  refine j_new (N := 21) C (ci := 1) rfl rfl klX9_54 knX1 kiX1 (M.cells (by decide)) (M.slots (by decide)) dX9_init_182 (fun q_2875 hq_2876 => ?_)
  have hz_2877 : q_2875 ∉ hL S := fun h9 => hq_2876 (hf_2870.mem h9)
  have gn_2878 : ∀ g9 ∈ ([(3, [q_1, q_5, q_6]), (4, [q_37, q_43, q_44, q_45, q_46, q_47, q_48, q_49, q_50]), (0, [q_118, q_124]), (1, [q_169, q_174]), (0, [q_206, q_212]), (2, [q_302, q_307, q_308, q_309, q_310, q_311, q_312, q_313, q_314]), (2, [q_395, q_401, q_402, q_403, q_404, q_405, q_406, q_407, q_408]), (1, [q_621, q_626]), (1, [q_740, q_745]), (1, [q_860, q_865]), (1, [q_980, q_985]), (1, [q_1100, q_1105]), (1, [q_1220, q_1225]), (1, [q_1340, q_1345]), (1, [q_1460, q_1465]), (1, [q_1580, q_1585]), (1, [q_1700, q_1705]), (1, [q_1820, q_1825]), (1, [q_1940, q_1945]), (1, [q_2060, q_2065]), (1, [q_2180, q_2185]), (1, [q_2300, q_2305]), (1, [q_2420, q_2425]), (2, [q_2540, q_2545, q_2546, q_2547, q_2548, q_2549, q_2550, q_2551, q_2552]), (2, [q_2707, q_2712, q_2713, q_2714, q_2715, q_2716, q_2717, q_2718, q_2719])] : List (Nat × List Nat)), ∀ p9 ∈ (gT g9.1).2.2, g9.2.getD p9.2.1 0 ≠ q_2875 := Gs.ne hG_2872 hq_2876
  refine j_dup C dX9_init_185 rfl ?_
  have hf_2879 : Fm (fun _ _ => False) (fun f9 b9 => b9 = h) (fun _ => False) S (nO S_2820 q_2875 1) := (hf_2870.nO _ hq_2876)
  refine j_callI C [] [.ref q_2875, .int 2, .ref q_490] mlX9_56 mcX1_init (c_X1_init (nO S_2820 q_2875 1) q_2875 mem_new (kd_nO' (k := 1))) (M.rm (by decide) (by decide) (Nat.le_of_ble_eq_true rfl) (Nat.le_of_ble_eq_true rfl)) rfl rfl (Nat.le_of_ble_eq_true rfl) dX9_init_186 (fun r_2926 S_2927 hp_2928 => ?_)
  obtain ⟨rfl, hf_2929, q_2880, q_2881, q_2882, q_2883, q_2884, q_2885, q_2886, q_2887, e_2888, e_2889, e_2890, e_2891, e_2892, e_2893, e_2894, e_2895, e_2896, e_2897, e_2898, e_2899, e_2900, e_2901, e_2902, e_2903, e_2904, e_2905, e_2906, e_2907, e_2908, e_2909, e_2910, e_2911, e_2912, e_2913, e_2914, e_2915, e_2916, e_2917, e_2918, e_2919, e_2920, e_2921, e_2922, e_2923, e_2924, hNl_2925⟩ := hp_2928
  refine J.eq (st' := [.ref q_2875, .int 2, .ref q_490]) rfl rfl rfl ?_
  have hz_2930 : ∀ j, aI S_2927 q_149 j = 0 := fun j9 => (hf_2929.ai (mem_old hm_2825) (fun h9 => h9) j9).trans (hz_2828 j9)
  have hz_2931 : ∀ j, aI S_2927 q_244 j = 0 := fun j9 => (hf_2929.ai (mem_old hm_2829) (fun h9 => h9) j9).trans (hz_2832 j9)
  have hz_2932 : ∀ j, aI S_2927 q_271 j = 0 := fun j9 => (hf_2929.ai (mem_old hm_2835) (fun h9 => h9) j9).trans (hz_2838 j9)
  have hz_2933 : ∀ j, aI S_2927 q_490 j = 0 := fun j9 => (hf_2929.ai (mem_old hm_2839) (fun h9 => h9) j9).trans (hz_2842 j9)
  have hz_2934 : ∀ j, aI S_2927 q_529 j = 0 := fun j9 => (hf_2929.ai (mem_old hm_2843) (fun h9 => h9) j9).trans (hz_2846 j9)
  have hz_2935 : ∀ j, aI S_2927 q_572 j = 0 := fun j9 => (hf_2929.ai (mem_old hm_2847) (fun h9 => h9) j9).trans (hz_2850 j9)
  have hm_2936 : h ∈ hL S_2927 := hf_2929.mem (mem_old hm_2823)
  have hk_2937 : Kd S_2927 h 9 := hf_2929.kd (mem_old hm_2823) (kd_nO (k := 1) hq_2876 hm_2823 hk_2824)
  have hm_2938 : q_149 ∈ hL S_2927 := hf_2929.mem (mem_old hm_2825)
  have hk_2939 : Kd S_2927 q_149 20 := hf_2929.kd (mem_old hm_2825) (kd_nO (k := 1) hq_2876 hm_2825 hk_2826)
  have hn_2940 : Ln S_2927 q_149 16 := hf_2929.ln (mem_old hm_2825) hn_2827
  have hm_2941 : q_244 ∈ hL S_2927 := hf_2929.mem (mem_old hm_2829)
  have hk_2942 : Kd S_2927 q_244 13 := hf_2929.kd (mem_old hm_2829) (kd_nO (k := 1) hq_2876 hm_2829 hk_2830)
  have hn_2943 : Ln S_2927 q_244 24000 := hf_2929.ln (mem_old hm_2829) hn_2831
  have hm_2944 : q_271 ∈ hL S_2927 := hf_2929.mem (mem_old hm_2835)
  have hk_2945 : Kd S_2927 q_271 14 := hf_2929.kd (mem_old hm_2835) (kd_nO (k := 1) hq_2876 hm_2835 hk_2836)
  have hn_2946 : Ln S_2927 q_271 16 := hf_2929.ln (mem_old hm_2835) hn_2837
  have hm_2947 : q_2875 ∈ hL S_2927 := hf_2929.mem mem_new
  have hk_2948 : Kd S_2927 q_2875 1 := hf_2929.kd mem_new (kd_nO' (k := 1))
  have hm_2949 : q_490 ∈ hL S_2927 := hf_2929.mem (mem_old hm_2839)
  have hk_2950 : Kd S_2927 q_490 18 := hf_2929.kd (mem_old hm_2839) (kd_nO (k := 1) hq_2876 hm_2839 hk_2840)
  have hn_2951 : Ln S_2927 q_490 3 := hf_2929.ln (mem_old hm_2839) hn_2841
  have hm_2952 : q_529 ∈ hL S_2927 := hf_2929.mem (mem_old hm_2843)
  have hk_2953 : Kd S_2927 q_529 19 := hf_2929.kd (mem_old hm_2843) (kd_nO (k := 1) hq_2876 hm_2843 hk_2844)
  have hn_2954 : Ln S_2927 q_529 4 := hf_2929.ln (mem_old hm_2843) hn_2845
  have hm_2955 : q_572 ∈ hL S_2927 := hf_2929.mem (mem_old hm_2847)
  have hk_2956 : Kd S_2927 q_572 14 := hf_2929.kd (mem_old hm_2847) (kd_nO (k := 1) hq_2876 hm_2847 hk_2848)
  have hn_2957 : Ln S_2927 q_572 12 := hf_2929.ln (mem_old hm_2847) hn_2849
  have hv_2958 : hR S_2927 900 h = (some s0) := hf_2929.fr (mem_old hm_2823) (fun q9 => (fun e9 => absurd (((kd_nO (k := 1) hq_2876 hm_2823 hk_2824)).symm.trans ((congrArg (hK _) e9).trans (kd_nO' (k := 1)))) (by decide)) q9) (rd_nOR (k := 1) hq_2876 hm_2823 hv_2856)
  have hv_2959 : hR S_2927 901 h = (some q_1) := hf_2929.fr (mem_old hm_2823) (fun q9 => (fun e9 => absurd (((kd_nO (k := 1) hq_2876 hm_2823 hk_2824)).symm.trans ((congrArg (hK _) e9).trans (kd_nO' (k := 1)))) (by decide)) q9) (rd_nOR (k := 1) hq_2876 hm_2823 hv_2857)
  have hv_2960 : hR S_2927 902 h = (some q_37) := hf_2929.fr (mem_old hm_2823) (fun q9 => (fun e9 => absurd (((kd_nO (k := 1) hq_2876 hm_2823 hk_2824)).symm.trans ((congrArg (hK _) e9).trans (kd_nO' (k := 1)))) (by decide)) q9) (rd_nOR (k := 1) hq_2876 hm_2823 hv_2858)
  have hv_2961 : hR S_2927 903 h = (some q_118) := hf_2929.fr (mem_old hm_2823) (fun q9 => (fun e9 => absurd (((kd_nO (k := 1) hq_2876 hm_2823 hk_2824)).symm.trans ((congrArg (hK _) e9).trans (kd_nO' (k := 1)))) (by decide)) q9) (rd_nOR (k := 1) hq_2876 hm_2823 hv_2859)
  have hv_2962 : hR S_2927 904 h = (some q_149) := hf_2929.fr (mem_old hm_2823) (fun q9 => (fun e9 => absurd (((kd_nO (k := 1) hq_2876 hm_2823 hk_2824)).symm.trans ((congrArg (hK _) e9).trans (kd_nO' (k := 1)))) (by decide)) q9) (rd_nOR (k := 1) hq_2876 hm_2823 hv_2860)
  have hv_2963 : hR S_2927 905 h = (some q_169) := hf_2929.fr (mem_old hm_2823) (fun q9 => (fun e9 => absurd (((kd_nO (k := 1) hq_2876 hm_2823 hk_2824)).symm.trans ((congrArg (hK _) e9).trans (kd_nO' (k := 1)))) (by decide)) q9) (rd_nOR (k := 1) hq_2876 hm_2823 hv_2861)
  have hv_2964 : hR S_2927 906 h = (some q_206) := hf_2929.fr (mem_old hm_2823) (fun q9 => (fun e9 => absurd (((kd_nO (k := 1) hq_2876 hm_2823 hk_2824)).symm.trans ((congrArg (hK _) e9).trans (kd_nO' (k := 1)))) (by decide)) q9) (rd_nOR (k := 1) hq_2876 hm_2823 hv_2862)
  have hv_2965 : hR S_2927 907 h = (some q_244) := hf_2929.fr (mem_old hm_2823) (fun q9 => (fun e9 => absurd (((kd_nO (k := 1) hq_2876 hm_2823 hk_2824)).symm.trans ((congrArg (hK _) e9).trans (kd_nO' (k := 1)))) (by decide)) q9) (rd_nOR (k := 1) hq_2876 hm_2823 hv_2863)
  have hv_2966 : hR S_2927 908 h = (some q_271) := hf_2929.fr (mem_old hm_2823) (fun q9 => (fun e9 => absurd (((kd_nO (k := 1) hq_2876 hm_2823 hk_2824)).symm.trans ((congrArg (hK _) e9).trans (kd_nO' (k := 1)))) (by decide)) q9) (rd_nOR (k := 1) hq_2876 hm_2823 hv_2864)
  have hv_2967 : hR S_2927 909 h = (some q_302) := hf_2929.fr (mem_old hm_2823) (fun q9 => (fun e9 => absurd (((kd_nO (k := 1) hq_2876 hm_2823 hk_2824)).symm.trans ((congrArg (hK _) e9).trans (kd_nO' (k := 1)))) (by decide)) q9) (rd_nOR (k := 1) hq_2876 hm_2823 hv_2865)
  have hv_2968 : hR S_2927 910 h = (some q_395) := hf_2929.fr (mem_old hm_2823) (fun q9 => (fun e9 => absurd (((kd_nO (k := 1) hq_2876 hm_2823 hk_2824)).symm.trans ((congrArg (hK _) e9).trans (kd_nO' (k := 1)))) (by decide)) q9) (rd_nOR (k := 1) hq_2876 hm_2823 hv_2866)
  have hv_2969 : hR S_2927 911 h = (some q_490) := hf_2929.fr (mem_old hm_2823) (fun q9 => (fun e9 => absurd (((kd_nO (k := 1) hq_2876 hm_2823 hk_2824)).symm.trans ((congrArg (hK _) e9).trans (kd_nO' (k := 1)))) (by decide)) q9) (rd_nOR (k := 1) hq_2876 hm_2823 hv_2867)
  have hv_2970 : hR S_2927 912 h = (some q_529) := hf_2929.fr (mem_old hm_2823) (fun q9 => (fun e9 => absurd (((kd_nO (k := 1) hq_2876 hm_2823 hk_2824)).symm.trans ((congrArg (hK _) e9).trans (kd_nO' (k := 1)))) (by decide)) q9) (rd_nOR (k := 1) hq_2876 hm_2823 hv_2868)
  have hv_2971 : hR S_2927 917 h = (some q_572) := hf_2929.fr (mem_old hm_2823) (fun q9 => (fun e9 => absurd (((kd_nO (k := 1) hq_2876 hm_2823 hk_2824)).symm.trans ((congrArg (hK _) e9).trans (kd_nO' (k := 1)))) (by decide)) q9) (rd_nOR (k := 1) hq_2876 hm_2823 hv_2869)
  have hf_2972 : Fm (fun _ _ => False) (fun f9 b9 => b9 = h) (fun _ => False) S S_2927 := hf_2879.then hf_2929 (fun a9 ha9 => ⟨(fun f9 h9 => h9.elim), (fun f9 h9 => (fun h8 => absurd (h8 ▸ ha9) hz_2877) h9), (fun h9 => h9.elim)⟩)
  have hN_2973 : NL S [q_1, q_5, q_6, q_37, q_43, q_44, q_45, q_46, q_47, q_48, q_49, q_50, q_118, q_124, q_149, q_169, q_174, q_206, q_212, q_244, q_271, q_302, q_307, q_308, q_309, q_310, q_311, q_312, q_313, q_314, q_395, q_401, q_402, q_403, q_404, q_405, q_406, q_407, q_408, q_490, q_529, q_572, q_621, q_626, q_740, q_745, q_860, q_865, q_980, q_985, q_1100, q_1105, q_1220, q_1225, q_1340, q_1345, q_1460, q_1465, q_1580, q_1585, q_1700, q_1705, q_1820, q_1825, q_1940, q_1945, q_2060, q_2065, q_2180, q_2185, q_2300, q_2305, q_2420, q_2425, q_2540, q_2545, q_2546, q_2547, q_2548, q_2549, q_2550, q_2551, q_2552, q_2707, q_2712, q_2713, q_2714, q_2715, q_2716, q_2717, q_2718, q_2719, q_2875] S_2927 := NL.mono (show NL S [q_1, q_5, q_6, q_37, q_43, q_44, q_45, q_46, q_47, q_48, q_49, q_50, q_118, q_124, q_149, q_169, q_174, q_206, q_212, q_244, q_271, q_302, q_307, q_308, q_309, q_310, q_311, q_312, q_313, q_314, q_395, q_401, q_402, q_403, q_404, q_405, q_406, q_407, q_408, q_490, q_529, q_572, q_621, q_626, q_740, q_745, q_860, q_865, q_980, q_985, q_1100, q_1105, q_1220, q_1225, q_1340, q_1345, q_1460, q_1465, q_1580, q_1585, q_1700, q_1705, q_1820, q_1825, q_1940, q_1945, q_2060, q_2065, q_2180, q_2185, q_2300, q_2305, q_2420, q_2425, q_2540, q_2545, q_2546, q_2547, q_2548, q_2549, q_2550, q_2551, q_2552, q_2707, q_2712, q_2713, q_2714, q_2715, q_2716, q_2717, q_2718, q_2719, q_2875] (nO S_2820 q_2875 1) from NL.nO hN_2871 hq_2876 hz_2877) (fun a9 h9 => hf_2929.mem h9)
  have hG_2974 : Gs h [(3, [q_1, q_5, q_6]), (4, [q_37, q_43, q_44, q_45, q_46, q_47, q_48, q_49, q_50]), (0, [q_118, q_124]), (1, [q_169, q_174]), (0, [q_206, q_212]), (2, [q_302, q_307, q_308, q_309, q_310, q_311, q_312, q_313, q_314]), (2, [q_395, q_401, q_402, q_403, q_404, q_405, q_406, q_407, q_408]), (1, [q_621, q_626]), (1, [q_740, q_745]), (1, [q_860, q_865]), (1, [q_980, q_985]), (1, [q_1100, q_1105]), (1, [q_1220, q_1225]), (1, [q_1340, q_1345]), (1, [q_1460, q_1465]), (1, [q_1580, q_1585]), (1, [q_1700, q_1705]), (1, [q_1820, q_1825]), (1, [q_1940, q_1945]), (1, [q_2060, q_2065]), (1, [q_2180, q_2185]), (1, [q_2300, q_2305]), (1, [q_2420, q_2425]), (2, [q_2540, q_2545, q_2546, q_2547, q_2548, q_2549, q_2550, q_2551, q_2552]), (2, [q_2707, q_2712, q_2713, q_2714, q_2715, q_2716, q_2717, q_2718, q_2719])] S_2927 := Gs.fm (show Gs h [(3, [q_1, q_5, q_6]), (4, [q_37, q_43, q_44, q_45, q_46, q_47, q_48, q_49, q_50]), (0, [q_118, q_124]), (1, [q_169, q_174]), (0, [q_206, q_212]), (2, [q_302, q_307, q_308, q_309, q_310, q_311, q_312, q_313, q_314]), (2, [q_395, q_401, q_402, q_403, q_404, q_405, q_406, q_407, q_408]), (1, [q_621, q_626]), (1, [q_740, q_745]), (1, [q_860, q_865]), (1, [q_980, q_985]), (1, [q_1100, q_1105]), (1, [q_1220, q_1225]), (1, [q_1340, q_1345]), (1, [q_1460, q_1465]), (1, [q_1580, q_1585]), (1, [q_1700, q_1705]), (1, [q_1820, q_1825]), (1, [q_1940, q_1945]), (1, [q_2060, q_2065]), (1, [q_2180, q_2185]), (1, [q_2300, q_2305]), (1, [q_2420, q_2425]), (2, [q_2540, q_2545, q_2546, q_2547, q_2548, q_2549, q_2550, q_2551, q_2552]), (2, [q_2707, q_2712, q_2713, q_2714, q_2715, q_2716, q_2717, q_2718, q_2719])] (nO S_2820 q_2875 1) from Gs.nO hG_2872 hq_2876) hf_2929 (fun g9 hg9 p9 hp9 => gn_2878 g9 hg9 p9 hp9)
  have hE_2975 : ELs S_2927 q_149 [q_621, q_740, q_860, q_980, q_1100, q_1220, q_1340, q_1460, q_1580, q_1700, q_1820, q_1940, q_2060, q_2180, q_2300, q_2420] := ELs.fm (ELs.nO (S := S_2820) hE_2873) hf_2929 (mem_old hm_2825) (fun h9 => h9)
  have hE_2976 : ELs S_2927 q_490 [q_2540, q_2707] := ELs.fm (ELs.nO (S := S_2820) hE_2874) hf_2929 (mem_old hm_2839) (fun h9 => h9)
  have hz_2977 : q_2880 ∉ hL S := fun h9 => e_2888 (hf_2879.mem h9)
  have hz_2978 : q_2881 ∉ hL S := fun h9 => e_2892 (hf_2879.mem h9)
  have hz_2979 : q_2882 ∉ hL S := fun h9 => e_2897 (hf_2879.mem h9)
  have hz_2980 : q_2883 ∉ hL S := fun h9 => e_2901 (hf_2879.mem h9)
  have hz_2981 : q_2884 ∉ hL S := fun h9 => e_2906 (hf_2879.mem h9)
  have hz_2982 : q_2885 ∉ hL S := fun h9 => e_2910 (hf_2879.mem h9)
  have hz_2983 : q_2886 ∉ hL S := fun h9 => e_2915 (hf_2879.mem h9)
  have hz_2984 : q_2887 ∉ hL S := fun h9 => e_2920 (hf_2879.mem h9)
  have hN_2985 : NL S [q_1, q_5, q_6, q_37, q_43, q_44, q_45, q_46, q_47, q_48, q_49, q_50, q_118, q_124, q_149, q_169, q_174, q_206, q_212, q_244, q_271, q_302, q_307, q_308, q_309, q_310, q_311, q_312, q_313, q_314, q_395, q_401, q_402, q_403, q_404, q_405, q_406, q_407, q_408, q_490, q_529, q_572, q_621, q_626, q_740, q_745, q_860, q_865, q_980, q_985, q_1100, q_1105, q_1220, q_1225, q_1340, q_1345, q_1460, q_1465, q_1580, q_1585, q_1700, q_1705, q_1820, q_1825, q_1940, q_1945, q_2060, q_2065, q_2180, q_2185, q_2300, q_2305, q_2420, q_2425, q_2540, q_2545, q_2546, q_2547, q_2548, q_2549, q_2550, q_2551, q_2552, q_2707, q_2712, q_2713, q_2714, q_2715, q_2716, q_2717, q_2718, q_2719, q_2875, q_2880, q_2881, q_2882, q_2883, q_2884, q_2885, q_2886, q_2887] S_2927 := NL.app (show NL S [q_1, q_5, q_6, q_37, q_43, q_44, q_45, q_46, q_47, q_48, q_49, q_50, q_118, q_124, q_149, q_169, q_174, q_206, q_212, q_244, q_271, q_302, q_307, q_308, q_309, q_310, q_311, q_312, q_313, q_314, q_395, q_401, q_402, q_403, q_404, q_405, q_406, q_407, q_408, q_490, q_529, q_572, q_621, q_626, q_740, q_745, q_860, q_865, q_980, q_985, q_1100, q_1105, q_1220, q_1225, q_1340, q_1345, q_1460, q_1465, q_1580, q_1585, q_1700, q_1705, q_1820, q_1825, q_1940, q_1945, q_2060, q_2065, q_2180, q_2185, q_2300, q_2305, q_2420, q_2425, q_2540, q_2545, q_2546, q_2547, q_2548, q_2549, q_2550, q_2551, q_2552, q_2707, q_2712, q_2713, q_2714, q_2715, q_2716, q_2717, q_2718, q_2719, q_2875] (nO S_2820 q_2875 1) from NL.nO hN_2871 hq_2876 hz_2877) hNl_2925 (fun a9 h9 => hf_2929.mem h9) (fun a9 h9 => hf_2879.mem h9)
  have hGt_2986 : Gt 2 [q_2875, q_2880, q_2881, q_2882, q_2883, q_2884, q_2885, q_2886, q_2887] S_2927 := ⟨fun i9 k9 h9 => (match i9, h9 with | 0, h9 => (by have e9 : (1 : Nat) = k9 := Option.some.inj h9; subst e9; exact ⟨hm_2947, hk_2948⟩) | 1, h9 => (by have e9 : (7 : Nat) = k9 := Option.some.inj h9; subst e9; exact ⟨e_2889, e_2890⟩) | 2, h9 => (by have e9 : (14 : Nat) = k9 := Option.some.inj h9; subst e9; exact ⟨e_2893, e_2894⟩) | 3, h9 => (by have e9 : (4 : Nat) = k9 := Option.some.inj h9; subst e9; exact ⟨e_2898, e_2899⟩) | 4, h9 => (by have e9 : (14 : Nat) = k9 := Option.some.inj h9; subst e9; exact ⟨e_2902, e_2903⟩) | 5, h9 => (by have e9 : (10 : Nat) = k9 := Option.some.inj h9; subst e9; exact ⟨e_2907, e_2908⟩) | 6, h9 => (by have e9 : (15 : Nat) = k9 := Option.some.inj h9; subst e9; exact ⟨e_2911, e_2912⟩) | 7, h9 => (by have e9 : (14 : Nat) = k9 := Option.some.inj h9; subst e9; exact ⟨e_2916, e_2917⟩) | 8, h9 => (by have e9 : (14 : Nat) = k9 := Option.some.inj h9; subst e9; exact ⟨e_2921, e_2922⟩) | i9 + 9, h9 => absurd h9 (by simp [gT])), (List.forall_mem_cons.mpr ⟨e_2895, (List.forall_mem_cons.mpr ⟨e_2904, (List.forall_mem_cons.mpr ⟨e_2913, (List.forall_mem_cons.mpr ⟨e_2918, (List.forall_mem_cons.mpr ⟨e_2923, (fun _ h9 => absurd h9 List.not_mem_nil)⟩)⟩)⟩)⟩)⟩), (List.forall_mem_cons.mpr ⟨e_2891, (List.forall_mem_cons.mpr ⟨e_2896, (List.forall_mem_cons.mpr ⟨e_2900, (List.forall_mem_cons.mpr ⟨e_2905, (List.forall_mem_cons.mpr ⟨e_2909, (List.forall_mem_cons.mpr ⟨e_2914, (List.forall_mem_cons.mpr ⟨e_2919, (List.forall_mem_cons.mpr ⟨e_2924, (fun _ h9 => absurd h9 List.not_mem_nil)⟩)⟩)⟩)⟩)⟩)⟩)⟩)⟩), (fun _ h9 => absurd h9 List.not_mem_nil)⟩
  have hG_2987 : Gs h [(3, [q_1, q_5, q_6]), (4, [q_37, q_43, q_44, q_45, q_46, q_47, q_48, q_49, q_50]), (0, [q_118, q_124]), (1, [q_169, q_174]), (0, [q_206, q_212]), (2, [q_302, q_307, q_308, q_309, q_310, q_311, q_312, q_313, q_314]), (2, [q_395, q_401, q_402, q_403, q_404, q_405, q_406, q_407, q_408]), (1, [q_621, q_626]), (1, [q_740, q_745]), (1, [q_860, q_865]), (1, [q_980, q_985]), (1, [q_1100, q_1105]), (1, [q_1220, q_1225]), (1, [q_1340, q_1345]), (1, [q_1460, q_1465]), (1, [q_1580, q_1585]), (1, [q_1700, q_1705]), (1, [q_1820, q_1825]), (1, [q_1940, q_1945]), (1, [q_2060, q_2065]), (1, [q_2180, q_2185]), (1, [q_2300, q_2305]), (1, [q_2420, q_2425]), (2, [q_2540, q_2545, q_2546, q_2547, q_2548, q_2549, q_2550, q_2551, q_2552]), (2, [q_2707, q_2712, q_2713, q_2714, q_2715, q_2716, q_2717, q_2718, q_2719]), (2, [q_2875, q_2880, q_2881, q_2882, q_2883, q_2884, q_2885, q_2886, q_2887])] S_2927 := Gs.snoc hG_2974 (by decide) hGt_2986 (List.forall_mem_cons.mpr ⟨(fun e9 => hz_2877 (e9 ▸ hm)), (List.forall_mem_cons.mpr ⟨(fun e9 => hz_2977 (e9 ▸ hm)), (List.forall_mem_cons.mpr ⟨(fun e9 => hz_2877 (e9 ▸ hm)), (List.forall_mem_cons.mpr ⟨(fun e9 => hz_2979 (e9 ▸ hm)), (List.forall_mem_cons.mpr ⟨(fun e9 => hz_2877 (e9 ▸ hm)), (List.forall_mem_cons.mpr ⟨(fun e9 => hz_2981 (e9 ▸ hm)), (List.forall_mem_cons.mpr ⟨(fun e9 => hz_2877 (e9 ▸ hm)), (List.forall_mem_cons.mpr ⟨(fun e9 => hz_2877 (e9 ▸ hm)), (fun _ h9 => absurd h9 List.not_mem_nil)⟩)⟩)⟩)⟩)⟩)⟩)⟩)⟩)
  show J _ _ _ _ _ 189 _
  refine j_aast (j := 2) (ci := 1) C 18  (by decide) rfl dX9_init_189 hm_2949 hk_2950 (inr_of (n := 3) hn_2951 (vp_lit (by decide))) (by decide) hm_2947 hk_2948 rfl ?_
  have hf_2990 : Fm (fun _ _ => False) (fun f9 b9 => b9 = h) (fun _ => False) S (tR S_2927 q_490 2 (some q_2875)) := (hf_2972.tR _ _ (fun h9 => absurd h9 hz_493))
  obtain ⟨S_2988, eS_2989⟩ : ∃ S9 : Hp, S9 = (tR S_2927 q_490 2 (some q_2875)) := ⟨_, rfl⟩
  refine J.eq (S' := S_2988) eS_2989.symm rfl rfl ?_
  have hm_2991 : h ∈ hL S_2988 := by rw [eS_2989]; exact hm_2936
  have hk_2992 : Kd S_2988 h 9 := by rw [eS_2989]; exact hk_2937
  have hm_2993 : q_149 ∈ hL S_2988 := by rw [eS_2989]; exact hm_2938
  have hk_2994 : Kd S_2988 q_149 20 := by rw [eS_2989]; exact hk_2939
  have hn_2995 : Ln S_2988 q_149 16 := by rw [eS_2989]; exact hn_2940
  have hz_2996 : ∀ j, aI S_2988 q_149 j = 0 := by rw [eS_2989]; exact hz_2930
  have hm_2997 : q_244 ∈ hL S_2988 := by rw [eS_2989]; exact hm_2941
  have hk_2998 : Kd S_2988 q_244 13 := by rw [eS_2989]; exact hk_2942
  have hn_2999 : Ln S_2988 q_244 24000 := by rw [eS_2989]; exact hn_2943
  have hz_3000 : ∀ j, aI S_2988 q_244 j = 0 := by rw [eS_2989]; exact hz_2931
  have hm_3001 : q_271 ∈ hL S_2988 := by rw [eS_2989]; exact hm_2944
  have hk_3002 : Kd S_2988 q_271 14 := by rw [eS_2989]; exact hk_2945
  have hn_3003 : Ln S_2988 q_271 16 := by rw [eS_2989]; exact hn_2946
  have hz_3004 : ∀ j, aI S_2988 q_271 j = 0 := by rw [eS_2989]; exact hz_2932
  have hm_3005 : q_2875 ∈ hL S_2988 := by rw [eS_2989]; exact hm_2947
  have hk_3006 : Kd S_2988 q_2875 1 := by rw [eS_2989]; exact hk_2948
  have hm_3007 : q_490 ∈ hL S_2988 := by rw [eS_2989]; exact hm_2949
  have hk_3008 : Kd S_2988 q_490 18 := by rw [eS_2989]; exact hk_2950
  have hn_3009 : Ln S_2988 q_490 3 := by rw [eS_2989]; exact hn_2951
  have hz_3010 : ∀ j, aI S_2988 q_490 j = 0 := by rw [eS_2989]; exact hz_2933
  have hm_3011 : q_529 ∈ hL S_2988 := by rw [eS_2989]; exact hm_2952
  have hk_3012 : Kd S_2988 q_529 19 := by rw [eS_2989]; exact hk_2953
  have hn_3013 : Ln S_2988 q_529 4 := by rw [eS_2989]; exact hn_2954
  have hz_3014 : ∀ j, aI S_2988 q_529 j = 0 := by rw [eS_2989]; exact hz_2934
  have hm_3015 : q_572 ∈ hL S_2988 := by rw [eS_2989]; exact hm_2955
  have hk_3016 : Kd S_2988 q_572 14 := by rw [eS_2989]; exact hk_2956
  have hn_3017 : Ln S_2988 q_572 12 := by rw [eS_2989]; exact hn_2957
  have hz_3018 : ∀ j, aI S_2988 q_572 j = 0 := by rw [eS_2989]; exact hz_2935
  have hv_3019 : hR S_2988 100 q_2875 = (some q_2880) := by rw [eS_2989]; exact e_2891
  have hv_3020 : hR S_2988 101 q_2875 = (some q_2882) := by rw [eS_2989]; exact e_2900
  have hv_3021 : hR S_2988 102 q_2875 = (some q_2884) := by rw [eS_2989]; exact e_2909
  have hv_3022 : hR S_2988 103 q_2875 = (some q_2886) := by rw [eS_2989]; exact e_2919
  have hv_3023 : hR S_2988 104 q_2875 = (some q_2887) := by rw [eS_2989]; exact e_2924
  have hv_3024 : hR S_2988 900 h = (some s0) := by rw [eS_2989]; exact hv_2958
  have hv_3025 : hR S_2988 901 h = (some q_1) := by rw [eS_2989]; exact hv_2959
  have hv_3026 : hR S_2988 902 h = (some q_37) := by rw [eS_2989]; exact hv_2960
  have hv_3027 : hR S_2988 903 h = (some q_118) := by rw [eS_2989]; exact hv_2961
  have hv_3028 : hR S_2988 904 h = (some q_149) := by rw [eS_2989]; exact hv_2962
  have hv_3029 : hR S_2988 905 h = (some q_169) := by rw [eS_2989]; exact hv_2963
  have hv_3030 : hR S_2988 906 h = (some q_206) := by rw [eS_2989]; exact hv_2964
  have hv_3031 : hR S_2988 907 h = (some q_244) := by rw [eS_2989]; exact hv_2965
  have hv_3032 : hR S_2988 908 h = (some q_271) := by rw [eS_2989]; exact hv_2966
  have hv_3033 : hR S_2988 909 h = (some q_302) := by rw [eS_2989]; exact hv_2967
  have hv_3034 : hR S_2988 910 h = (some q_395) := by rw [eS_2989]; exact hv_2968
  have hv_3035 : hR S_2988 911 h = (some q_490) := by rw [eS_2989]; exact hv_2969
  have hv_3036 : hR S_2988 912 h = (some q_529) := by rw [eS_2989]; exact hv_2970
  have hv_3037 : hR S_2988 917 h = (some q_572) := by rw [eS_2989]; exact hv_2971
  have hf_3038 : Fm (fun _ _ => False) (fun f9 b9 => b9 = h) (fun _ => False) S S_2988 := by rw [eS_2989]; exact hf_2990
  have hN_3039 : NL S [q_1, q_5, q_6, q_37, q_43, q_44, q_45, q_46, q_47, q_48, q_49, q_50, q_118, q_124, q_149, q_169, q_174, q_206, q_212, q_244, q_271, q_302, q_307, q_308, q_309, q_310, q_311, q_312, q_313, q_314, q_395, q_401, q_402, q_403, q_404, q_405, q_406, q_407, q_408, q_490, q_529, q_572, q_621, q_626, q_740, q_745, q_860, q_865, q_980, q_985, q_1100, q_1105, q_1220, q_1225, q_1340, q_1345, q_1460, q_1465, q_1580, q_1585, q_1700, q_1705, q_1820, q_1825, q_1940, q_1945, q_2060, q_2065, q_2180, q_2185, q_2300, q_2305, q_2420, q_2425, q_2540, q_2545, q_2546, q_2547, q_2548, q_2549, q_2550, q_2551, q_2552, q_2707, q_2712, q_2713, q_2714, q_2715, q_2716, q_2717, q_2718, q_2719, q_2875, q_2880, q_2881, q_2882, q_2883, q_2884, q_2885, q_2886, q_2887] S_2988 := by rw [eS_2989]; exact (NL.tR (S := S_2927) hN_2985)
  have hG_3040 : Gs h [(3, [q_1, q_5, q_6]), (4, [q_37, q_43, q_44, q_45, q_46, q_47, q_48, q_49, q_50]), (0, [q_118, q_124]), (1, [q_169, q_174]), (0, [q_206, q_212]), (2, [q_302, q_307, q_308, q_309, q_310, q_311, q_312, q_313, q_314]), (2, [q_395, q_401, q_402, q_403, q_404, q_405, q_406, q_407, q_408]), (1, [q_621, q_626]), (1, [q_740, q_745]), (1, [q_860, q_865]), (1, [q_980, q_985]), (1, [q_1100, q_1105]), (1, [q_1220, q_1225]), (1, [q_1340, q_1345]), (1, [q_1460, q_1465]), (1, [q_1580, q_1585]), (1, [q_1700, q_1705]), (1, [q_1820, q_1825]), (1, [q_1940, q_1945]), (1, [q_2060, q_2065]), (1, [q_2180, q_2185]), (1, [q_2300, q_2305]), (1, [q_2420, q_2425]), (2, [q_2540, q_2545, q_2546, q_2547, q_2548, q_2549, q_2550, q_2551, q_2552]), (2, [q_2707, q_2712, q_2713, q_2714, q_2715, q_2716, q_2717, q_2718, q_2719]), (2, [q_2875, q_2880, q_2881, q_2882, q_2883, q_2884, q_2885, q_2886, q_2887])] S_2988 := by rw [eS_2989]; exact (Gs.tR (S := S_2927) hG_2987)
  have hE_3041 : ELs S_2988 q_149 [q_621, q_740, q_860, q_980, q_1100, q_1220, q_1340, q_1460, q_1580, q_1700, q_1820, q_1940, q_2060, q_2180, q_2300, q_2420] := by rw [eS_2989]; exact (ELs.tRx (S := S_2927) (fun e9 => absurd ((hk_2939).symm.trans ((congrArg (hK _) e9).trans hk_2950)) (by decide)) hE_2975)
  have hE_3042 : ELs S_2988 q_490 [q_2540, q_2707, q_2875] := by rw [eS_2989]; exact (show ELs (tR S_2927 q_490 2 (some q_2875)) q_490 [q_2540, q_2707, q_2875] from ELs.snoc hE_2976 rfl)
  refine j_iinc (q := 0) (v := 3) (lv' := [(2, .int 3), (0, .ref h), (1, .ref s0)]) C dX9_init_190 rfl (by decide) (by rw [hn9]; decide) rfl ?_
  refine j_goto (tgt := 168) C dX9_init_193 (by decide) ?_
  refine j_iload_n C dX9_init_168 rfl 0 rfl ?_
  refine j_aload_n C dX9_init_169 rfl 1 rfl ?_
  refine j_getr (f := 911) (v := q_490) C flX9_64 dX9_init_170 hm_2991 hk_2992 (by decide) rfl hv_3035 ?_
  refine j_alen (v := 3) C dX9_init_173 hm_3007 hk_3008 (by decide) (by decide) (len_of (n := 3) hn_3009 (by decide)) ?_
  refine j_ic_ge (tgt := 196) C dX9_init_174 (by decide) (fun c9 => ?_) (fun c9 => absurd (by decide) c9)
  show J _ _ _ _ _ 196 _
  refine j_iconst (v := 0) C dX9_init_196 (by decide) ?_
  refine j_istore_n (lv' := [(2, .int 0), (0, .ref h), (1, .ref s0)]) C dX9_init_197 rfl (by rw [hn9]; decide) rfl ?_
  refine j_iload_n C dX9_init_198 rfl 0 rfl ?_
  refine j_aload_n C dX9_init_199 rfl 1 rfl ?_
  refine j_getr (f := 912) (v := q_529) C flX9_70 dX9_init_200 hm_2991 hk_2992 (by decide) rfl hv_3036 ?_
  refine j_alen (v := 4) C dX9_init_203 hm_3011 hk_3012 (by decide) (by decide) (len_of (n := 4) hn_3013 (by decide)) ?_
  refine j_ic_ge (tgt := 226) C dX9_init_204 (by decide) (fun c9 => absurd c9 (by decide)) (fun c9 => ?_)
  refine j_aload_n C dX9_init_207 rfl 1 rfl ?_
  show J _ _ _ _ _ 208 _
  refine j_getr (f := 912) (v := q_529) C flX9_70 dX9_init_208 hm_2991 hk_2992 (by decide) rfl hv_3036 ?_
  refine j_iload_n C dX9_init_211 rfl 0 rfl ?_
  refine j_new (N := 13) C (ci := 5) rfl rfl klX9_68 knX5 kiX5 (M.cells (by decide)) (M.slots (by decide)) dX9_init_212 (fun q_3043 hq_3044 => ?_)
  have hz_3045 : q_3043 ∉ hL S := fun h9 => hq_3044 (hf_3038.mem h9)
  have gn_3046 : ∀ g9 ∈ ([(3, [q_1, q_5, q_6]), (4, [q_37, q_43, q_44, q_45, q_46, q_47, q_48, q_49, q_50]), (0, [q_118, q_124]), (1, [q_169, q_174]), (0, [q_206, q_212]), (2, [q_302, q_307, q_308, q_309, q_310, q_311, q_312, q_313, q_314]), (2, [q_395, q_401, q_402, q_403, q_404, q_405, q_406, q_407, q_408]), (1, [q_621, q_626]), (1, [q_740, q_745]), (1, [q_860, q_865]), (1, [q_980, q_985]), (1, [q_1100, q_1105]), (1, [q_1220, q_1225]), (1, [q_1340, q_1345]), (1, [q_1460, q_1465]), (1, [q_1580, q_1585]), (1, [q_1700, q_1705]), (1, [q_1820, q_1825]), (1, [q_1940, q_1945]), (1, [q_2060, q_2065]), (1, [q_2180, q_2185]), (1, [q_2300, q_2305]), (1, [q_2420, q_2425]), (2, [q_2540, q_2545, q_2546, q_2547, q_2548, q_2549, q_2550, q_2551, q_2552]), (2, [q_2707, q_2712, q_2713, q_2714, q_2715, q_2716, q_2717, q_2718, q_2719]), (2, [q_2875, q_2880, q_2881, q_2882, q_2883, q_2884, q_2885, q_2886, q_2887])] : List (Nat × List Nat)), ∀ p9 ∈ (gT g9.1).2.2, g9.2.getD p9.2.1 0 ≠ q_3043 := Gs.ne hG_3040 hq_3044
  refine j_dup C dX9_init_215 rfl ?_
  have hf_3047 : Fm (fun _ _ => False) (fun f9 b9 => b9 = h) (fun _ => False) S (nO S_2988 q_3043 5) := (hf_3038.nO _ hq_3044)
  refine j_callI C [] [.ref q_3043, .int 0, .ref q_529] mlX9_81 mcX5_init (c_X5_init (nO S_2988 q_3043 5) q_3043 mem_new (kd_nO' (k := 5))) (M.rm (by decide) (by decide) (Nat.le_of_ble_eq_true rfl) (Nat.le_of_ble_eq_true rfl)) rfl rfl (Nat.le_of_ble_eq_true rfl) dX9_init_216 (fun r_3048 S_3049 hp_3050 => ?_)
  obtain ⟨rfl, hf_3051⟩ := hp_3050
  refine J.eq (st' := [.ref q_3043, .int 0, .ref q_529]) rfl rfl rfl ?_
  have hz_3052 : ∀ j, aI S_3049 q_149 j = 0 := fun j9 => (hf_3051.ai (mem_old hm_2993) (fun h9 => h9) j9).trans (hz_2996 j9)
  have hz_3053 : ∀ j, aI S_3049 q_244 j = 0 := fun j9 => (hf_3051.ai (mem_old hm_2997) (fun h9 => h9) j9).trans (hz_3000 j9)
  have hz_3054 : ∀ j, aI S_3049 q_271 j = 0 := fun j9 => (hf_3051.ai (mem_old hm_3001) (fun h9 => h9) j9).trans (hz_3004 j9)
  have hz_3055 : ∀ j, aI S_3049 q_490 j = 0 := fun j9 => (hf_3051.ai (mem_old hm_3007) (fun h9 => h9) j9).trans (hz_3010 j9)
  have hz_3056 : ∀ j, aI S_3049 q_529 j = 0 := fun j9 => (hf_3051.ai (mem_old hm_3011) (fun h9 => h9) j9).trans (hz_3014 j9)
  have hz_3057 : ∀ j, aI S_3049 q_572 j = 0 := fun j9 => (hf_3051.ai (mem_old hm_3015) (fun h9 => h9) j9).trans (hz_3018 j9)
  have hm_3058 : h ∈ hL S_3049 := hf_3051.mem (mem_old hm_2991)
  have hk_3059 : Kd S_3049 h 9 := hf_3051.kd (mem_old hm_2991) (kd_nO (k := 5) hq_3044 hm_2991 hk_2992)
  have hm_3060 : q_149 ∈ hL S_3049 := hf_3051.mem (mem_old hm_2993)
  have hk_3061 : Kd S_3049 q_149 20 := hf_3051.kd (mem_old hm_2993) (kd_nO (k := 5) hq_3044 hm_2993 hk_2994)
  have hn_3062 : Ln S_3049 q_149 16 := hf_3051.ln (mem_old hm_2993) hn_2995
  have hm_3063 : q_244 ∈ hL S_3049 := hf_3051.mem (mem_old hm_2997)
  have hk_3064 : Kd S_3049 q_244 13 := hf_3051.kd (mem_old hm_2997) (kd_nO (k := 5) hq_3044 hm_2997 hk_2998)
  have hn_3065 : Ln S_3049 q_244 24000 := hf_3051.ln (mem_old hm_2997) hn_2999
  have hm_3066 : q_271 ∈ hL S_3049 := hf_3051.mem (mem_old hm_3001)
  have hk_3067 : Kd S_3049 q_271 14 := hf_3051.kd (mem_old hm_3001) (kd_nO (k := 5) hq_3044 hm_3001 hk_3002)
  have hn_3068 : Ln S_3049 q_271 16 := hf_3051.ln (mem_old hm_3001) hn_3003
  have hm_3069 : q_3043 ∈ hL S_3049 := hf_3051.mem mem_new
  have hk_3070 : Kd S_3049 q_3043 5 := hf_3051.kd mem_new (kd_nO' (k := 5))
  have hm_3071 : q_490 ∈ hL S_3049 := hf_3051.mem (mem_old hm_3007)
  have hk_3072 : Kd S_3049 q_490 18 := hf_3051.kd (mem_old hm_3007) (kd_nO (k := 5) hq_3044 hm_3007 hk_3008)
  have hn_3073 : Ln S_3049 q_490 3 := hf_3051.ln (mem_old hm_3007) hn_3009
  have hm_3074 : q_529 ∈ hL S_3049 := hf_3051.mem (mem_old hm_3011)
  have hk_3075 : Kd S_3049 q_529 19 := hf_3051.kd (mem_old hm_3011) (kd_nO (k := 5) hq_3044 hm_3011 hk_3012)
  have hn_3076 : Ln S_3049 q_529 4 := hf_3051.ln (mem_old hm_3011) hn_3013
  have hm_3077 : q_572 ∈ hL S_3049 := hf_3051.mem (mem_old hm_3015)
  have hk_3078 : Kd S_3049 q_572 14 := hf_3051.kd (mem_old hm_3015) (kd_nO (k := 5) hq_3044 hm_3015 hk_3016)
  have hn_3079 : Ln S_3049 q_572 12 := hf_3051.ln (mem_old hm_3015) hn_3017
  have hv_3080 : hR S_3049 900 h = (some s0) := hf_3051.fr (mem_old hm_2991) (fun q9 => (fun e9 => absurd (((kd_nO (k := 5) hq_3044 hm_2991 hk_2992)).symm.trans ((congrArg (hK _) e9).trans (kd_nO' (k := 5)))) (by decide)) q9) (rd_nOR (k := 5) hq_3044 hm_2991 hv_3024)
  have hv_3081 : hR S_3049 901 h = (some q_1) := hf_3051.fr (mem_old hm_2991) (fun q9 => (fun e9 => absurd (((kd_nO (k := 5) hq_3044 hm_2991 hk_2992)).symm.trans ((congrArg (hK _) e9).trans (kd_nO' (k := 5)))) (by decide)) q9) (rd_nOR (k := 5) hq_3044 hm_2991 hv_3025)
  have hv_3082 : hR S_3049 902 h = (some q_37) := hf_3051.fr (mem_old hm_2991) (fun q9 => (fun e9 => absurd (((kd_nO (k := 5) hq_3044 hm_2991 hk_2992)).symm.trans ((congrArg (hK _) e9).trans (kd_nO' (k := 5)))) (by decide)) q9) (rd_nOR (k := 5) hq_3044 hm_2991 hv_3026)
  have hv_3083 : hR S_3049 903 h = (some q_118) := hf_3051.fr (mem_old hm_2991) (fun q9 => (fun e9 => absurd (((kd_nO (k := 5) hq_3044 hm_2991 hk_2992)).symm.trans ((congrArg (hK _) e9).trans (kd_nO' (k := 5)))) (by decide)) q9) (rd_nOR (k := 5) hq_3044 hm_2991 hv_3027)
  have hv_3084 : hR S_3049 904 h = (some q_149) := hf_3051.fr (mem_old hm_2991) (fun q9 => (fun e9 => absurd (((kd_nO (k := 5) hq_3044 hm_2991 hk_2992)).symm.trans ((congrArg (hK _) e9).trans (kd_nO' (k := 5)))) (by decide)) q9) (rd_nOR (k := 5) hq_3044 hm_2991 hv_3028)
  have hv_3085 : hR S_3049 905 h = (some q_169) := hf_3051.fr (mem_old hm_2991) (fun q9 => (fun e9 => absurd (((kd_nO (k := 5) hq_3044 hm_2991 hk_2992)).symm.trans ((congrArg (hK _) e9).trans (kd_nO' (k := 5)))) (by decide)) q9) (rd_nOR (k := 5) hq_3044 hm_2991 hv_3029)
  have hv_3086 : hR S_3049 906 h = (some q_206) := hf_3051.fr (mem_old hm_2991) (fun q9 => (fun e9 => absurd (((kd_nO (k := 5) hq_3044 hm_2991 hk_2992)).symm.trans ((congrArg (hK _) e9).trans (kd_nO' (k := 5)))) (by decide)) q9) (rd_nOR (k := 5) hq_3044 hm_2991 hv_3030)
  have hv_3087 : hR S_3049 907 h = (some q_244) := hf_3051.fr (mem_old hm_2991) (fun q9 => (fun e9 => absurd (((kd_nO (k := 5) hq_3044 hm_2991 hk_2992)).symm.trans ((congrArg (hK _) e9).trans (kd_nO' (k := 5)))) (by decide)) q9) (rd_nOR (k := 5) hq_3044 hm_2991 hv_3031)
  have hv_3088 : hR S_3049 908 h = (some q_271) := hf_3051.fr (mem_old hm_2991) (fun q9 => (fun e9 => absurd (((kd_nO (k := 5) hq_3044 hm_2991 hk_2992)).symm.trans ((congrArg (hK _) e9).trans (kd_nO' (k := 5)))) (by decide)) q9) (rd_nOR (k := 5) hq_3044 hm_2991 hv_3032)
  have hv_3089 : hR S_3049 909 h = (some q_302) := hf_3051.fr (mem_old hm_2991) (fun q9 => (fun e9 => absurd (((kd_nO (k := 5) hq_3044 hm_2991 hk_2992)).symm.trans ((congrArg (hK _) e9).trans (kd_nO' (k := 5)))) (by decide)) q9) (rd_nOR (k := 5) hq_3044 hm_2991 hv_3033)
  have hv_3090 : hR S_3049 910 h = (some q_395) := hf_3051.fr (mem_old hm_2991) (fun q9 => (fun e9 => absurd (((kd_nO (k := 5) hq_3044 hm_2991 hk_2992)).symm.trans ((congrArg (hK _) e9).trans (kd_nO' (k := 5)))) (by decide)) q9) (rd_nOR (k := 5) hq_3044 hm_2991 hv_3034)
  have hv_3091 : hR S_3049 911 h = (some q_490) := hf_3051.fr (mem_old hm_2991) (fun q9 => (fun e9 => absurd (((kd_nO (k := 5) hq_3044 hm_2991 hk_2992)).symm.trans ((congrArg (hK _) e9).trans (kd_nO' (k := 5)))) (by decide)) q9) (rd_nOR (k := 5) hq_3044 hm_2991 hv_3035)
  have hv_3092 : hR S_3049 912 h = (some q_529) := hf_3051.fr (mem_old hm_2991) (fun q9 => (fun e9 => absurd (((kd_nO (k := 5) hq_3044 hm_2991 hk_2992)).symm.trans ((congrArg (hK _) e9).trans (kd_nO' (k := 5)))) (by decide)) q9) (rd_nOR (k := 5) hq_3044 hm_2991 hv_3036)
  have hv_3093 : hR S_3049 917 h = (some q_572) := hf_3051.fr (mem_old hm_2991) (fun q9 => (fun e9 => absurd (((kd_nO (k := 5) hq_3044 hm_2991 hk_2992)).symm.trans ((congrArg (hK _) e9).trans (kd_nO' (k := 5)))) (by decide)) q9) (rd_nOR (k := 5) hq_3044 hm_2991 hv_3037)
  have hf_3094 : Fm (fun _ _ => False) (fun f9 b9 => b9 = h) (fun _ => False) S S_3049 := hf_3047.then hf_3051 (fun a9 ha9 => ⟨(fun f9 h9 => h9.elim), (fun f9 h9 => (fun h8 => absurd (h8 ▸ ha9) hz_3045) h9), (fun h9 => h9.elim)⟩)
  have hN_3095 : NL S [q_1, q_5, q_6, q_37, q_43, q_44, q_45, q_46, q_47, q_48, q_49, q_50, q_118, q_124, q_149, q_169, q_174, q_206, q_212, q_244, q_271, q_302, q_307, q_308, q_309, q_310, q_311, q_312, q_313, q_314, q_395, q_401, q_402, q_403, q_404, q_405, q_406, q_407, q_408, q_490, q_529, q_572, q_621, q_626, q_740, q_745, q_860, q_865, q_980, q_985, q_1100, q_1105, q_1220, q_1225, q_1340, q_1345, q_1460, q_1465, q_1580, q_1585, q_1700, q_1705, q_1820, q_1825, q_1940, q_1945, q_2060, q_2065, q_2180, q_2185, q_2300, q_2305, q_2420, q_2425, q_2540, q_2545, q_2546, q_2547, q_2548, q_2549, q_2550, q_2551, q_2552, q_2707, q_2712, q_2713, q_2714, q_2715, q_2716, q_2717, q_2718, q_2719, q_2875, q_2880, q_2881, q_2882, q_2883, q_2884, q_2885, q_2886, q_2887, q_3043] S_3049 := NL.mono (show NL S [q_1, q_5, q_6, q_37, q_43, q_44, q_45, q_46, q_47, q_48, q_49, q_50, q_118, q_124, q_149, q_169, q_174, q_206, q_212, q_244, q_271, q_302, q_307, q_308, q_309, q_310, q_311, q_312, q_313, q_314, q_395, q_401, q_402, q_403, q_404, q_405, q_406, q_407, q_408, q_490, q_529, q_572, q_621, q_626, q_740, q_745, q_860, q_865, q_980, q_985, q_1100, q_1105, q_1220, q_1225, q_1340, q_1345, q_1460, q_1465, q_1580, q_1585, q_1700, q_1705, q_1820, q_1825, q_1940, q_1945, q_2060, q_2065, q_2180, q_2185, q_2300, q_2305, q_2420, q_2425, q_2540, q_2545, q_2546, q_2547, q_2548, q_2549, q_2550, q_2551, q_2552, q_2707, q_2712, q_2713, q_2714, q_2715, q_2716, q_2717, q_2718, q_2719, q_2875, q_2880, q_2881, q_2882, q_2883, q_2884, q_2885, q_2886, q_2887, q_3043] (nO S_2988 q_3043 5) from NL.nO hN_3039 hq_3044 hz_3045) (fun a9 h9 => hf_3051.mem h9)
  have hG_3096 : Gs h [(3, [q_1, q_5, q_6]), (4, [q_37, q_43, q_44, q_45, q_46, q_47, q_48, q_49, q_50]), (0, [q_118, q_124]), (1, [q_169, q_174]), (0, [q_206, q_212]), (2, [q_302, q_307, q_308, q_309, q_310, q_311, q_312, q_313, q_314]), (2, [q_395, q_401, q_402, q_403, q_404, q_405, q_406, q_407, q_408]), (1, [q_621, q_626]), (1, [q_740, q_745]), (1, [q_860, q_865]), (1, [q_980, q_985]), (1, [q_1100, q_1105]), (1, [q_1220, q_1225]), (1, [q_1340, q_1345]), (1, [q_1460, q_1465]), (1, [q_1580, q_1585]), (1, [q_1700, q_1705]), (1, [q_1820, q_1825]), (1, [q_1940, q_1945]), (1, [q_2060, q_2065]), (1, [q_2180, q_2185]), (1, [q_2300, q_2305]), (1, [q_2420, q_2425]), (2, [q_2540, q_2545, q_2546, q_2547, q_2548, q_2549, q_2550, q_2551, q_2552]), (2, [q_2707, q_2712, q_2713, q_2714, q_2715, q_2716, q_2717, q_2718, q_2719]), (2, [q_2875, q_2880, q_2881, q_2882, q_2883, q_2884, q_2885, q_2886, q_2887])] S_3049 := Gs.fm (show Gs h [(3, [q_1, q_5, q_6]), (4, [q_37, q_43, q_44, q_45, q_46, q_47, q_48, q_49, q_50]), (0, [q_118, q_124]), (1, [q_169, q_174]), (0, [q_206, q_212]), (2, [q_302, q_307, q_308, q_309, q_310, q_311, q_312, q_313, q_314]), (2, [q_395, q_401, q_402, q_403, q_404, q_405, q_406, q_407, q_408]), (1, [q_621, q_626]), (1, [q_740, q_745]), (1, [q_860, q_865]), (1, [q_980, q_985]), (1, [q_1100, q_1105]), (1, [q_1220, q_1225]), (1, [q_1340, q_1345]), (1, [q_1460, q_1465]), (1, [q_1580, q_1585]), (1, [q_1700, q_1705]), (1, [q_1820, q_1825]), (1, [q_1940, q_1945]), (1, [q_2060, q_2065]), (1, [q_2180, q_2185]), (1, [q_2300, q_2305]), (1, [q_2420, q_2425]), (2, [q_2540, q_2545, q_2546, q_2547, q_2548, q_2549, q_2550, q_2551, q_2552]), (2, [q_2707, q_2712, q_2713, q_2714, q_2715, q_2716, q_2717, q_2718, q_2719]), (2, [q_2875, q_2880, q_2881, q_2882, q_2883, q_2884, q_2885, q_2886, q_2887])] (nO S_2988 q_3043 5) from Gs.nO hG_3040 hq_3044) hf_3051 (fun g9 hg9 p9 hp9 => gn_3046 g9 hg9 p9 hp9)
  have hE_3097 : ELs S_3049 q_149 [q_621, q_740, q_860, q_980, q_1100, q_1220, q_1340, q_1460, q_1580, q_1700, q_1820, q_1940, q_2060, q_2180, q_2300, q_2420] := ELs.fm (ELs.nO (S := S_2988) hE_3041) hf_3051 (mem_old hm_2993) (fun h9 => h9)
  have hE_3098 : ELs S_3049 q_490 [q_2540, q_2707, q_2875] := ELs.fm (ELs.nO (S := S_2988) hE_3042) hf_3051 (mem_old hm_3007) (fun h9 => h9)
  have hGt_3099 : Gt 5 [q_3043] S_3049 := ⟨fun i9 k9 h9 => (match i9, h9 with | 0, h9 => (by have e9 : (5 : Nat) = k9 := Option.some.inj h9; subst e9; exact ⟨hm_3069, hk_3070⟩) | i9 + 1, h9 => absurd h9 (by simp [gT])), (fun _ h9 => absurd h9 List.not_mem_nil), (fun _ h9 => absurd h9 List.not_mem_nil), (fun _ h9 => absurd h9 List.not_mem_nil)⟩
  have hG_3100 : Gs h [(3, [q_1, q_5, q_6]), (4, [q_37, q_43, q_44, q_45, q_46, q_47, q_48, q_49, q_50]), (0, [q_118, q_124]), (1, [q_169, q_174]), (0, [q_206, q_212]), (2, [q_302, q_307, q_308, q_309, q_310, q_311, q_312, q_313, q_314]), (2, [q_395, q_401, q_402, q_403, q_404, q_405, q_406, q_407, q_408]), (1, [q_621, q_626]), (1, [q_740, q_745]), (1, [q_860, q_865]), (1, [q_980, q_985]), (1, [q_1100, q_1105]), (1, [q_1220, q_1225]), (1, [q_1340, q_1345]), (1, [q_1460, q_1465]), (1, [q_1580, q_1585]), (1, [q_1700, q_1705]), (1, [q_1820, q_1825]), (1, [q_1940, q_1945]), (1, [q_2060, q_2065]), (1, [q_2180, q_2185]), (1, [q_2300, q_2305]), (1, [q_2420, q_2425]), (2, [q_2540, q_2545, q_2546, q_2547, q_2548, q_2549, q_2550, q_2551, q_2552]), (2, [q_2707, q_2712, q_2713, q_2714, q_2715, q_2716, q_2717, q_2718, q_2719]), (2, [q_2875, q_2880, q_2881, q_2882, q_2883, q_2884, q_2885, q_2886, q_2887]), (5, [q_3043])] S_3049 := Gs.snoc hG_3096 (by decide) hGt_3099 (fun _ h9 => absurd h9 List.not_mem_nil)
  refine j_aast (j := 0) (ci := 5) C 19  (by decide) rfl dX9_init_219 hm_3074 hk_3075 (inr_of (n := 4) hn_3076 (vp_lit (by decide))) (by decide) hm_3069 hk_3070 rfl ?_
  have hf_3103 : Fm (fun _ _ => False) (fun f9 b9 => b9 = h) (fun _ => False) S (tR S_3049 q_529 0 (some q_3043)) := (hf_3094.tR _ _ (fun h9 => absurd h9 hz_531))
  obtain ⟨S_3101, eS_3102⟩ : ∃ S9 : Hp, S9 = (tR S_3049 q_529 0 (some q_3043)) := ⟨_, rfl⟩
  refine J.eq (S' := S_3101) eS_3102.symm rfl rfl ?_
  have hm_3104 : h ∈ hL S_3101 := by rw [eS_3102]; exact hm_3058
  have hk_3105 : Kd S_3101 h 9 := by rw [eS_3102]; exact hk_3059
  have hm_3106 : q_149 ∈ hL S_3101 := by rw [eS_3102]; exact hm_3060
  have hk_3107 : Kd S_3101 q_149 20 := by rw [eS_3102]; exact hk_3061
  have hn_3108 : Ln S_3101 q_149 16 := by rw [eS_3102]; exact hn_3062
  have hz_3109 : ∀ j, aI S_3101 q_149 j = 0 := by rw [eS_3102]; exact hz_3052
  have hm_3110 : q_244 ∈ hL S_3101 := by rw [eS_3102]; exact hm_3063
  have hk_3111 : Kd S_3101 q_244 13 := by rw [eS_3102]; exact hk_3064
  have hn_3112 : Ln S_3101 q_244 24000 := by rw [eS_3102]; exact hn_3065
  have hz_3113 : ∀ j, aI S_3101 q_244 j = 0 := by rw [eS_3102]; exact hz_3053
  have hm_3114 : q_271 ∈ hL S_3101 := by rw [eS_3102]; exact hm_3066
  have hk_3115 : Kd S_3101 q_271 14 := by rw [eS_3102]; exact hk_3067
  have hn_3116 : Ln S_3101 q_271 16 := by rw [eS_3102]; exact hn_3068
  have hz_3117 : ∀ j, aI S_3101 q_271 j = 0 := by rw [eS_3102]; exact hz_3054
  have hm_3118 : q_3043 ∈ hL S_3101 := by rw [eS_3102]; exact hm_3069
  have hk_3119 : Kd S_3101 q_3043 5 := by rw [eS_3102]; exact hk_3070
  have hm_3120 : q_490 ∈ hL S_3101 := by rw [eS_3102]; exact hm_3071
  have hk_3121 : Kd S_3101 q_490 18 := by rw [eS_3102]; exact hk_3072
  have hn_3122 : Ln S_3101 q_490 3 := by rw [eS_3102]; exact hn_3073
  have hz_3123 : ∀ j, aI S_3101 q_490 j = 0 := by rw [eS_3102]; exact hz_3055
  have hm_3124 : q_529 ∈ hL S_3101 := by rw [eS_3102]; exact hm_3074
  have hk_3125 : Kd S_3101 q_529 19 := by rw [eS_3102]; exact hk_3075
  have hn_3126 : Ln S_3101 q_529 4 := by rw [eS_3102]; exact hn_3076
  have hz_3127 : ∀ j, aI S_3101 q_529 j = 0 := by rw [eS_3102]; exact hz_3056
  have hm_3128 : q_572 ∈ hL S_3101 := by rw [eS_3102]; exact hm_3077
  have hk_3129 : Kd S_3101 q_572 14 := by rw [eS_3102]; exact hk_3078
  have hn_3130 : Ln S_3101 q_572 12 := by rw [eS_3102]; exact hn_3079
  have hz_3131 : ∀ j, aI S_3101 q_572 j = 0 := by rw [eS_3102]; exact hz_3057
  have hv_3132 : hR S_3101 900 h = (some s0) := by rw [eS_3102]; exact hv_3080
  have hv_3133 : hR S_3101 901 h = (some q_1) := by rw [eS_3102]; exact hv_3081
  have hv_3134 : hR S_3101 902 h = (some q_37) := by rw [eS_3102]; exact hv_3082
  have hv_3135 : hR S_3101 903 h = (some q_118) := by rw [eS_3102]; exact hv_3083
  have hv_3136 : hR S_3101 904 h = (some q_149) := by rw [eS_3102]; exact hv_3084
  have hv_3137 : hR S_3101 905 h = (some q_169) := by rw [eS_3102]; exact hv_3085
  have hv_3138 : hR S_3101 906 h = (some q_206) := by rw [eS_3102]; exact hv_3086
  have hv_3139 : hR S_3101 907 h = (some q_244) := by rw [eS_3102]; exact hv_3087
  have hv_3140 : hR S_3101 908 h = (some q_271) := by rw [eS_3102]; exact hv_3088
  have hv_3141 : hR S_3101 909 h = (some q_302) := by rw [eS_3102]; exact hv_3089
  have hv_3142 : hR S_3101 910 h = (some q_395) := by rw [eS_3102]; exact hv_3090
  have hv_3143 : hR S_3101 911 h = (some q_490) := by rw [eS_3102]; exact hv_3091
  have hv_3144 : hR S_3101 912 h = (some q_529) := by rw [eS_3102]; exact hv_3092
  have hv_3145 : hR S_3101 917 h = (some q_572) := by rw [eS_3102]; exact hv_3093
  have hf_3146 : Fm (fun _ _ => False) (fun f9 b9 => b9 = h) (fun _ => False) S S_3101 := by rw [eS_3102]; exact hf_3103
  have hN_3147 : NL S [q_1, q_5, q_6, q_37, q_43, q_44, q_45, q_46, q_47, q_48, q_49, q_50, q_118, q_124, q_149, q_169, q_174, q_206, q_212, q_244, q_271, q_302, q_307, q_308, q_309, q_310, q_311, q_312, q_313, q_314, q_395, q_401, q_402, q_403, q_404, q_405, q_406, q_407, q_408, q_490, q_529, q_572, q_621, q_626, q_740, q_745, q_860, q_865, q_980, q_985, q_1100, q_1105, q_1220, q_1225, q_1340, q_1345, q_1460, q_1465, q_1580, q_1585, q_1700, q_1705, q_1820, q_1825, q_1940, q_1945, q_2060, q_2065, q_2180, q_2185, q_2300, q_2305, q_2420, q_2425, q_2540, q_2545, q_2546, q_2547, q_2548, q_2549, q_2550, q_2551, q_2552, q_2707, q_2712, q_2713, q_2714, q_2715, q_2716, q_2717, q_2718, q_2719, q_2875, q_2880, q_2881, q_2882, q_2883, q_2884, q_2885, q_2886, q_2887, q_3043] S_3101 := by rw [eS_3102]; exact (NL.tR (S := S_3049) hN_3095)
  have hG_3148 : Gs h [(3, [q_1, q_5, q_6]), (4, [q_37, q_43, q_44, q_45, q_46, q_47, q_48, q_49, q_50]), (0, [q_118, q_124]), (1, [q_169, q_174]), (0, [q_206, q_212]), (2, [q_302, q_307, q_308, q_309, q_310, q_311, q_312, q_313, q_314]), (2, [q_395, q_401, q_402, q_403, q_404, q_405, q_406, q_407, q_408]), (1, [q_621, q_626]), (1, [q_740, q_745]), (1, [q_860, q_865]), (1, [q_980, q_985]), (1, [q_1100, q_1105]), (1, [q_1220, q_1225]), (1, [q_1340, q_1345]), (1, [q_1460, q_1465]), (1, [q_1580, q_1585]), (1, [q_1700, q_1705]), (1, [q_1820, q_1825]), (1, [q_1940, q_1945]), (1, [q_2060, q_2065]), (1, [q_2180, q_2185]), (1, [q_2300, q_2305]), (1, [q_2420, q_2425]), (2, [q_2540, q_2545, q_2546, q_2547, q_2548, q_2549, q_2550, q_2551, q_2552]), (2, [q_2707, q_2712, q_2713, q_2714, q_2715, q_2716, q_2717, q_2718, q_2719]), (2, [q_2875, q_2880, q_2881, q_2882, q_2883, q_2884, q_2885, q_2886, q_2887]), (5, [q_3043])] S_3101 := by rw [eS_3102]; exact (Gs.tR (S := S_3049) hG_3100)
  have hE_3149 : ELs S_3101 q_149 [q_621, q_740, q_860, q_980, q_1100, q_1220, q_1340, q_1460, q_1580, q_1700, q_1820, q_1940, q_2060, q_2180, q_2300, q_2420] := by rw [eS_3102]; exact (ELs.tRx (S := S_3049) (fun e9 => absurd ((hk_3061).symm.trans ((congrArg (hK _) e9).trans hk_3075)) (by decide)) hE_3097)
  have hE_3150 : ELs S_3101 q_490 [q_2540, q_2707, q_2875] := by rw [eS_3102]; exact (ELs.tRx (S := S_3049) (fun e9 => absurd ((hk_3072).symm.trans ((congrArg (hK _) e9).trans hk_3075)) (by decide)) hE_3098)
  have hE_3151 : ELs S_3101 q_529 [q_3043] := by rw [eS_3102]; exact (show ELs (tR S_3049 q_529 0 (some q_3043)) q_529 [q_3043] from ELs.snoc (ELs.nil (S := S_3049) (a := q_529)) rfl)
  refine j_iinc (q := 0) (v := 1) (lv' := [(2, .int 1), (0, .ref h), (1, .ref s0)]) C dX9_init_220 rfl (by decide) (by rw [hn9]; decide) rfl ?_
  refine j_goto (tgt := 198) C dX9_init_223 (by decide) ?_
  show J _ _ _ _ _ 198 _
  refine j_iload_n C dX9_init_198 rfl 0 rfl ?_
  refine j_aload_n C dX9_init_199 rfl 1 rfl ?_
  refine j_getr (f := 912) (v := q_529) C flX9_70 dX9_init_200 hm_3104 hk_3105 (by decide) rfl hv_3144 ?_
  refine j_alen (v := 4) C dX9_init_203 hm_3124 hk_3125 (by decide) (by decide) (len_of (n := 4) hn_3126 (by decide)) ?_
  refine j_ic_ge (tgt := 226) C dX9_init_204 (by decide) (fun c9 => absurd c9 (by decide)) (fun c9 => ?_)
  refine j_aload_n C dX9_init_207 rfl 1 rfl ?_
  refine j_getr (f := 912) (v := q_529) C flX9_70 dX9_init_208 hm_3104 hk_3105 (by decide) rfl hv_3144 ?_
  refine j_iload_n C dX9_init_211 rfl 0 rfl ?_
  show J _ _ _ _ _ 212 _
  refine j_new (N := 13) C (ci := 5) rfl rfl klX9_68 knX5 kiX5 (M.cells (by decide)) (M.slots (by decide)) dX9_init_212 (fun q_3152 hq_3153 => ?_)
  have hz_3154 : q_3152 ∉ hL S := fun h9 => hq_3153 (hf_3146.mem h9)
  have gn_3155 : ∀ g9 ∈ ([(3, [q_1, q_5, q_6]), (4, [q_37, q_43, q_44, q_45, q_46, q_47, q_48, q_49, q_50]), (0, [q_118, q_124]), (1, [q_169, q_174]), (0, [q_206, q_212]), (2, [q_302, q_307, q_308, q_309, q_310, q_311, q_312, q_313, q_314]), (2, [q_395, q_401, q_402, q_403, q_404, q_405, q_406, q_407, q_408]), (1, [q_621, q_626]), (1, [q_740, q_745]), (1, [q_860, q_865]), (1, [q_980, q_985]), (1, [q_1100, q_1105]), (1, [q_1220, q_1225]), (1, [q_1340, q_1345]), (1, [q_1460, q_1465]), (1, [q_1580, q_1585]), (1, [q_1700, q_1705]), (1, [q_1820, q_1825]), (1, [q_1940, q_1945]), (1, [q_2060, q_2065]), (1, [q_2180, q_2185]), (1, [q_2300, q_2305]), (1, [q_2420, q_2425]), (2, [q_2540, q_2545, q_2546, q_2547, q_2548, q_2549, q_2550, q_2551, q_2552]), (2, [q_2707, q_2712, q_2713, q_2714, q_2715, q_2716, q_2717, q_2718, q_2719]), (2, [q_2875, q_2880, q_2881, q_2882, q_2883, q_2884, q_2885, q_2886, q_2887]), (5, [q_3043])] : List (Nat × List Nat)), ∀ p9 ∈ (gT g9.1).2.2, g9.2.getD p9.2.1 0 ≠ q_3152 := Gs.ne hG_3148 hq_3153
  refine j_dup C dX9_init_215 rfl ?_
  have hf_3156 : Fm (fun _ _ => False) (fun f9 b9 => b9 = h) (fun _ => False) S (nO S_3101 q_3152 5) := (hf_3146.nO _ hq_3153)
  refine j_callI C [] [.ref q_3152, .int 1, .ref q_529] mlX9_81 mcX5_init (c_X5_init (nO S_3101 q_3152 5) q_3152 mem_new (kd_nO' (k := 5))) (M.rm (by decide) (by decide) (Nat.le_of_ble_eq_true rfl) (Nat.le_of_ble_eq_true rfl)) rfl rfl (Nat.le_of_ble_eq_true rfl) dX9_init_216 (fun r_3157 S_3158 hp_3159 => ?_)
  obtain ⟨rfl, hf_3160⟩ := hp_3159
  refine J.eq (st' := [.ref q_3152, .int 1, .ref q_529]) rfl rfl rfl ?_
  have hz_3161 : ∀ j, aI S_3158 q_149 j = 0 := fun j9 => (hf_3160.ai (mem_old hm_3106) (fun h9 => h9) j9).trans (hz_3109 j9)
  have hz_3162 : ∀ j, aI S_3158 q_244 j = 0 := fun j9 => (hf_3160.ai (mem_old hm_3110) (fun h9 => h9) j9).trans (hz_3113 j9)
  have hz_3163 : ∀ j, aI S_3158 q_271 j = 0 := fun j9 => (hf_3160.ai (mem_old hm_3114) (fun h9 => h9) j9).trans (hz_3117 j9)
  have hz_3164 : ∀ j, aI S_3158 q_490 j = 0 := fun j9 => (hf_3160.ai (mem_old hm_3120) (fun h9 => h9) j9).trans (hz_3123 j9)
  have hz_3165 : ∀ j, aI S_3158 q_529 j = 0 := fun j9 => (hf_3160.ai (mem_old hm_3124) (fun h9 => h9) j9).trans (hz_3127 j9)
  have hz_3166 : ∀ j, aI S_3158 q_572 j = 0 := fun j9 => (hf_3160.ai (mem_old hm_3128) (fun h9 => h9) j9).trans (hz_3131 j9)
  have hm_3167 : h ∈ hL S_3158 := hf_3160.mem (mem_old hm_3104)
  have hk_3168 : Kd S_3158 h 9 := hf_3160.kd (mem_old hm_3104) (kd_nO (k := 5) hq_3153 hm_3104 hk_3105)
  have hm_3169 : q_149 ∈ hL S_3158 := hf_3160.mem (mem_old hm_3106)
  have hk_3170 : Kd S_3158 q_149 20 := hf_3160.kd (mem_old hm_3106) (kd_nO (k := 5) hq_3153 hm_3106 hk_3107)
  have hn_3171 : Ln S_3158 q_149 16 := hf_3160.ln (mem_old hm_3106) hn_3108
  have hm_3172 : q_244 ∈ hL S_3158 := hf_3160.mem (mem_old hm_3110)
  have hk_3173 : Kd S_3158 q_244 13 := hf_3160.kd (mem_old hm_3110) (kd_nO (k := 5) hq_3153 hm_3110 hk_3111)
  have hn_3174 : Ln S_3158 q_244 24000 := hf_3160.ln (mem_old hm_3110) hn_3112
  have hm_3175 : q_271 ∈ hL S_3158 := hf_3160.mem (mem_old hm_3114)
  have hk_3176 : Kd S_3158 q_271 14 := hf_3160.kd (mem_old hm_3114) (kd_nO (k := 5) hq_3153 hm_3114 hk_3115)
  have hn_3177 : Ln S_3158 q_271 16 := hf_3160.ln (mem_old hm_3114) hn_3116
  have hm_3178 : q_3152 ∈ hL S_3158 := hf_3160.mem mem_new
  have hk_3179 : Kd S_3158 q_3152 5 := hf_3160.kd mem_new (kd_nO' (k := 5))
  have hm_3180 : q_490 ∈ hL S_3158 := hf_3160.mem (mem_old hm_3120)
  have hk_3181 : Kd S_3158 q_490 18 := hf_3160.kd (mem_old hm_3120) (kd_nO (k := 5) hq_3153 hm_3120 hk_3121)
  have hn_3182 : Ln S_3158 q_490 3 := hf_3160.ln (mem_old hm_3120) hn_3122
  have hm_3183 : q_529 ∈ hL S_3158 := hf_3160.mem (mem_old hm_3124)
  have hk_3184 : Kd S_3158 q_529 19 := hf_3160.kd (mem_old hm_3124) (kd_nO (k := 5) hq_3153 hm_3124 hk_3125)
  have hn_3185 : Ln S_3158 q_529 4 := hf_3160.ln (mem_old hm_3124) hn_3126
  have hm_3186 : q_572 ∈ hL S_3158 := hf_3160.mem (mem_old hm_3128)
  have hk_3187 : Kd S_3158 q_572 14 := hf_3160.kd (mem_old hm_3128) (kd_nO (k := 5) hq_3153 hm_3128 hk_3129)
  have hn_3188 : Ln S_3158 q_572 12 := hf_3160.ln (mem_old hm_3128) hn_3130
  have hv_3189 : hR S_3158 900 h = (some s0) := hf_3160.fr (mem_old hm_3104) (fun q9 => (fun e9 => absurd (((kd_nO (k := 5) hq_3153 hm_3104 hk_3105)).symm.trans ((congrArg (hK _) e9).trans (kd_nO' (k := 5)))) (by decide)) q9) (rd_nOR (k := 5) hq_3153 hm_3104 hv_3132)
  have hv_3190 : hR S_3158 901 h = (some q_1) := hf_3160.fr (mem_old hm_3104) (fun q9 => (fun e9 => absurd (((kd_nO (k := 5) hq_3153 hm_3104 hk_3105)).symm.trans ((congrArg (hK _) e9).trans (kd_nO' (k := 5)))) (by decide)) q9) (rd_nOR (k := 5) hq_3153 hm_3104 hv_3133)
  have hv_3191 : hR S_3158 902 h = (some q_37) := hf_3160.fr (mem_old hm_3104) (fun q9 => (fun e9 => absurd (((kd_nO (k := 5) hq_3153 hm_3104 hk_3105)).symm.trans ((congrArg (hK _) e9).trans (kd_nO' (k := 5)))) (by decide)) q9) (rd_nOR (k := 5) hq_3153 hm_3104 hv_3134)
  have hv_3192 : hR S_3158 903 h = (some q_118) := hf_3160.fr (mem_old hm_3104) (fun q9 => (fun e9 => absurd (((kd_nO (k := 5) hq_3153 hm_3104 hk_3105)).symm.trans ((congrArg (hK _) e9).trans (kd_nO' (k := 5)))) (by decide)) q9) (rd_nOR (k := 5) hq_3153 hm_3104 hv_3135)
  have hv_3193 : hR S_3158 904 h = (some q_149) := hf_3160.fr (mem_old hm_3104) (fun q9 => (fun e9 => absurd (((kd_nO (k := 5) hq_3153 hm_3104 hk_3105)).symm.trans ((congrArg (hK _) e9).trans (kd_nO' (k := 5)))) (by decide)) q9) (rd_nOR (k := 5) hq_3153 hm_3104 hv_3136)
  have hv_3194 : hR S_3158 905 h = (some q_169) := hf_3160.fr (mem_old hm_3104) (fun q9 => (fun e9 => absurd (((kd_nO (k := 5) hq_3153 hm_3104 hk_3105)).symm.trans ((congrArg (hK _) e9).trans (kd_nO' (k := 5)))) (by decide)) q9) (rd_nOR (k := 5) hq_3153 hm_3104 hv_3137)
  have hv_3195 : hR S_3158 906 h = (some q_206) := hf_3160.fr (mem_old hm_3104) (fun q9 => (fun e9 => absurd (((kd_nO (k := 5) hq_3153 hm_3104 hk_3105)).symm.trans ((congrArg (hK _) e9).trans (kd_nO' (k := 5)))) (by decide)) q9) (rd_nOR (k := 5) hq_3153 hm_3104 hv_3138)
  have hv_3196 : hR S_3158 907 h = (some q_244) := hf_3160.fr (mem_old hm_3104) (fun q9 => (fun e9 => absurd (((kd_nO (k := 5) hq_3153 hm_3104 hk_3105)).symm.trans ((congrArg (hK _) e9).trans (kd_nO' (k := 5)))) (by decide)) q9) (rd_nOR (k := 5) hq_3153 hm_3104 hv_3139)
  have hv_3197 : hR S_3158 908 h = (some q_271) := hf_3160.fr (mem_old hm_3104) (fun q9 => (fun e9 => absurd (((kd_nO (k := 5) hq_3153 hm_3104 hk_3105)).symm.trans ((congrArg (hK _) e9).trans (kd_nO' (k := 5)))) (by decide)) q9) (rd_nOR (k := 5) hq_3153 hm_3104 hv_3140)
  have hv_3198 : hR S_3158 909 h = (some q_302) := hf_3160.fr (mem_old hm_3104) (fun q9 => (fun e9 => absurd (((kd_nO (k := 5) hq_3153 hm_3104 hk_3105)).symm.trans ((congrArg (hK _) e9).trans (kd_nO' (k := 5)))) (by decide)) q9) (rd_nOR (k := 5) hq_3153 hm_3104 hv_3141)
  have hv_3199 : hR S_3158 910 h = (some q_395) := hf_3160.fr (mem_old hm_3104) (fun q9 => (fun e9 => absurd (((kd_nO (k := 5) hq_3153 hm_3104 hk_3105)).symm.trans ((congrArg (hK _) e9).trans (kd_nO' (k := 5)))) (by decide)) q9) (rd_nOR (k := 5) hq_3153 hm_3104 hv_3142)
  have hv_3200 : hR S_3158 911 h = (some q_490) := hf_3160.fr (mem_old hm_3104) (fun q9 => (fun e9 => absurd (((kd_nO (k := 5) hq_3153 hm_3104 hk_3105)).symm.trans ((congrArg (hK _) e9).trans (kd_nO' (k := 5)))) (by decide)) q9) (rd_nOR (k := 5) hq_3153 hm_3104 hv_3143)
  have hv_3201 : hR S_3158 912 h = (some q_529) := hf_3160.fr (mem_old hm_3104) (fun q9 => (fun e9 => absurd (((kd_nO (k := 5) hq_3153 hm_3104 hk_3105)).symm.trans ((congrArg (hK _) e9).trans (kd_nO' (k := 5)))) (by decide)) q9) (rd_nOR (k := 5) hq_3153 hm_3104 hv_3144)
  have hv_3202 : hR S_3158 917 h = (some q_572) := hf_3160.fr (mem_old hm_3104) (fun q9 => (fun e9 => absurd (((kd_nO (k := 5) hq_3153 hm_3104 hk_3105)).symm.trans ((congrArg (hK _) e9).trans (kd_nO' (k := 5)))) (by decide)) q9) (rd_nOR (k := 5) hq_3153 hm_3104 hv_3145)
  have hf_3203 : Fm (fun _ _ => False) (fun f9 b9 => b9 = h) (fun _ => False) S S_3158 := hf_3156.then hf_3160 (fun a9 ha9 => ⟨(fun f9 h9 => h9.elim), (fun f9 h9 => (fun h8 => absurd (h8 ▸ ha9) hz_3154) h9), (fun h9 => h9.elim)⟩)
  have hN_3204 : NL S [q_1, q_5, q_6, q_37, q_43, q_44, q_45, q_46, q_47, q_48, q_49, q_50, q_118, q_124, q_149, q_169, q_174, q_206, q_212, q_244, q_271, q_302, q_307, q_308, q_309, q_310, q_311, q_312, q_313, q_314, q_395, q_401, q_402, q_403, q_404, q_405, q_406, q_407, q_408, q_490, q_529, q_572, q_621, q_626, q_740, q_745, q_860, q_865, q_980, q_985, q_1100, q_1105, q_1220, q_1225, q_1340, q_1345, q_1460, q_1465, q_1580, q_1585, q_1700, q_1705, q_1820, q_1825, q_1940, q_1945, q_2060, q_2065, q_2180, q_2185, q_2300, q_2305, q_2420, q_2425, q_2540, q_2545, q_2546, q_2547, q_2548, q_2549, q_2550, q_2551, q_2552, q_2707, q_2712, q_2713, q_2714, q_2715, q_2716, q_2717, q_2718, q_2719, q_2875, q_2880, q_2881, q_2882, q_2883, q_2884, q_2885, q_2886, q_2887, q_3043, q_3152] S_3158 := NL.mono (show NL S [q_1, q_5, q_6, q_37, q_43, q_44, q_45, q_46, q_47, q_48, q_49, q_50, q_118, q_124, q_149, q_169, q_174, q_206, q_212, q_244, q_271, q_302, q_307, q_308, q_309, q_310, q_311, q_312, q_313, q_314, q_395, q_401, q_402, q_403, q_404, q_405, q_406, q_407, q_408, q_490, q_529, q_572, q_621, q_626, q_740, q_745, q_860, q_865, q_980, q_985, q_1100, q_1105, q_1220, q_1225, q_1340, q_1345, q_1460, q_1465, q_1580, q_1585, q_1700, q_1705, q_1820, q_1825, q_1940, q_1945, q_2060, q_2065, q_2180, q_2185, q_2300, q_2305, q_2420, q_2425, q_2540, q_2545, q_2546, q_2547, q_2548, q_2549, q_2550, q_2551, q_2552, q_2707, q_2712, q_2713, q_2714, q_2715, q_2716, q_2717, q_2718, q_2719, q_2875, q_2880, q_2881, q_2882, q_2883, q_2884, q_2885, q_2886, q_2887, q_3043, q_3152] (nO S_3101 q_3152 5) from NL.nO hN_3147 hq_3153 hz_3154) (fun a9 h9 => hf_3160.mem h9)
  have hG_3205 : Gs h [(3, [q_1, q_5, q_6]), (4, [q_37, q_43, q_44, q_45, q_46, q_47, q_48, q_49, q_50]), (0, [q_118, q_124]), (1, [q_169, q_174]), (0, [q_206, q_212]), (2, [q_302, q_307, q_308, q_309, q_310, q_311, q_312, q_313, q_314]), (2, [q_395, q_401, q_402, q_403, q_404, q_405, q_406, q_407, q_408]), (1, [q_621, q_626]), (1, [q_740, q_745]), (1, [q_860, q_865]), (1, [q_980, q_985]), (1, [q_1100, q_1105]), (1, [q_1220, q_1225]), (1, [q_1340, q_1345]), (1, [q_1460, q_1465]), (1, [q_1580, q_1585]), (1, [q_1700, q_1705]), (1, [q_1820, q_1825]), (1, [q_1940, q_1945]), (1, [q_2060, q_2065]), (1, [q_2180, q_2185]), (1, [q_2300, q_2305]), (1, [q_2420, q_2425]), (2, [q_2540, q_2545, q_2546, q_2547, q_2548, q_2549, q_2550, q_2551, q_2552]), (2, [q_2707, q_2712, q_2713, q_2714, q_2715, q_2716, q_2717, q_2718, q_2719]), (2, [q_2875, q_2880, q_2881, q_2882, q_2883, q_2884, q_2885, q_2886, q_2887]), (5, [q_3043])] S_3158 := Gs.fm (show Gs h [(3, [q_1, q_5, q_6]), (4, [q_37, q_43, q_44, q_45, q_46, q_47, q_48, q_49, q_50]), (0, [q_118, q_124]), (1, [q_169, q_174]), (0, [q_206, q_212]), (2, [q_302, q_307, q_308, q_309, q_310, q_311, q_312, q_313, q_314]), (2, [q_395, q_401, q_402, q_403, q_404, q_405, q_406, q_407, q_408]), (1, [q_621, q_626]), (1, [q_740, q_745]), (1, [q_860, q_865]), (1, [q_980, q_985]), (1, [q_1100, q_1105]), (1, [q_1220, q_1225]), (1, [q_1340, q_1345]), (1, [q_1460, q_1465]), (1, [q_1580, q_1585]), (1, [q_1700, q_1705]), (1, [q_1820, q_1825]), (1, [q_1940, q_1945]), (1, [q_2060, q_2065]), (1, [q_2180, q_2185]), (1, [q_2300, q_2305]), (1, [q_2420, q_2425]), (2, [q_2540, q_2545, q_2546, q_2547, q_2548, q_2549, q_2550, q_2551, q_2552]), (2, [q_2707, q_2712, q_2713, q_2714, q_2715, q_2716, q_2717, q_2718, q_2719]), (2, [q_2875, q_2880, q_2881, q_2882, q_2883, q_2884, q_2885, q_2886, q_2887]), (5, [q_3043])] (nO S_3101 q_3152 5) from Gs.nO hG_3148 hq_3153) hf_3160 (fun g9 hg9 p9 hp9 => gn_3155 g9 hg9 p9 hp9)
  have hE_3206 : ELs S_3158 q_149 [q_621, q_740, q_860, q_980, q_1100, q_1220, q_1340, q_1460, q_1580, q_1700, q_1820, q_1940, q_2060, q_2180, q_2300, q_2420] := ELs.fm (ELs.nO (S := S_3101) hE_3149) hf_3160 (mem_old hm_3106) (fun h9 => h9)
  have hE_3207 : ELs S_3158 q_490 [q_2540, q_2707, q_2875] := ELs.fm (ELs.nO (S := S_3101) hE_3150) hf_3160 (mem_old hm_3120) (fun h9 => h9)
  have hE_3208 : ELs S_3158 q_529 [q_3043] := ELs.fm (ELs.nO (S := S_3101) hE_3151) hf_3160 (mem_old hm_3124) (fun h9 => h9)
  have hGt_3209 : Gt 5 [q_3152] S_3158 := ⟨fun i9 k9 h9 => (match i9, h9 with | 0, h9 => (by have e9 : (5 : Nat) = k9 := Option.some.inj h9; subst e9; exact ⟨hm_3178, hk_3179⟩) | i9 + 1, h9 => absurd h9 (by simp [gT])), (fun _ h9 => absurd h9 List.not_mem_nil), (fun _ h9 => absurd h9 List.not_mem_nil), (fun _ h9 => absurd h9 List.not_mem_nil)⟩
  have hG_3210 : Gs h [(3, [q_1, q_5, q_6]), (4, [q_37, q_43, q_44, q_45, q_46, q_47, q_48, q_49, q_50]), (0, [q_118, q_124]), (1, [q_169, q_174]), (0, [q_206, q_212]), (2, [q_302, q_307, q_308, q_309, q_310, q_311, q_312, q_313, q_314]), (2, [q_395, q_401, q_402, q_403, q_404, q_405, q_406, q_407, q_408]), (1, [q_621, q_626]), (1, [q_740, q_745]), (1, [q_860, q_865]), (1, [q_980, q_985]), (1, [q_1100, q_1105]), (1, [q_1220, q_1225]), (1, [q_1340, q_1345]), (1, [q_1460, q_1465]), (1, [q_1580, q_1585]), (1, [q_1700, q_1705]), (1, [q_1820, q_1825]), (1, [q_1940, q_1945]), (1, [q_2060, q_2065]), (1, [q_2180, q_2185]), (1, [q_2300, q_2305]), (1, [q_2420, q_2425]), (2, [q_2540, q_2545, q_2546, q_2547, q_2548, q_2549, q_2550, q_2551, q_2552]), (2, [q_2707, q_2712, q_2713, q_2714, q_2715, q_2716, q_2717, q_2718, q_2719]), (2, [q_2875, q_2880, q_2881, q_2882, q_2883, q_2884, q_2885, q_2886, q_2887]), (5, [q_3043]), (5, [q_3152])] S_3158 := Gs.snoc hG_3205 (by decide) hGt_3209 (fun _ h9 => absurd h9 List.not_mem_nil)
  refine j_aast (j := 1) (ci := 5) C 19  (by decide) rfl dX9_init_219 hm_3183 hk_3184 (inr_of (n := 4) hn_3185 (vp_lit (by decide))) (by decide) hm_3178 hk_3179 rfl ?_
  have hf_3213 : Fm (fun _ _ => False) (fun f9 b9 => b9 = h) (fun _ => False) S (tR S_3158 q_529 1 (some q_3152)) := (hf_3203.tR _ _ (fun h9 => absurd h9 hz_531))
  obtain ⟨S_3211, eS_3212⟩ : ∃ S9 : Hp, S9 = (tR S_3158 q_529 1 (some q_3152)) := ⟨_, rfl⟩
  refine J.eq (S' := S_3211) eS_3212.symm rfl rfl ?_
  have hm_3214 : h ∈ hL S_3211 := by rw [eS_3212]; exact hm_3167
  have hk_3215 : Kd S_3211 h 9 := by rw [eS_3212]; exact hk_3168
  have hm_3216 : q_149 ∈ hL S_3211 := by rw [eS_3212]; exact hm_3169
  have hk_3217 : Kd S_3211 q_149 20 := by rw [eS_3212]; exact hk_3170
  have hn_3218 : Ln S_3211 q_149 16 := by rw [eS_3212]; exact hn_3171
  have hz_3219 : ∀ j, aI S_3211 q_149 j = 0 := by rw [eS_3212]; exact hz_3161
  have hm_3220 : q_244 ∈ hL S_3211 := by rw [eS_3212]; exact hm_3172
  have hk_3221 : Kd S_3211 q_244 13 := by rw [eS_3212]; exact hk_3173
  have hn_3222 : Ln S_3211 q_244 24000 := by rw [eS_3212]; exact hn_3174
  have hz_3223 : ∀ j, aI S_3211 q_244 j = 0 := by rw [eS_3212]; exact hz_3162
  have hm_3224 : q_271 ∈ hL S_3211 := by rw [eS_3212]; exact hm_3175
  have hk_3225 : Kd S_3211 q_271 14 := by rw [eS_3212]; exact hk_3176
  have hn_3226 : Ln S_3211 q_271 16 := by rw [eS_3212]; exact hn_3177
  have hz_3227 : ∀ j, aI S_3211 q_271 j = 0 := by rw [eS_3212]; exact hz_3163
  have hm_3228 : q_3152 ∈ hL S_3211 := by rw [eS_3212]; exact hm_3178
  have hk_3229 : Kd S_3211 q_3152 5 := by rw [eS_3212]; exact hk_3179
  have hm_3230 : q_490 ∈ hL S_3211 := by rw [eS_3212]; exact hm_3180
  have hk_3231 : Kd S_3211 q_490 18 := by rw [eS_3212]; exact hk_3181
  have hn_3232 : Ln S_3211 q_490 3 := by rw [eS_3212]; exact hn_3182
  have hz_3233 : ∀ j, aI S_3211 q_490 j = 0 := by rw [eS_3212]; exact hz_3164
  have hm_3234 : q_529 ∈ hL S_3211 := by rw [eS_3212]; exact hm_3183
  have hk_3235 : Kd S_3211 q_529 19 := by rw [eS_3212]; exact hk_3184
  have hn_3236 : Ln S_3211 q_529 4 := by rw [eS_3212]; exact hn_3185
  have hz_3237 : ∀ j, aI S_3211 q_529 j = 0 := by rw [eS_3212]; exact hz_3165
  have hm_3238 : q_572 ∈ hL S_3211 := by rw [eS_3212]; exact hm_3186
  have hk_3239 : Kd S_3211 q_572 14 := by rw [eS_3212]; exact hk_3187
  have hn_3240 : Ln S_3211 q_572 12 := by rw [eS_3212]; exact hn_3188
  have hz_3241 : ∀ j, aI S_3211 q_572 j = 0 := by rw [eS_3212]; exact hz_3166
  have hv_3242 : hR S_3211 900 h = (some s0) := by rw [eS_3212]; exact hv_3189
  have hv_3243 : hR S_3211 901 h = (some q_1) := by rw [eS_3212]; exact hv_3190
  have hv_3244 : hR S_3211 902 h = (some q_37) := by rw [eS_3212]; exact hv_3191
  have hv_3245 : hR S_3211 903 h = (some q_118) := by rw [eS_3212]; exact hv_3192
  have hv_3246 : hR S_3211 904 h = (some q_149) := by rw [eS_3212]; exact hv_3193
  have hv_3247 : hR S_3211 905 h = (some q_169) := by rw [eS_3212]; exact hv_3194
  have hv_3248 : hR S_3211 906 h = (some q_206) := by rw [eS_3212]; exact hv_3195
  have hv_3249 : hR S_3211 907 h = (some q_244) := by rw [eS_3212]; exact hv_3196
  have hv_3250 : hR S_3211 908 h = (some q_271) := by rw [eS_3212]; exact hv_3197
  have hv_3251 : hR S_3211 909 h = (some q_302) := by rw [eS_3212]; exact hv_3198
  have hv_3252 : hR S_3211 910 h = (some q_395) := by rw [eS_3212]; exact hv_3199
  have hv_3253 : hR S_3211 911 h = (some q_490) := by rw [eS_3212]; exact hv_3200
  have hv_3254 : hR S_3211 912 h = (some q_529) := by rw [eS_3212]; exact hv_3201
  have hv_3255 : hR S_3211 917 h = (some q_572) := by rw [eS_3212]; exact hv_3202
  have hf_3256 : Fm (fun _ _ => False) (fun f9 b9 => b9 = h) (fun _ => False) S S_3211 := by rw [eS_3212]; exact hf_3213
  have hN_3257 : NL S [q_1, q_5, q_6, q_37, q_43, q_44, q_45, q_46, q_47, q_48, q_49, q_50, q_118, q_124, q_149, q_169, q_174, q_206, q_212, q_244, q_271, q_302, q_307, q_308, q_309, q_310, q_311, q_312, q_313, q_314, q_395, q_401, q_402, q_403, q_404, q_405, q_406, q_407, q_408, q_490, q_529, q_572, q_621, q_626, q_740, q_745, q_860, q_865, q_980, q_985, q_1100, q_1105, q_1220, q_1225, q_1340, q_1345, q_1460, q_1465, q_1580, q_1585, q_1700, q_1705, q_1820, q_1825, q_1940, q_1945, q_2060, q_2065, q_2180, q_2185, q_2300, q_2305, q_2420, q_2425, q_2540, q_2545, q_2546, q_2547, q_2548, q_2549, q_2550, q_2551, q_2552, q_2707, q_2712, q_2713, q_2714, q_2715, q_2716, q_2717, q_2718, q_2719, q_2875, q_2880, q_2881, q_2882, q_2883, q_2884, q_2885, q_2886, q_2887, q_3043, q_3152] S_3211 := by rw [eS_3212]; exact (NL.tR (S := S_3158) hN_3204)
  have hG_3258 : Gs h [(3, [q_1, q_5, q_6]), (4, [q_37, q_43, q_44, q_45, q_46, q_47, q_48, q_49, q_50]), (0, [q_118, q_124]), (1, [q_169, q_174]), (0, [q_206, q_212]), (2, [q_302, q_307, q_308, q_309, q_310, q_311, q_312, q_313, q_314]), (2, [q_395, q_401, q_402, q_403, q_404, q_405, q_406, q_407, q_408]), (1, [q_621, q_626]), (1, [q_740, q_745]), (1, [q_860, q_865]), (1, [q_980, q_985]), (1, [q_1100, q_1105]), (1, [q_1220, q_1225]), (1, [q_1340, q_1345]), (1, [q_1460, q_1465]), (1, [q_1580, q_1585]), (1, [q_1700, q_1705]), (1, [q_1820, q_1825]), (1, [q_1940, q_1945]), (1, [q_2060, q_2065]), (1, [q_2180, q_2185]), (1, [q_2300, q_2305]), (1, [q_2420, q_2425]), (2, [q_2540, q_2545, q_2546, q_2547, q_2548, q_2549, q_2550, q_2551, q_2552]), (2, [q_2707, q_2712, q_2713, q_2714, q_2715, q_2716, q_2717, q_2718, q_2719]), (2, [q_2875, q_2880, q_2881, q_2882, q_2883, q_2884, q_2885, q_2886, q_2887]), (5, [q_3043]), (5, [q_3152])] S_3211 := by rw [eS_3212]; exact (Gs.tR (S := S_3158) hG_3210)
  have hE_3259 : ELs S_3211 q_149 [q_621, q_740, q_860, q_980, q_1100, q_1220, q_1340, q_1460, q_1580, q_1700, q_1820, q_1940, q_2060, q_2180, q_2300, q_2420] := by rw [eS_3212]; exact (ELs.tRx (S := S_3158) (fun e9 => absurd ((hk_3170).symm.trans ((congrArg (hK _) e9).trans hk_3184)) (by decide)) hE_3206)
  have hE_3260 : ELs S_3211 q_490 [q_2540, q_2707, q_2875] := by rw [eS_3212]; exact (ELs.tRx (S := S_3158) (fun e9 => absurd ((hk_3181).symm.trans ((congrArg (hK _) e9).trans hk_3184)) (by decide)) hE_3207)
  have hE_3261 : ELs S_3211 q_529 [q_3043, q_3152] := by rw [eS_3212]; exact (show ELs (tR S_3158 q_529 1 (some q_3152)) q_529 [q_3043, q_3152] from ELs.snoc hE_3208 rfl)
  refine j_iinc (q := 0) (v := 2) (lv' := [(2, .int 2), (0, .ref h), (1, .ref s0)]) C dX9_init_220 rfl (by decide) (by rw [hn9]; decide) rfl ?_
  refine j_goto (tgt := 198) C dX9_init_223 (by decide) ?_
  refine j_iload_n C dX9_init_198 rfl 0 rfl ?_
  refine j_aload_n C dX9_init_199 rfl 1 rfl ?_
  show J _ _ _ _ _ 200 _
  refine j_getr (f := 912) (v := q_529) C flX9_70 dX9_init_200 hm_3214 hk_3215 (by decide) rfl hv_3254 ?_
  refine j_alen (v := 4) C dX9_init_203 hm_3234 hk_3235 (by decide) (by decide) (len_of (n := 4) hn_3236 (by decide)) ?_
  refine j_ic_ge (tgt := 226) C dX9_init_204 (by decide) (fun c9 => absurd c9 (by decide)) (fun c9 => ?_)
  refine j_aload_n C dX9_init_207 rfl 1 rfl ?_
  refine j_getr (f := 912) (v := q_529) C flX9_70 dX9_init_208 hm_3214 hk_3215 (by decide) rfl hv_3254 ?_
  refine j_iload_n C dX9_init_211 rfl 0 rfl ?_
  refine j_new (N := 13) C (ci := 5) rfl rfl klX9_68 knX5 kiX5 (M.cells (by decide)) (M.slots (by decide)) dX9_init_212 (fun q_3262 hq_3263 => ?_)
  have hz_3264 : q_3262 ∉ hL S := fun h9 => hq_3263 (hf_3256.mem h9)
  have gn_3265 : ∀ g9 ∈ ([(3, [q_1, q_5, q_6]), (4, [q_37, q_43, q_44, q_45, q_46, q_47, q_48, q_49, q_50]), (0, [q_118, q_124]), (1, [q_169, q_174]), (0, [q_206, q_212]), (2, [q_302, q_307, q_308, q_309, q_310, q_311, q_312, q_313, q_314]), (2, [q_395, q_401, q_402, q_403, q_404, q_405, q_406, q_407, q_408]), (1, [q_621, q_626]), (1, [q_740, q_745]), (1, [q_860, q_865]), (1, [q_980, q_985]), (1, [q_1100, q_1105]), (1, [q_1220, q_1225]), (1, [q_1340, q_1345]), (1, [q_1460, q_1465]), (1, [q_1580, q_1585]), (1, [q_1700, q_1705]), (1, [q_1820, q_1825]), (1, [q_1940, q_1945]), (1, [q_2060, q_2065]), (1, [q_2180, q_2185]), (1, [q_2300, q_2305]), (1, [q_2420, q_2425]), (2, [q_2540, q_2545, q_2546, q_2547, q_2548, q_2549, q_2550, q_2551, q_2552]), (2, [q_2707, q_2712, q_2713, q_2714, q_2715, q_2716, q_2717, q_2718, q_2719]), (2, [q_2875, q_2880, q_2881, q_2882, q_2883, q_2884, q_2885, q_2886, q_2887]), (5, [q_3043]), (5, [q_3152])] : List (Nat × List Nat)), ∀ p9 ∈ (gT g9.1).2.2, g9.2.getD p9.2.1 0 ≠ q_3262 := Gs.ne hG_3258 hq_3263
  refine j_dup C dX9_init_215 rfl ?_
  show J _ _ _ _ _ 216 _
  have hf_3266 : Fm (fun _ _ => False) (fun f9 b9 => b9 = h) (fun _ => False) S (nO S_3211 q_3262 5) := (hf_3256.nO _ hq_3263)
  refine j_callI C [] [.ref q_3262, .int 2, .ref q_529] mlX9_81 mcX5_init (c_X5_init (nO S_3211 q_3262 5) q_3262 mem_new (kd_nO' (k := 5))) (M.rm (by decide) (by decide) (Nat.le_of_ble_eq_true rfl) (Nat.le_of_ble_eq_true rfl)) rfl rfl (Nat.le_of_ble_eq_true rfl) dX9_init_216 (fun r_3267 S_3268 hp_3269 => ?_)
  obtain ⟨rfl, hf_3270⟩ := hp_3269
  refine J.eq (st' := [.ref q_3262, .int 2, .ref q_529]) rfl rfl rfl ?_
  have hz_3271 : ∀ j, aI S_3268 q_149 j = 0 := fun j9 => (hf_3270.ai (mem_old hm_3216) (fun h9 => h9) j9).trans (hz_3219 j9)
  have hz_3272 : ∀ j, aI S_3268 q_244 j = 0 := fun j9 => (hf_3270.ai (mem_old hm_3220) (fun h9 => h9) j9).trans (hz_3223 j9)
  have hz_3273 : ∀ j, aI S_3268 q_271 j = 0 := fun j9 => (hf_3270.ai (mem_old hm_3224) (fun h9 => h9) j9).trans (hz_3227 j9)
  have hz_3274 : ∀ j, aI S_3268 q_490 j = 0 := fun j9 => (hf_3270.ai (mem_old hm_3230) (fun h9 => h9) j9).trans (hz_3233 j9)
  have hz_3275 : ∀ j, aI S_3268 q_529 j = 0 := fun j9 => (hf_3270.ai (mem_old hm_3234) (fun h9 => h9) j9).trans (hz_3237 j9)
  have hz_3276 : ∀ j, aI S_3268 q_572 j = 0 := fun j9 => (hf_3270.ai (mem_old hm_3238) (fun h9 => h9) j9).trans (hz_3241 j9)
  have hm_3277 : h ∈ hL S_3268 := hf_3270.mem (mem_old hm_3214)
  have hk_3278 : Kd S_3268 h 9 := hf_3270.kd (mem_old hm_3214) (kd_nO (k := 5) hq_3263 hm_3214 hk_3215)
  have hm_3279 : q_149 ∈ hL S_3268 := hf_3270.mem (mem_old hm_3216)
  have hk_3280 : Kd S_3268 q_149 20 := hf_3270.kd (mem_old hm_3216) (kd_nO (k := 5) hq_3263 hm_3216 hk_3217)
  have hn_3281 : Ln S_3268 q_149 16 := hf_3270.ln (mem_old hm_3216) hn_3218
  have hm_3282 : q_244 ∈ hL S_3268 := hf_3270.mem (mem_old hm_3220)
  have hk_3283 : Kd S_3268 q_244 13 := hf_3270.kd (mem_old hm_3220) (kd_nO (k := 5) hq_3263 hm_3220 hk_3221)
  have hn_3284 : Ln S_3268 q_244 24000 := hf_3270.ln (mem_old hm_3220) hn_3222
  have hm_3285 : q_271 ∈ hL S_3268 := hf_3270.mem (mem_old hm_3224)
  have hk_3286 : Kd S_3268 q_271 14 := hf_3270.kd (mem_old hm_3224) (kd_nO (k := 5) hq_3263 hm_3224 hk_3225)
  have hn_3287 : Ln S_3268 q_271 16 := hf_3270.ln (mem_old hm_3224) hn_3226
  have hm_3288 : q_3262 ∈ hL S_3268 := hf_3270.mem mem_new
  have hk_3289 : Kd S_3268 q_3262 5 := hf_3270.kd mem_new (kd_nO' (k := 5))
  have hm_3290 : q_490 ∈ hL S_3268 := hf_3270.mem (mem_old hm_3230)
  have hk_3291 : Kd S_3268 q_490 18 := hf_3270.kd (mem_old hm_3230) (kd_nO (k := 5) hq_3263 hm_3230 hk_3231)
  have hn_3292 : Ln S_3268 q_490 3 := hf_3270.ln (mem_old hm_3230) hn_3232
  have hm_3293 : q_529 ∈ hL S_3268 := hf_3270.mem (mem_old hm_3234)
  have hk_3294 : Kd S_3268 q_529 19 := hf_3270.kd (mem_old hm_3234) (kd_nO (k := 5) hq_3263 hm_3234 hk_3235)
  have hn_3295 : Ln S_3268 q_529 4 := hf_3270.ln (mem_old hm_3234) hn_3236
  have hm_3296 : q_572 ∈ hL S_3268 := hf_3270.mem (mem_old hm_3238)
  have hk_3297 : Kd S_3268 q_572 14 := hf_3270.kd (mem_old hm_3238) (kd_nO (k := 5) hq_3263 hm_3238 hk_3239)
  have hn_3298 : Ln S_3268 q_572 12 := hf_3270.ln (mem_old hm_3238) hn_3240
  have hv_3299 : hR S_3268 900 h = (some s0) := hf_3270.fr (mem_old hm_3214) (fun q9 => (fun e9 => absurd (((kd_nO (k := 5) hq_3263 hm_3214 hk_3215)).symm.trans ((congrArg (hK _) e9).trans (kd_nO' (k := 5)))) (by decide)) q9) (rd_nOR (k := 5) hq_3263 hm_3214 hv_3242)
  have hv_3300 : hR S_3268 901 h = (some q_1) := hf_3270.fr (mem_old hm_3214) (fun q9 => (fun e9 => absurd (((kd_nO (k := 5) hq_3263 hm_3214 hk_3215)).symm.trans ((congrArg (hK _) e9).trans (kd_nO' (k := 5)))) (by decide)) q9) (rd_nOR (k := 5) hq_3263 hm_3214 hv_3243)
  have hv_3301 : hR S_3268 902 h = (some q_37) := hf_3270.fr (mem_old hm_3214) (fun q9 => (fun e9 => absurd (((kd_nO (k := 5) hq_3263 hm_3214 hk_3215)).symm.trans ((congrArg (hK _) e9).trans (kd_nO' (k := 5)))) (by decide)) q9) (rd_nOR (k := 5) hq_3263 hm_3214 hv_3244)
  have hv_3302 : hR S_3268 903 h = (some q_118) := hf_3270.fr (mem_old hm_3214) (fun q9 => (fun e9 => absurd (((kd_nO (k := 5) hq_3263 hm_3214 hk_3215)).symm.trans ((congrArg (hK _) e9).trans (kd_nO' (k := 5)))) (by decide)) q9) (rd_nOR (k := 5) hq_3263 hm_3214 hv_3245)
  have hv_3303 : hR S_3268 904 h = (some q_149) := hf_3270.fr (mem_old hm_3214) (fun q9 => (fun e9 => absurd (((kd_nO (k := 5) hq_3263 hm_3214 hk_3215)).symm.trans ((congrArg (hK _) e9).trans (kd_nO' (k := 5)))) (by decide)) q9) (rd_nOR (k := 5) hq_3263 hm_3214 hv_3246)
  have hv_3304 : hR S_3268 905 h = (some q_169) := hf_3270.fr (mem_old hm_3214) (fun q9 => (fun e9 => absurd (((kd_nO (k := 5) hq_3263 hm_3214 hk_3215)).symm.trans ((congrArg (hK _) e9).trans (kd_nO' (k := 5)))) (by decide)) q9) (rd_nOR (k := 5) hq_3263 hm_3214 hv_3247)
  have hv_3305 : hR S_3268 906 h = (some q_206) := hf_3270.fr (mem_old hm_3214) (fun q9 => (fun e9 => absurd (((kd_nO (k := 5) hq_3263 hm_3214 hk_3215)).symm.trans ((congrArg (hK _) e9).trans (kd_nO' (k := 5)))) (by decide)) q9) (rd_nOR (k := 5) hq_3263 hm_3214 hv_3248)
  have hv_3306 : hR S_3268 907 h = (some q_244) := hf_3270.fr (mem_old hm_3214) (fun q9 => (fun e9 => absurd (((kd_nO (k := 5) hq_3263 hm_3214 hk_3215)).symm.trans ((congrArg (hK _) e9).trans (kd_nO' (k := 5)))) (by decide)) q9) (rd_nOR (k := 5) hq_3263 hm_3214 hv_3249)
  have hv_3307 : hR S_3268 908 h = (some q_271) := hf_3270.fr (mem_old hm_3214) (fun q9 => (fun e9 => absurd (((kd_nO (k := 5) hq_3263 hm_3214 hk_3215)).symm.trans ((congrArg (hK _) e9).trans (kd_nO' (k := 5)))) (by decide)) q9) (rd_nOR (k := 5) hq_3263 hm_3214 hv_3250)
  have hv_3308 : hR S_3268 909 h = (some q_302) := hf_3270.fr (mem_old hm_3214) (fun q9 => (fun e9 => absurd (((kd_nO (k := 5) hq_3263 hm_3214 hk_3215)).symm.trans ((congrArg (hK _) e9).trans (kd_nO' (k := 5)))) (by decide)) q9) (rd_nOR (k := 5) hq_3263 hm_3214 hv_3251)
  have hv_3309 : hR S_3268 910 h = (some q_395) := hf_3270.fr (mem_old hm_3214) (fun q9 => (fun e9 => absurd (((kd_nO (k := 5) hq_3263 hm_3214 hk_3215)).symm.trans ((congrArg (hK _) e9).trans (kd_nO' (k := 5)))) (by decide)) q9) (rd_nOR (k := 5) hq_3263 hm_3214 hv_3252)
  have hv_3310 : hR S_3268 911 h = (some q_490) := hf_3270.fr (mem_old hm_3214) (fun q9 => (fun e9 => absurd (((kd_nO (k := 5) hq_3263 hm_3214 hk_3215)).symm.trans ((congrArg (hK _) e9).trans (kd_nO' (k := 5)))) (by decide)) q9) (rd_nOR (k := 5) hq_3263 hm_3214 hv_3253)
  have hv_3311 : hR S_3268 912 h = (some q_529) := hf_3270.fr (mem_old hm_3214) (fun q9 => (fun e9 => absurd (((kd_nO (k := 5) hq_3263 hm_3214 hk_3215)).symm.trans ((congrArg (hK _) e9).trans (kd_nO' (k := 5)))) (by decide)) q9) (rd_nOR (k := 5) hq_3263 hm_3214 hv_3254)
  have hv_3312 : hR S_3268 917 h = (some q_572) := hf_3270.fr (mem_old hm_3214) (fun q9 => (fun e9 => absurd (((kd_nO (k := 5) hq_3263 hm_3214 hk_3215)).symm.trans ((congrArg (hK _) e9).trans (kd_nO' (k := 5)))) (by decide)) q9) (rd_nOR (k := 5) hq_3263 hm_3214 hv_3255)
  have hf_3313 : Fm (fun _ _ => False) (fun f9 b9 => b9 = h) (fun _ => False) S S_3268 := hf_3266.then hf_3270 (fun a9 ha9 => ⟨(fun f9 h9 => h9.elim), (fun f9 h9 => (fun h8 => absurd (h8 ▸ ha9) hz_3264) h9), (fun h9 => h9.elim)⟩)
  have hN_3314 : NL S [q_1, q_5, q_6, q_37, q_43, q_44, q_45, q_46, q_47, q_48, q_49, q_50, q_118, q_124, q_149, q_169, q_174, q_206, q_212, q_244, q_271, q_302, q_307, q_308, q_309, q_310, q_311, q_312, q_313, q_314, q_395, q_401, q_402, q_403, q_404, q_405, q_406, q_407, q_408, q_490, q_529, q_572, q_621, q_626, q_740, q_745, q_860, q_865, q_980, q_985, q_1100, q_1105, q_1220, q_1225, q_1340, q_1345, q_1460, q_1465, q_1580, q_1585, q_1700, q_1705, q_1820, q_1825, q_1940, q_1945, q_2060, q_2065, q_2180, q_2185, q_2300, q_2305, q_2420, q_2425, q_2540, q_2545, q_2546, q_2547, q_2548, q_2549, q_2550, q_2551, q_2552, q_2707, q_2712, q_2713, q_2714, q_2715, q_2716, q_2717, q_2718, q_2719, q_2875, q_2880, q_2881, q_2882, q_2883, q_2884, q_2885, q_2886, q_2887, q_3043, q_3152, q_3262] S_3268 := NL.mono (show NL S [q_1, q_5, q_6, q_37, q_43, q_44, q_45, q_46, q_47, q_48, q_49, q_50, q_118, q_124, q_149, q_169, q_174, q_206, q_212, q_244, q_271, q_302, q_307, q_308, q_309, q_310, q_311, q_312, q_313, q_314, q_395, q_401, q_402, q_403, q_404, q_405, q_406, q_407, q_408, q_490, q_529, q_572, q_621, q_626, q_740, q_745, q_860, q_865, q_980, q_985, q_1100, q_1105, q_1220, q_1225, q_1340, q_1345, q_1460, q_1465, q_1580, q_1585, q_1700, q_1705, q_1820, q_1825, q_1940, q_1945, q_2060, q_2065, q_2180, q_2185, q_2300, q_2305, q_2420, q_2425, q_2540, q_2545, q_2546, q_2547, q_2548, q_2549, q_2550, q_2551, q_2552, q_2707, q_2712, q_2713, q_2714, q_2715, q_2716, q_2717, q_2718, q_2719, q_2875, q_2880, q_2881, q_2882, q_2883, q_2884, q_2885, q_2886, q_2887, q_3043, q_3152, q_3262] (nO S_3211 q_3262 5) from NL.nO hN_3257 hq_3263 hz_3264) (fun a9 h9 => hf_3270.mem h9)
  have hG_3315 : Gs h [(3, [q_1, q_5, q_6]), (4, [q_37, q_43, q_44, q_45, q_46, q_47, q_48, q_49, q_50]), (0, [q_118, q_124]), (1, [q_169, q_174]), (0, [q_206, q_212]), (2, [q_302, q_307, q_308, q_309, q_310, q_311, q_312, q_313, q_314]), (2, [q_395, q_401, q_402, q_403, q_404, q_405, q_406, q_407, q_408]), (1, [q_621, q_626]), (1, [q_740, q_745]), (1, [q_860, q_865]), (1, [q_980, q_985]), (1, [q_1100, q_1105]), (1, [q_1220, q_1225]), (1, [q_1340, q_1345]), (1, [q_1460, q_1465]), (1, [q_1580, q_1585]), (1, [q_1700, q_1705]), (1, [q_1820, q_1825]), (1, [q_1940, q_1945]), (1, [q_2060, q_2065]), (1, [q_2180, q_2185]), (1, [q_2300, q_2305]), (1, [q_2420, q_2425]), (2, [q_2540, q_2545, q_2546, q_2547, q_2548, q_2549, q_2550, q_2551, q_2552]), (2, [q_2707, q_2712, q_2713, q_2714, q_2715, q_2716, q_2717, q_2718, q_2719]), (2, [q_2875, q_2880, q_2881, q_2882, q_2883, q_2884, q_2885, q_2886, q_2887]), (5, [q_3043]), (5, [q_3152])] S_3268 := Gs.fm (show Gs h [(3, [q_1, q_5, q_6]), (4, [q_37, q_43, q_44, q_45, q_46, q_47, q_48, q_49, q_50]), (0, [q_118, q_124]), (1, [q_169, q_174]), (0, [q_206, q_212]), (2, [q_302, q_307, q_308, q_309, q_310, q_311, q_312, q_313, q_314]), (2, [q_395, q_401, q_402, q_403, q_404, q_405, q_406, q_407, q_408]), (1, [q_621, q_626]), (1, [q_740, q_745]), (1, [q_860, q_865]), (1, [q_980, q_985]), (1, [q_1100, q_1105]), (1, [q_1220, q_1225]), (1, [q_1340, q_1345]), (1, [q_1460, q_1465]), (1, [q_1580, q_1585]), (1, [q_1700, q_1705]), (1, [q_1820, q_1825]), (1, [q_1940, q_1945]), (1, [q_2060, q_2065]), (1, [q_2180, q_2185]), (1, [q_2300, q_2305]), (1, [q_2420, q_2425]), (2, [q_2540, q_2545, q_2546, q_2547, q_2548, q_2549, q_2550, q_2551, q_2552]), (2, [q_2707, q_2712, q_2713, q_2714, q_2715, q_2716, q_2717, q_2718, q_2719]), (2, [q_2875, q_2880, q_2881, q_2882, q_2883, q_2884, q_2885, q_2886, q_2887]), (5, [q_3043]), (5, [q_3152])] (nO S_3211 q_3262 5) from Gs.nO hG_3258 hq_3263) hf_3270 (fun g9 hg9 p9 hp9 => gn_3265 g9 hg9 p9 hp9)
  have hE_3316 : ELs S_3268 q_149 [q_621, q_740, q_860, q_980, q_1100, q_1220, q_1340, q_1460, q_1580, q_1700, q_1820, q_1940, q_2060, q_2180, q_2300, q_2420] := ELs.fm (ELs.nO (S := S_3211) hE_3259) hf_3270 (mem_old hm_3216) (fun h9 => h9)
  have hE_3317 : ELs S_3268 q_490 [q_2540, q_2707, q_2875] := ELs.fm (ELs.nO (S := S_3211) hE_3260) hf_3270 (mem_old hm_3230) (fun h9 => h9)
  have hE_3318 : ELs S_3268 q_529 [q_3043, q_3152] := ELs.fm (ELs.nO (S := S_3211) hE_3261) hf_3270 (mem_old hm_3234) (fun h9 => h9)
  have hGt_3319 : Gt 5 [q_3262] S_3268 := ⟨fun i9 k9 h9 => (match i9, h9 with | 0, h9 => (by have e9 : (5 : Nat) = k9 := Option.some.inj h9; subst e9; exact ⟨hm_3288, hk_3289⟩) | i9 + 1, h9 => absurd h9 (by simp [gT])), (fun _ h9 => absurd h9 List.not_mem_nil), (fun _ h9 => absurd h9 List.not_mem_nil), (fun _ h9 => absurd h9 List.not_mem_nil)⟩
  have hG_3320 : Gs h [(3, [q_1, q_5, q_6]), (4, [q_37, q_43, q_44, q_45, q_46, q_47, q_48, q_49, q_50]), (0, [q_118, q_124]), (1, [q_169, q_174]), (0, [q_206, q_212]), (2, [q_302, q_307, q_308, q_309, q_310, q_311, q_312, q_313, q_314]), (2, [q_395, q_401, q_402, q_403, q_404, q_405, q_406, q_407, q_408]), (1, [q_621, q_626]), (1, [q_740, q_745]), (1, [q_860, q_865]), (1, [q_980, q_985]), (1, [q_1100, q_1105]), (1, [q_1220, q_1225]), (1, [q_1340, q_1345]), (1, [q_1460, q_1465]), (1, [q_1580, q_1585]), (1, [q_1700, q_1705]), (1, [q_1820, q_1825]), (1, [q_1940, q_1945]), (1, [q_2060, q_2065]), (1, [q_2180, q_2185]), (1, [q_2300, q_2305]), (1, [q_2420, q_2425]), (2, [q_2540, q_2545, q_2546, q_2547, q_2548, q_2549, q_2550, q_2551, q_2552]), (2, [q_2707, q_2712, q_2713, q_2714, q_2715, q_2716, q_2717, q_2718, q_2719]), (2, [q_2875, q_2880, q_2881, q_2882, q_2883, q_2884, q_2885, q_2886, q_2887]), (5, [q_3043]), (5, [q_3152]), (5, [q_3262])] S_3268 := Gs.snoc hG_3315 (by decide) hGt_3319 (fun _ h9 => absurd h9 List.not_mem_nil)
  refine j_aast (j := 2) (ci := 5) C 19  (by decide) rfl dX9_init_219 hm_3293 hk_3294 (inr_of (n := 4) hn_3295 (vp_lit (by decide))) (by decide) hm_3288 hk_3289 rfl ?_
  have hf_3323 : Fm (fun _ _ => False) (fun f9 b9 => b9 = h) (fun _ => False) S (tR S_3268 q_529 2 (some q_3262)) := (hf_3313.tR _ _ (fun h9 => absurd h9 hz_531))
  obtain ⟨S_3321, eS_3322⟩ : ∃ S9 : Hp, S9 = (tR S_3268 q_529 2 (some q_3262)) := ⟨_, rfl⟩
  refine J.eq (S' := S_3321) eS_3322.symm rfl rfl ?_
  have hm_3324 : h ∈ hL S_3321 := by rw [eS_3322]; exact hm_3277
  have hk_3325 : Kd S_3321 h 9 := by rw [eS_3322]; exact hk_3278
  have hm_3326 : q_149 ∈ hL S_3321 := by rw [eS_3322]; exact hm_3279
  have hk_3327 : Kd S_3321 q_149 20 := by rw [eS_3322]; exact hk_3280
  have hn_3328 : Ln S_3321 q_149 16 := by rw [eS_3322]; exact hn_3281
  have hz_3329 : ∀ j, aI S_3321 q_149 j = 0 := by rw [eS_3322]; exact hz_3271
  have hm_3330 : q_244 ∈ hL S_3321 := by rw [eS_3322]; exact hm_3282
  have hk_3331 : Kd S_3321 q_244 13 := by rw [eS_3322]; exact hk_3283
  have hn_3332 : Ln S_3321 q_244 24000 := by rw [eS_3322]; exact hn_3284
  have hz_3333 : ∀ j, aI S_3321 q_244 j = 0 := by rw [eS_3322]; exact hz_3272
  have hm_3334 : q_271 ∈ hL S_3321 := by rw [eS_3322]; exact hm_3285
  have hk_3335 : Kd S_3321 q_271 14 := by rw [eS_3322]; exact hk_3286
  have hn_3336 : Ln S_3321 q_271 16 := by rw [eS_3322]; exact hn_3287
  have hz_3337 : ∀ j, aI S_3321 q_271 j = 0 := by rw [eS_3322]; exact hz_3273
  have hm_3338 : q_3262 ∈ hL S_3321 := by rw [eS_3322]; exact hm_3288
  have hk_3339 : Kd S_3321 q_3262 5 := by rw [eS_3322]; exact hk_3289
  have hm_3340 : q_490 ∈ hL S_3321 := by rw [eS_3322]; exact hm_3290
  have hk_3341 : Kd S_3321 q_490 18 := by rw [eS_3322]; exact hk_3291
  have hn_3342 : Ln S_3321 q_490 3 := by rw [eS_3322]; exact hn_3292
  have hz_3343 : ∀ j, aI S_3321 q_490 j = 0 := by rw [eS_3322]; exact hz_3274
  have hm_3344 : q_529 ∈ hL S_3321 := by rw [eS_3322]; exact hm_3293
  have hk_3345 : Kd S_3321 q_529 19 := by rw [eS_3322]; exact hk_3294
  have hn_3346 : Ln S_3321 q_529 4 := by rw [eS_3322]; exact hn_3295
  have hz_3347 : ∀ j, aI S_3321 q_529 j = 0 := by rw [eS_3322]; exact hz_3275
  have hm_3348 : q_572 ∈ hL S_3321 := by rw [eS_3322]; exact hm_3296
  have hk_3349 : Kd S_3321 q_572 14 := by rw [eS_3322]; exact hk_3297
  have hn_3350 : Ln S_3321 q_572 12 := by rw [eS_3322]; exact hn_3298
  have hz_3351 : ∀ j, aI S_3321 q_572 j = 0 := by rw [eS_3322]; exact hz_3276
  have hv_3352 : hR S_3321 900 h = (some s0) := by rw [eS_3322]; exact hv_3299
  have hv_3353 : hR S_3321 901 h = (some q_1) := by rw [eS_3322]; exact hv_3300
  have hv_3354 : hR S_3321 902 h = (some q_37) := by rw [eS_3322]; exact hv_3301
  have hv_3355 : hR S_3321 903 h = (some q_118) := by rw [eS_3322]; exact hv_3302
  have hv_3356 : hR S_3321 904 h = (some q_149) := by rw [eS_3322]; exact hv_3303
  have hv_3357 : hR S_3321 905 h = (some q_169) := by rw [eS_3322]; exact hv_3304
  have hv_3358 : hR S_3321 906 h = (some q_206) := by rw [eS_3322]; exact hv_3305
  have hv_3359 : hR S_3321 907 h = (some q_244) := by rw [eS_3322]; exact hv_3306
  have hv_3360 : hR S_3321 908 h = (some q_271) := by rw [eS_3322]; exact hv_3307
  have hv_3361 : hR S_3321 909 h = (some q_302) := by rw [eS_3322]; exact hv_3308
  have hv_3362 : hR S_3321 910 h = (some q_395) := by rw [eS_3322]; exact hv_3309
  have hv_3363 : hR S_3321 911 h = (some q_490) := by rw [eS_3322]; exact hv_3310
  have hv_3364 : hR S_3321 912 h = (some q_529) := by rw [eS_3322]; exact hv_3311
  have hv_3365 : hR S_3321 917 h = (some q_572) := by rw [eS_3322]; exact hv_3312
  have hf_3366 : Fm (fun _ _ => False) (fun f9 b9 => b9 = h) (fun _ => False) S S_3321 := by rw [eS_3322]; exact hf_3323
  have hN_3367 : NL S [q_1, q_5, q_6, q_37, q_43, q_44, q_45, q_46, q_47, q_48, q_49, q_50, q_118, q_124, q_149, q_169, q_174, q_206, q_212, q_244, q_271, q_302, q_307, q_308, q_309, q_310, q_311, q_312, q_313, q_314, q_395, q_401, q_402, q_403, q_404, q_405, q_406, q_407, q_408, q_490, q_529, q_572, q_621, q_626, q_740, q_745, q_860, q_865, q_980, q_985, q_1100, q_1105, q_1220, q_1225, q_1340, q_1345, q_1460, q_1465, q_1580, q_1585, q_1700, q_1705, q_1820, q_1825, q_1940, q_1945, q_2060, q_2065, q_2180, q_2185, q_2300, q_2305, q_2420, q_2425, q_2540, q_2545, q_2546, q_2547, q_2548, q_2549, q_2550, q_2551, q_2552, q_2707, q_2712, q_2713, q_2714, q_2715, q_2716, q_2717, q_2718, q_2719, q_2875, q_2880, q_2881, q_2882, q_2883, q_2884, q_2885, q_2886, q_2887, q_3043, q_3152, q_3262] S_3321 := by rw [eS_3322]; exact (NL.tR (S := S_3268) hN_3314)
  have hG_3368 : Gs h [(3, [q_1, q_5, q_6]), (4, [q_37, q_43, q_44, q_45, q_46, q_47, q_48, q_49, q_50]), (0, [q_118, q_124]), (1, [q_169, q_174]), (0, [q_206, q_212]), (2, [q_302, q_307, q_308, q_309, q_310, q_311, q_312, q_313, q_314]), (2, [q_395, q_401, q_402, q_403, q_404, q_405, q_406, q_407, q_408]), (1, [q_621, q_626]), (1, [q_740, q_745]), (1, [q_860, q_865]), (1, [q_980, q_985]), (1, [q_1100, q_1105]), (1, [q_1220, q_1225]), (1, [q_1340, q_1345]), (1, [q_1460, q_1465]), (1, [q_1580, q_1585]), (1, [q_1700, q_1705]), (1, [q_1820, q_1825]), (1, [q_1940, q_1945]), (1, [q_2060, q_2065]), (1, [q_2180, q_2185]), (1, [q_2300, q_2305]), (1, [q_2420, q_2425]), (2, [q_2540, q_2545, q_2546, q_2547, q_2548, q_2549, q_2550, q_2551, q_2552]), (2, [q_2707, q_2712, q_2713, q_2714, q_2715, q_2716, q_2717, q_2718, q_2719]), (2, [q_2875, q_2880, q_2881, q_2882, q_2883, q_2884, q_2885, q_2886, q_2887]), (5, [q_3043]), (5, [q_3152]), (5, [q_3262])] S_3321 := by rw [eS_3322]; exact (Gs.tR (S := S_3268) hG_3320)
  have hE_3369 : ELs S_3321 q_149 [q_621, q_740, q_860, q_980, q_1100, q_1220, q_1340, q_1460, q_1580, q_1700, q_1820, q_1940, q_2060, q_2180, q_2300, q_2420] := by rw [eS_3322]; exact (ELs.tRx (S := S_3268) (fun e9 => absurd ((hk_3280).symm.trans ((congrArg (hK _) e9).trans hk_3294)) (by decide)) hE_3316)
  have hE_3370 : ELs S_3321 q_490 [q_2540, q_2707, q_2875] := by rw [eS_3322]; exact (ELs.tRx (S := S_3268) (fun e9 => absurd ((hk_3291).symm.trans ((congrArg (hK _) e9).trans hk_3294)) (by decide)) hE_3317)
  have hE_3371 : ELs S_3321 q_529 [q_3043, q_3152, q_3262] := by rw [eS_3322]; exact (show ELs (tR S_3268 q_529 2 (some q_3262)) q_529 [q_3043, q_3152, q_3262] from ELs.snoc hE_3318 rfl)
  refine j_iinc (q := 0) (v := 3) (lv' := [(2, .int 3), (0, .ref h), (1, .ref s0)]) C dX9_init_220 rfl (by decide) (by rw [hn9]; decide) rfl ?_
  refine j_goto (tgt := 198) C dX9_init_223 (by decide) ?_
  refine j_iload_n C dX9_init_198 rfl 0 rfl ?_
  refine j_aload_n C dX9_init_199 rfl 1 rfl ?_
  refine j_getr (f := 912) (v := q_529) C flX9_70 dX9_init_200 hm_3324 hk_3325 (by decide) rfl hv_3364 ?_
  refine j_alen (v := 4) C dX9_init_203 hm_3344 hk_3345 (by decide) (by decide) (len_of (n := 4) hn_3346 (by decide)) ?_
  show J _ _ _ _ _ 204 _
  refine j_ic_ge (tgt := 226) C dX9_init_204 (by decide) (fun c9 => absurd c9 (by decide)) (fun c9 => ?_)
  refine j_aload_n C dX9_init_207 rfl 1 rfl ?_
  refine j_getr (f := 912) (v := q_529) C flX9_70 dX9_init_208 hm_3324 hk_3325 (by decide) rfl hv_3364 ?_
  refine j_iload_n C dX9_init_211 rfl 0 rfl ?_
  refine j_new (N := 13) C (ci := 5) rfl rfl klX9_68 knX5 kiX5 (M.cells (by decide)) (M.slots (by decide)) dX9_init_212 (fun q_3372 hq_3373 => ?_)
  have hz_3374 : q_3372 ∉ hL S := fun h9 => hq_3373 (hf_3366.mem h9)
  have gn_3375 : ∀ g9 ∈ ([(3, [q_1, q_5, q_6]), (4, [q_37, q_43, q_44, q_45, q_46, q_47, q_48, q_49, q_50]), (0, [q_118, q_124]), (1, [q_169, q_174]), (0, [q_206, q_212]), (2, [q_302, q_307, q_308, q_309, q_310, q_311, q_312, q_313, q_314]), (2, [q_395, q_401, q_402, q_403, q_404, q_405, q_406, q_407, q_408]), (1, [q_621, q_626]), (1, [q_740, q_745]), (1, [q_860, q_865]), (1, [q_980, q_985]), (1, [q_1100, q_1105]), (1, [q_1220, q_1225]), (1, [q_1340, q_1345]), (1, [q_1460, q_1465]), (1, [q_1580, q_1585]), (1, [q_1700, q_1705]), (1, [q_1820, q_1825]), (1, [q_1940, q_1945]), (1, [q_2060, q_2065]), (1, [q_2180, q_2185]), (1, [q_2300, q_2305]), (1, [q_2420, q_2425]), (2, [q_2540, q_2545, q_2546, q_2547, q_2548, q_2549, q_2550, q_2551, q_2552]), (2, [q_2707, q_2712, q_2713, q_2714, q_2715, q_2716, q_2717, q_2718, q_2719]), (2, [q_2875, q_2880, q_2881, q_2882, q_2883, q_2884, q_2885, q_2886, q_2887]), (5, [q_3043]), (5, [q_3152]), (5, [q_3262])] : List (Nat × List Nat)), ∀ p9 ∈ (gT g9.1).2.2, g9.2.getD p9.2.1 0 ≠ q_3372 := Gs.ne hG_3368 hq_3373
  refine j_dup C dX9_init_215 rfl ?_
  have hf_3376 : Fm (fun _ _ => False) (fun f9 b9 => b9 = h) (fun _ => False) S (nO S_3321 q_3372 5) := (hf_3366.nO _ hq_3373)
  refine j_callI C [] [.ref q_3372, .int 3, .ref q_529] mlX9_81 mcX5_init (c_X5_init (nO S_3321 q_3372 5) q_3372 mem_new (kd_nO' (k := 5))) (M.rm (by decide) (by decide) (Nat.le_of_ble_eq_true rfl) (Nat.le_of_ble_eq_true rfl)) rfl rfl (Nat.le_of_ble_eq_true rfl) dX9_init_216 (fun r_3377 S_3378 hp_3379 => ?_)
  obtain ⟨rfl, hf_3380⟩ := hp_3379
  refine J.eq (st' := [.ref q_3372, .int 3, .ref q_529]) rfl rfl rfl ?_
  have hz_3381 : ∀ j, aI S_3378 q_149 j = 0 := fun j9 => (hf_3380.ai (mem_old hm_3326) (fun h9 => h9) j9).trans (hz_3329 j9)
  have hz_3382 : ∀ j, aI S_3378 q_244 j = 0 := fun j9 => (hf_3380.ai (mem_old hm_3330) (fun h9 => h9) j9).trans (hz_3333 j9)
  have hz_3383 : ∀ j, aI S_3378 q_271 j = 0 := fun j9 => (hf_3380.ai (mem_old hm_3334) (fun h9 => h9) j9).trans (hz_3337 j9)
  have hz_3384 : ∀ j, aI S_3378 q_490 j = 0 := fun j9 => (hf_3380.ai (mem_old hm_3340) (fun h9 => h9) j9).trans (hz_3343 j9)
  have hz_3385 : ∀ j, aI S_3378 q_529 j = 0 := fun j9 => (hf_3380.ai (mem_old hm_3344) (fun h9 => h9) j9).trans (hz_3347 j9)
  have hz_3386 : ∀ j, aI S_3378 q_572 j = 0 := fun j9 => (hf_3380.ai (mem_old hm_3348) (fun h9 => h9) j9).trans (hz_3351 j9)
  have hm_3387 : h ∈ hL S_3378 := hf_3380.mem (mem_old hm_3324)
  have hk_3388 : Kd S_3378 h 9 := hf_3380.kd (mem_old hm_3324) (kd_nO (k := 5) hq_3373 hm_3324 hk_3325)
  have hm_3389 : q_149 ∈ hL S_3378 := hf_3380.mem (mem_old hm_3326)
  have hk_3390 : Kd S_3378 q_149 20 := hf_3380.kd (mem_old hm_3326) (kd_nO (k := 5) hq_3373 hm_3326 hk_3327)
  have hn_3391 : Ln S_3378 q_149 16 := hf_3380.ln (mem_old hm_3326) hn_3328
  have hm_3392 : q_244 ∈ hL S_3378 := hf_3380.mem (mem_old hm_3330)
  have hk_3393 : Kd S_3378 q_244 13 := hf_3380.kd (mem_old hm_3330) (kd_nO (k := 5) hq_3373 hm_3330 hk_3331)
  have hn_3394 : Ln S_3378 q_244 24000 := hf_3380.ln (mem_old hm_3330) hn_3332
  have hm_3395 : q_271 ∈ hL S_3378 := hf_3380.mem (mem_old hm_3334)
  have hk_3396 : Kd S_3378 q_271 14 := hf_3380.kd (mem_old hm_3334) (kd_nO (k := 5) hq_3373 hm_3334 hk_3335)
  have hn_3397 : Ln S_3378 q_271 16 := hf_3380.ln (mem_old hm_3334) hn_3336
  have hm_3398 : q_3372 ∈ hL S_3378 := hf_3380.mem mem_new
  have hk_3399 : Kd S_3378 q_3372 5 := hf_3380.kd mem_new (kd_nO' (k := 5))
  have hm_3400 : q_490 ∈ hL S_3378 := hf_3380.mem (mem_old hm_3340)
  have hk_3401 : Kd S_3378 q_490 18 := hf_3380.kd (mem_old hm_3340) (kd_nO (k := 5) hq_3373 hm_3340 hk_3341)
  have hn_3402 : Ln S_3378 q_490 3 := hf_3380.ln (mem_old hm_3340) hn_3342
  have hm_3403 : q_529 ∈ hL S_3378 := hf_3380.mem (mem_old hm_3344)
  have hk_3404 : Kd S_3378 q_529 19 := hf_3380.kd (mem_old hm_3344) (kd_nO (k := 5) hq_3373 hm_3344 hk_3345)
  have hn_3405 : Ln S_3378 q_529 4 := hf_3380.ln (mem_old hm_3344) hn_3346
  have hm_3406 : q_572 ∈ hL S_3378 := hf_3380.mem (mem_old hm_3348)
  have hk_3407 : Kd S_3378 q_572 14 := hf_3380.kd (mem_old hm_3348) (kd_nO (k := 5) hq_3373 hm_3348 hk_3349)
  have hn_3408 : Ln S_3378 q_572 12 := hf_3380.ln (mem_old hm_3348) hn_3350
  have hv_3409 : hR S_3378 900 h = (some s0) := hf_3380.fr (mem_old hm_3324) (fun q9 => (fun e9 => absurd (((kd_nO (k := 5) hq_3373 hm_3324 hk_3325)).symm.trans ((congrArg (hK _) e9).trans (kd_nO' (k := 5)))) (by decide)) q9) (rd_nOR (k := 5) hq_3373 hm_3324 hv_3352)
  have hv_3410 : hR S_3378 901 h = (some q_1) := hf_3380.fr (mem_old hm_3324) (fun q9 => (fun e9 => absurd (((kd_nO (k := 5) hq_3373 hm_3324 hk_3325)).symm.trans ((congrArg (hK _) e9).trans (kd_nO' (k := 5)))) (by decide)) q9) (rd_nOR (k := 5) hq_3373 hm_3324 hv_3353)
  have hv_3411 : hR S_3378 902 h = (some q_37) := hf_3380.fr (mem_old hm_3324) (fun q9 => (fun e9 => absurd (((kd_nO (k := 5) hq_3373 hm_3324 hk_3325)).symm.trans ((congrArg (hK _) e9).trans (kd_nO' (k := 5)))) (by decide)) q9) (rd_nOR (k := 5) hq_3373 hm_3324 hv_3354)
  have hv_3412 : hR S_3378 903 h = (some q_118) := hf_3380.fr (mem_old hm_3324) (fun q9 => (fun e9 => absurd (((kd_nO (k := 5) hq_3373 hm_3324 hk_3325)).symm.trans ((congrArg (hK _) e9).trans (kd_nO' (k := 5)))) (by decide)) q9) (rd_nOR (k := 5) hq_3373 hm_3324 hv_3355)
  have hv_3413 : hR S_3378 904 h = (some q_149) := hf_3380.fr (mem_old hm_3324) (fun q9 => (fun e9 => absurd (((kd_nO (k := 5) hq_3373 hm_3324 hk_3325)).symm.trans ((congrArg (hK _) e9).trans (kd_nO' (k := 5)))) (by decide)) q9) (rd_nOR (k := 5) hq_3373 hm_3324 hv_3356)
  have hv_3414 : hR S_3378 905 h = (some q_169) := hf_3380.fr (mem_old hm_3324) (fun q9 => (fun e9 => absurd (((kd_nO (k := 5) hq_3373 hm_3324 hk_3325)).symm.trans ((congrArg (hK _) e9).trans (kd_nO' (k := 5)))) (by decide)) q9) (rd_nOR (k := 5) hq_3373 hm_3324 hv_3357)
  have hv_3415 : hR S_3378 906 h = (some q_206) := hf_3380.fr (mem_old hm_3324) (fun q9 => (fun e9 => absurd (((kd_nO (k := 5) hq_3373 hm_3324 hk_3325)).symm.trans ((congrArg (hK _) e9).trans (kd_nO' (k := 5)))) (by decide)) q9) (rd_nOR (k := 5) hq_3373 hm_3324 hv_3358)
  have hv_3416 : hR S_3378 907 h = (some q_244) := hf_3380.fr (mem_old hm_3324) (fun q9 => (fun e9 => absurd (((kd_nO (k := 5) hq_3373 hm_3324 hk_3325)).symm.trans ((congrArg (hK _) e9).trans (kd_nO' (k := 5)))) (by decide)) q9) (rd_nOR (k := 5) hq_3373 hm_3324 hv_3359)
  have hv_3417 : hR S_3378 908 h = (some q_271) := hf_3380.fr (mem_old hm_3324) (fun q9 => (fun e9 => absurd (((kd_nO (k := 5) hq_3373 hm_3324 hk_3325)).symm.trans ((congrArg (hK _) e9).trans (kd_nO' (k := 5)))) (by decide)) q9) (rd_nOR (k := 5) hq_3373 hm_3324 hv_3360)
  have hv_3418 : hR S_3378 909 h = (some q_302) := hf_3380.fr (mem_old hm_3324) (fun q9 => (fun e9 => absurd (((kd_nO (k := 5) hq_3373 hm_3324 hk_3325)).symm.trans ((congrArg (hK _) e9).trans (kd_nO' (k := 5)))) (by decide)) q9) (rd_nOR (k := 5) hq_3373 hm_3324 hv_3361)
  have hv_3419 : hR S_3378 910 h = (some q_395) := hf_3380.fr (mem_old hm_3324) (fun q9 => (fun e9 => absurd (((kd_nO (k := 5) hq_3373 hm_3324 hk_3325)).symm.trans ((congrArg (hK _) e9).trans (kd_nO' (k := 5)))) (by decide)) q9) (rd_nOR (k := 5) hq_3373 hm_3324 hv_3362)
  have hv_3420 : hR S_3378 911 h = (some q_490) := hf_3380.fr (mem_old hm_3324) (fun q9 => (fun e9 => absurd (((kd_nO (k := 5) hq_3373 hm_3324 hk_3325)).symm.trans ((congrArg (hK _) e9).trans (kd_nO' (k := 5)))) (by decide)) q9) (rd_nOR (k := 5) hq_3373 hm_3324 hv_3363)
  have hv_3421 : hR S_3378 912 h = (some q_529) := hf_3380.fr (mem_old hm_3324) (fun q9 => (fun e9 => absurd (((kd_nO (k := 5) hq_3373 hm_3324 hk_3325)).symm.trans ((congrArg (hK _) e9).trans (kd_nO' (k := 5)))) (by decide)) q9) (rd_nOR (k := 5) hq_3373 hm_3324 hv_3364)
  have hv_3422 : hR S_3378 917 h = (some q_572) := hf_3380.fr (mem_old hm_3324) (fun q9 => (fun e9 => absurd (((kd_nO (k := 5) hq_3373 hm_3324 hk_3325)).symm.trans ((congrArg (hK _) e9).trans (kd_nO' (k := 5)))) (by decide)) q9) (rd_nOR (k := 5) hq_3373 hm_3324 hv_3365)
  have hf_3423 : Fm (fun _ _ => False) (fun f9 b9 => b9 = h) (fun _ => False) S S_3378 := hf_3376.then hf_3380 (fun a9 ha9 => ⟨(fun f9 h9 => h9.elim), (fun f9 h9 => (fun h8 => absurd (h8 ▸ ha9) hz_3374) h9), (fun h9 => h9.elim)⟩)
  have hN_3424 : NL S [q_1, q_5, q_6, q_37, q_43, q_44, q_45, q_46, q_47, q_48, q_49, q_50, q_118, q_124, q_149, q_169, q_174, q_206, q_212, q_244, q_271, q_302, q_307, q_308, q_309, q_310, q_311, q_312, q_313, q_314, q_395, q_401, q_402, q_403, q_404, q_405, q_406, q_407, q_408, q_490, q_529, q_572, q_621, q_626, q_740, q_745, q_860, q_865, q_980, q_985, q_1100, q_1105, q_1220, q_1225, q_1340, q_1345, q_1460, q_1465, q_1580, q_1585, q_1700, q_1705, q_1820, q_1825, q_1940, q_1945, q_2060, q_2065, q_2180, q_2185, q_2300, q_2305, q_2420, q_2425, q_2540, q_2545, q_2546, q_2547, q_2548, q_2549, q_2550, q_2551, q_2552, q_2707, q_2712, q_2713, q_2714, q_2715, q_2716, q_2717, q_2718, q_2719, q_2875, q_2880, q_2881, q_2882, q_2883, q_2884, q_2885, q_2886, q_2887, q_3043, q_3152, q_3262, q_3372] S_3378 := NL.mono (show NL S [q_1, q_5, q_6, q_37, q_43, q_44, q_45, q_46, q_47, q_48, q_49, q_50, q_118, q_124, q_149, q_169, q_174, q_206, q_212, q_244, q_271, q_302, q_307, q_308, q_309, q_310, q_311, q_312, q_313, q_314, q_395, q_401, q_402, q_403, q_404, q_405, q_406, q_407, q_408, q_490, q_529, q_572, q_621, q_626, q_740, q_745, q_860, q_865, q_980, q_985, q_1100, q_1105, q_1220, q_1225, q_1340, q_1345, q_1460, q_1465, q_1580, q_1585, q_1700, q_1705, q_1820, q_1825, q_1940, q_1945, q_2060, q_2065, q_2180, q_2185, q_2300, q_2305, q_2420, q_2425, q_2540, q_2545, q_2546, q_2547, q_2548, q_2549, q_2550, q_2551, q_2552, q_2707, q_2712, q_2713, q_2714, q_2715, q_2716, q_2717, q_2718, q_2719, q_2875, q_2880, q_2881, q_2882, q_2883, q_2884, q_2885, q_2886, q_2887, q_3043, q_3152, q_3262, q_3372] (nO S_3321 q_3372 5) from NL.nO hN_3367 hq_3373 hz_3374) (fun a9 h9 => hf_3380.mem h9)
  have hG_3425 : Gs h [(3, [q_1, q_5, q_6]), (4, [q_37, q_43, q_44, q_45, q_46, q_47, q_48, q_49, q_50]), (0, [q_118, q_124]), (1, [q_169, q_174]), (0, [q_206, q_212]), (2, [q_302, q_307, q_308, q_309, q_310, q_311, q_312, q_313, q_314]), (2, [q_395, q_401, q_402, q_403, q_404, q_405, q_406, q_407, q_408]), (1, [q_621, q_626]), (1, [q_740, q_745]), (1, [q_860, q_865]), (1, [q_980, q_985]), (1, [q_1100, q_1105]), (1, [q_1220, q_1225]), (1, [q_1340, q_1345]), (1, [q_1460, q_1465]), (1, [q_1580, q_1585]), (1, [q_1700, q_1705]), (1, [q_1820, q_1825]), (1, [q_1940, q_1945]), (1, [q_2060, q_2065]), (1, [q_2180, q_2185]), (1, [q_2300, q_2305]), (1, [q_2420, q_2425]), (2, [q_2540, q_2545, q_2546, q_2547, q_2548, q_2549, q_2550, q_2551, q_2552]), (2, [q_2707, q_2712, q_2713, q_2714, q_2715, q_2716, q_2717, q_2718, q_2719]), (2, [q_2875, q_2880, q_2881, q_2882, q_2883, q_2884, q_2885, q_2886, q_2887]), (5, [q_3043]), (5, [q_3152]), (5, [q_3262])] S_3378 := Gs.fm (show Gs h [(3, [q_1, q_5, q_6]), (4, [q_37, q_43, q_44, q_45, q_46, q_47, q_48, q_49, q_50]), (0, [q_118, q_124]), (1, [q_169, q_174]), (0, [q_206, q_212]), (2, [q_302, q_307, q_308, q_309, q_310, q_311, q_312, q_313, q_314]), (2, [q_395, q_401, q_402, q_403, q_404, q_405, q_406, q_407, q_408]), (1, [q_621, q_626]), (1, [q_740, q_745]), (1, [q_860, q_865]), (1, [q_980, q_985]), (1, [q_1100, q_1105]), (1, [q_1220, q_1225]), (1, [q_1340, q_1345]), (1, [q_1460, q_1465]), (1, [q_1580, q_1585]), (1, [q_1700, q_1705]), (1, [q_1820, q_1825]), (1, [q_1940, q_1945]), (1, [q_2060, q_2065]), (1, [q_2180, q_2185]), (1, [q_2300, q_2305]), (1, [q_2420, q_2425]), (2, [q_2540, q_2545, q_2546, q_2547, q_2548, q_2549, q_2550, q_2551, q_2552]), (2, [q_2707, q_2712, q_2713, q_2714, q_2715, q_2716, q_2717, q_2718, q_2719]), (2, [q_2875, q_2880, q_2881, q_2882, q_2883, q_2884, q_2885, q_2886, q_2887]), (5, [q_3043]), (5, [q_3152]), (5, [q_3262])] (nO S_3321 q_3372 5) from Gs.nO hG_3368 hq_3373) hf_3380 (fun g9 hg9 p9 hp9 => gn_3375 g9 hg9 p9 hp9)
  have hE_3426 : ELs S_3378 q_149 [q_621, q_740, q_860, q_980, q_1100, q_1220, q_1340, q_1460, q_1580, q_1700, q_1820, q_1940, q_2060, q_2180, q_2300, q_2420] := ELs.fm (ELs.nO (S := S_3321) hE_3369) hf_3380 (mem_old hm_3326) (fun h9 => h9)
  have hE_3427 : ELs S_3378 q_490 [q_2540, q_2707, q_2875] := ELs.fm (ELs.nO (S := S_3321) hE_3370) hf_3380 (mem_old hm_3340) (fun h9 => h9)
  have hE_3428 : ELs S_3378 q_529 [q_3043, q_3152, q_3262] := ELs.fm (ELs.nO (S := S_3321) hE_3371) hf_3380 (mem_old hm_3344) (fun h9 => h9)
  have hGt_3429 : Gt 5 [q_3372] S_3378 := ⟨fun i9 k9 h9 => (match i9, h9 with | 0, h9 => (by have e9 : (5 : Nat) = k9 := Option.some.inj h9; subst e9; exact ⟨hm_3398, hk_3399⟩) | i9 + 1, h9 => absurd h9 (by simp [gT])), (fun _ h9 => absurd h9 List.not_mem_nil), (fun _ h9 => absurd h9 List.not_mem_nil), (fun _ h9 => absurd h9 List.not_mem_nil)⟩
  have hG_3430 : Gs h [(3, [q_1, q_5, q_6]), (4, [q_37, q_43, q_44, q_45, q_46, q_47, q_48, q_49, q_50]), (0, [q_118, q_124]), (1, [q_169, q_174]), (0, [q_206, q_212]), (2, [q_302, q_307, q_308, q_309, q_310, q_311, q_312, q_313, q_314]), (2, [q_395, q_401, q_402, q_403, q_404, q_405, q_406, q_407, q_408]), (1, [q_621, q_626]), (1, [q_740, q_745]), (1, [q_860, q_865]), (1, [q_980, q_985]), (1, [q_1100, q_1105]), (1, [q_1220, q_1225]), (1, [q_1340, q_1345]), (1, [q_1460, q_1465]), (1, [q_1580, q_1585]), (1, [q_1700, q_1705]), (1, [q_1820, q_1825]), (1, [q_1940, q_1945]), (1, [q_2060, q_2065]), (1, [q_2180, q_2185]), (1, [q_2300, q_2305]), (1, [q_2420, q_2425]), (2, [q_2540, q_2545, q_2546, q_2547, q_2548, q_2549, q_2550, q_2551, q_2552]), (2, [q_2707, q_2712, q_2713, q_2714, q_2715, q_2716, q_2717, q_2718, q_2719]), (2, [q_2875, q_2880, q_2881, q_2882, q_2883, q_2884, q_2885, q_2886, q_2887]), (5, [q_3043]), (5, [q_3152]), (5, [q_3262]), (5, [q_3372])] S_3378 := Gs.snoc hG_3425 (by decide) hGt_3429 (fun _ h9 => absurd h9 List.not_mem_nil)
  refine j_aast (j := 3) (ci := 5) C 19  (by decide) rfl dX9_init_219 hm_3403 hk_3404 (inr_of (n := 4) hn_3405 (vp_lit (by decide))) (by decide) hm_3398 hk_3399 rfl ?_
  have hf_3433 : Fm (fun _ _ => False) (fun f9 b9 => b9 = h) (fun _ => False) S (tR S_3378 q_529 3 (some q_3372)) := (hf_3423.tR _ _ (fun h9 => absurd h9 hz_531))
  obtain ⟨S_3431, eS_3432⟩ : ∃ S9 : Hp, S9 = (tR S_3378 q_529 3 (some q_3372)) := ⟨_, rfl⟩
  refine J.eq (S' := S_3431) eS_3432.symm rfl rfl ?_
  have hm_3434 : h ∈ hL S_3431 := by rw [eS_3432]; exact hm_3387
  have hk_3435 : Kd S_3431 h 9 := by rw [eS_3432]; exact hk_3388
  have hm_3436 : q_149 ∈ hL S_3431 := by rw [eS_3432]; exact hm_3389
  have hk_3437 : Kd S_3431 q_149 20 := by rw [eS_3432]; exact hk_3390
  have hn_3438 : Ln S_3431 q_149 16 := by rw [eS_3432]; exact hn_3391
  have hz_3439 : ∀ j, aI S_3431 q_149 j = 0 := by rw [eS_3432]; exact hz_3381
  have hm_3440 : q_244 ∈ hL S_3431 := by rw [eS_3432]; exact hm_3392
  have hk_3441 : Kd S_3431 q_244 13 := by rw [eS_3432]; exact hk_3393
  have hn_3442 : Ln S_3431 q_244 24000 := by rw [eS_3432]; exact hn_3394
  have hz_3443 : ∀ j, aI S_3431 q_244 j = 0 := by rw [eS_3432]; exact hz_3382
  have hm_3444 : q_271 ∈ hL S_3431 := by rw [eS_3432]; exact hm_3395
  have hk_3445 : Kd S_3431 q_271 14 := by rw [eS_3432]; exact hk_3396
  have hn_3446 : Ln S_3431 q_271 16 := by rw [eS_3432]; exact hn_3397
  have hz_3447 : ∀ j, aI S_3431 q_271 j = 0 := by rw [eS_3432]; exact hz_3383
  have hm_3448 : q_3372 ∈ hL S_3431 := by rw [eS_3432]; exact hm_3398
  have hk_3449 : Kd S_3431 q_3372 5 := by rw [eS_3432]; exact hk_3399
  have hm_3450 : q_490 ∈ hL S_3431 := by rw [eS_3432]; exact hm_3400
  have hk_3451 : Kd S_3431 q_490 18 := by rw [eS_3432]; exact hk_3401
  have hn_3452 : Ln S_3431 q_490 3 := by rw [eS_3432]; exact hn_3402
  have hz_3453 : ∀ j, aI S_3431 q_490 j = 0 := by rw [eS_3432]; exact hz_3384
  have hm_3454 : q_529 ∈ hL S_3431 := by rw [eS_3432]; exact hm_3403
  have hk_3455 : Kd S_3431 q_529 19 := by rw [eS_3432]; exact hk_3404
  have hn_3456 : Ln S_3431 q_529 4 := by rw [eS_3432]; exact hn_3405
  have hz_3457 : ∀ j, aI S_3431 q_529 j = 0 := by rw [eS_3432]; exact hz_3385
  have hm_3458 : q_572 ∈ hL S_3431 := by rw [eS_3432]; exact hm_3406
  have hk_3459 : Kd S_3431 q_572 14 := by rw [eS_3432]; exact hk_3407
  have hn_3460 : Ln S_3431 q_572 12 := by rw [eS_3432]; exact hn_3408
  have hz_3461 : ∀ j, aI S_3431 q_572 j = 0 := by rw [eS_3432]; exact hz_3386
  have hv_3462 : hR S_3431 900 h = (some s0) := by rw [eS_3432]; exact hv_3409
  have hv_3463 : hR S_3431 901 h = (some q_1) := by rw [eS_3432]; exact hv_3410
  have hv_3464 : hR S_3431 902 h = (some q_37) := by rw [eS_3432]; exact hv_3411
  have hv_3465 : hR S_3431 903 h = (some q_118) := by rw [eS_3432]; exact hv_3412
  have hv_3466 : hR S_3431 904 h = (some q_149) := by rw [eS_3432]; exact hv_3413
  have hv_3467 : hR S_3431 905 h = (some q_169) := by rw [eS_3432]; exact hv_3414
  have hv_3468 : hR S_3431 906 h = (some q_206) := by rw [eS_3432]; exact hv_3415
  have hv_3469 : hR S_3431 907 h = (some q_244) := by rw [eS_3432]; exact hv_3416
  have hv_3470 : hR S_3431 908 h = (some q_271) := by rw [eS_3432]; exact hv_3417
  have hv_3471 : hR S_3431 909 h = (some q_302) := by rw [eS_3432]; exact hv_3418
  have hv_3472 : hR S_3431 910 h = (some q_395) := by rw [eS_3432]; exact hv_3419
  have hv_3473 : hR S_3431 911 h = (some q_490) := by rw [eS_3432]; exact hv_3420
  have hv_3474 : hR S_3431 912 h = (some q_529) := by rw [eS_3432]; exact hv_3421
  have hv_3475 : hR S_3431 917 h = (some q_572) := by rw [eS_3432]; exact hv_3422
  have hf_3476 : Fm (fun _ _ => False) (fun f9 b9 => b9 = h) (fun _ => False) S S_3431 := by rw [eS_3432]; exact hf_3433
  have hN_3477 : NL S [q_1, q_5, q_6, q_37, q_43, q_44, q_45, q_46, q_47, q_48, q_49, q_50, q_118, q_124, q_149, q_169, q_174, q_206, q_212, q_244, q_271, q_302, q_307, q_308, q_309, q_310, q_311, q_312, q_313, q_314, q_395, q_401, q_402, q_403, q_404, q_405, q_406, q_407, q_408, q_490, q_529, q_572, q_621, q_626, q_740, q_745, q_860, q_865, q_980, q_985, q_1100, q_1105, q_1220, q_1225, q_1340, q_1345, q_1460, q_1465, q_1580, q_1585, q_1700, q_1705, q_1820, q_1825, q_1940, q_1945, q_2060, q_2065, q_2180, q_2185, q_2300, q_2305, q_2420, q_2425, q_2540, q_2545, q_2546, q_2547, q_2548, q_2549, q_2550, q_2551, q_2552, q_2707, q_2712, q_2713, q_2714, q_2715, q_2716, q_2717, q_2718, q_2719, q_2875, q_2880, q_2881, q_2882, q_2883, q_2884, q_2885, q_2886, q_2887, q_3043, q_3152, q_3262, q_3372] S_3431 := by rw [eS_3432]; exact (NL.tR (S := S_3378) hN_3424)
  have hG_3478 : Gs h [(3, [q_1, q_5, q_6]), (4, [q_37, q_43, q_44, q_45, q_46, q_47, q_48, q_49, q_50]), (0, [q_118, q_124]), (1, [q_169, q_174]), (0, [q_206, q_212]), (2, [q_302, q_307, q_308, q_309, q_310, q_311, q_312, q_313, q_314]), (2, [q_395, q_401, q_402, q_403, q_404, q_405, q_406, q_407, q_408]), (1, [q_621, q_626]), (1, [q_740, q_745]), (1, [q_860, q_865]), (1, [q_980, q_985]), (1, [q_1100, q_1105]), (1, [q_1220, q_1225]), (1, [q_1340, q_1345]), (1, [q_1460, q_1465]), (1, [q_1580, q_1585]), (1, [q_1700, q_1705]), (1, [q_1820, q_1825]), (1, [q_1940, q_1945]), (1, [q_2060, q_2065]), (1, [q_2180, q_2185]), (1, [q_2300, q_2305]), (1, [q_2420, q_2425]), (2, [q_2540, q_2545, q_2546, q_2547, q_2548, q_2549, q_2550, q_2551, q_2552]), (2, [q_2707, q_2712, q_2713, q_2714, q_2715, q_2716, q_2717, q_2718, q_2719]), (2, [q_2875, q_2880, q_2881, q_2882, q_2883, q_2884, q_2885, q_2886, q_2887]), (5, [q_3043]), (5, [q_3152]), (5, [q_3262]), (5, [q_3372])] S_3431 := by rw [eS_3432]; exact (Gs.tR (S := S_3378) hG_3430)
  have hE_3479 : ELs S_3431 q_149 [q_621, q_740, q_860, q_980, q_1100, q_1220, q_1340, q_1460, q_1580, q_1700, q_1820, q_1940, q_2060, q_2180, q_2300, q_2420] := by rw [eS_3432]; exact (ELs.tRx (S := S_3378) (fun e9 => absurd ((hk_3390).symm.trans ((congrArg (hK _) e9).trans hk_3404)) (by decide)) hE_3426)
  have hE_3480 : ELs S_3431 q_490 [q_2540, q_2707, q_2875] := by rw [eS_3432]; exact (ELs.tRx (S := S_3378) (fun e9 => absurd ((hk_3401).symm.trans ((congrArg (hK _) e9).trans hk_3404)) (by decide)) hE_3427)
  have hE_3481 : ELs S_3431 q_529 [q_3043, q_3152, q_3262, q_3372] := by rw [eS_3432]; exact (show ELs (tR S_3378 q_529 3 (some q_3372)) q_529 [q_3043, q_3152, q_3262, q_3372] from ELs.snoc hE_3428 rfl)
  show J _ _ _ _ _ 220 _
  refine j_iinc (q := 0) (v := 4) (lv' := [(2, .int 4), (0, .ref h), (1, .ref s0)]) C dX9_init_220 rfl (by decide) (by rw [hn9]; decide) rfl ?_
  refine j_goto (tgt := 198) C dX9_init_223 (by decide) ?_
  refine j_iload_n C dX9_init_198 rfl 0 rfl ?_
  refine j_aload_n C dX9_init_199 rfl 1 rfl ?_
  refine j_getr (f := 912) (v := q_529) C flX9_70 dX9_init_200 hm_3434 hk_3435 (by decide) rfl hv_3474 ?_
  refine j_alen (v := 4) C dX9_init_203 hm_3454 hk_3455 (by decide) (by decide) (len_of (n := 4) hn_3456 (by decide)) ?_
  refine j_ic_ge (tgt := 226) C dX9_init_204 (by decide) (fun c9 => ?_) (fun c9 => absurd (by decide) c9)
  refine j_aload_n C dX9_init_226 rfl 1 rfl ?_
  show J _ _ _ _ _ 227 _
  refine j_new (N := 13) C (ci := 5) rfl rfl klX9_68 knX5 kiX5 (M.cells (by decide)) (M.slots (by decide)) dX9_init_227 (fun q_3482 hq_3483 => ?_)
  have hz_3484 : q_3482 ∉ hL S := fun h9 => hq_3483 (hf_3476.mem h9)
  have gn_3485 : ∀ g9 ∈ ([(3, [q_1, q_5, q_6]), (4, [q_37, q_43, q_44, q_45, q_46, q_47, q_48, q_49, q_50]), (0, [q_118, q_124]), (1, [q_169, q_174]), (0, [q_206, q_212]), (2, [q_302, q_307, q_308, q_309, q_310, q_311, q_312, q_313, q_314]), (2, [q_395, q_401, q_402, q_403, q_404, q_405, q_406, q_407, q_408]), (1, [q_621, q_626]), (1, [q_740, q_745]), (1, [q_860, q_865]), (1, [q_980, q_985]), (1, [q_1100, q_1105]), (1, [q_1220, q_1225]), (1, [q_1340, q_1345]), (1, [q_1460, q_1465]), (1, [q_1580, q_1585]), (1, [q_1700, q_1705]), (1, [q_1820, q_1825]), (1, [q_1940, q_1945]), (1, [q_2060, q_2065]), (1, [q_2180, q_2185]), (1, [q_2300, q_2305]), (1, [q_2420, q_2425]), (2, [q_2540, q_2545, q_2546, q_2547, q_2548, q_2549, q_2550, q_2551, q_2552]), (2, [q_2707, q_2712, q_2713, q_2714, q_2715, q_2716, q_2717, q_2718, q_2719]), (2, [q_2875, q_2880, q_2881, q_2882, q_2883, q_2884, q_2885, q_2886, q_2887]), (5, [q_3043]), (5, [q_3152]), (5, [q_3262]), (5, [q_3372])] : List (Nat × List Nat)), ∀ p9 ∈ (gT g9.1).2.2, g9.2.getD p9.2.1 0 ≠ q_3482 := Gs.ne hG_3478 hq_3483
  refine j_dup C dX9_init_230 rfl ?_
  have hf_3486 : Fm (fun _ _ => False) (fun f9 b9 => b9 = h) (fun _ => False) S (nO S_3431 q_3482 5) := (hf_3476.nO _ hq_3483)
  refine j_callI C [] [.ref q_3482, .ref h] mlX9_81 mcX5_init (c_X5_init (nO S_3431 q_3482 5) q_3482 mem_new (kd_nO' (k := 5))) (M.rm (by decide) (by decide) (Nat.le_of_ble_eq_true rfl) (Nat.le_of_ble_eq_true rfl)) rfl rfl (Nat.le_of_ble_eq_true rfl) dX9_init_231 (fun r_3487 S_3488 hp_3489 => ?_)
  obtain ⟨rfl, hf_3490⟩ := hp_3489
  refine J.eq (st' := [.ref q_3482, .ref h]) rfl rfl rfl ?_
  have hz_3491 : ∀ j, aI S_3488 q_149 j = 0 := fun j9 => (hf_3490.ai (mem_old hm_3436) (fun h9 => h9) j9).trans (hz_3439 j9)
  have hz_3492 : ∀ j, aI S_3488 q_244 j = 0 := fun j9 => (hf_3490.ai (mem_old hm_3440) (fun h9 => h9) j9).trans (hz_3443 j9)
  have hz_3493 : ∀ j, aI S_3488 q_271 j = 0 := fun j9 => (hf_3490.ai (mem_old hm_3444) (fun h9 => h9) j9).trans (hz_3447 j9)
  have hz_3494 : ∀ j, aI S_3488 q_490 j = 0 := fun j9 => (hf_3490.ai (mem_old hm_3450) (fun h9 => h9) j9).trans (hz_3453 j9)
  have hz_3495 : ∀ j, aI S_3488 q_529 j = 0 := fun j9 => (hf_3490.ai (mem_old hm_3454) (fun h9 => h9) j9).trans (hz_3457 j9)
  have hz_3496 : ∀ j, aI S_3488 q_572 j = 0 := fun j9 => (hf_3490.ai (mem_old hm_3458) (fun h9 => h9) j9).trans (hz_3461 j9)
  have hm_3497 : h ∈ hL S_3488 := hf_3490.mem (mem_old hm_3434)
  have hk_3498 : Kd S_3488 h 9 := hf_3490.kd (mem_old hm_3434) (kd_nO (k := 5) hq_3483 hm_3434 hk_3435)
  have hm_3499 : q_149 ∈ hL S_3488 := hf_3490.mem (mem_old hm_3436)
  have hk_3500 : Kd S_3488 q_149 20 := hf_3490.kd (mem_old hm_3436) (kd_nO (k := 5) hq_3483 hm_3436 hk_3437)
  have hn_3501 : Ln S_3488 q_149 16 := hf_3490.ln (mem_old hm_3436) hn_3438
  have hm_3502 : q_244 ∈ hL S_3488 := hf_3490.mem (mem_old hm_3440)
  have hk_3503 : Kd S_3488 q_244 13 := hf_3490.kd (mem_old hm_3440) (kd_nO (k := 5) hq_3483 hm_3440 hk_3441)
  have hn_3504 : Ln S_3488 q_244 24000 := hf_3490.ln (mem_old hm_3440) hn_3442
  have hm_3505 : q_271 ∈ hL S_3488 := hf_3490.mem (mem_old hm_3444)
  have hk_3506 : Kd S_3488 q_271 14 := hf_3490.kd (mem_old hm_3444) (kd_nO (k := 5) hq_3483 hm_3444 hk_3445)
  have hn_3507 : Ln S_3488 q_271 16 := hf_3490.ln (mem_old hm_3444) hn_3446
  have hm_3508 : q_3482 ∈ hL S_3488 := hf_3490.mem mem_new
  have hk_3509 : Kd S_3488 q_3482 5 := hf_3490.kd mem_new (kd_nO' (k := 5))
  have hm_3510 : q_490 ∈ hL S_3488 := hf_3490.mem (mem_old hm_3450)
  have hk_3511 : Kd S_3488 q_490 18 := hf_3490.kd (mem_old hm_3450) (kd_nO (k := 5) hq_3483 hm_3450 hk_3451)
  have hn_3512 : Ln S_3488 q_490 3 := hf_3490.ln (mem_old hm_3450) hn_3452
  have hm_3513 : q_529 ∈ hL S_3488 := hf_3490.mem (mem_old hm_3454)
  have hk_3514 : Kd S_3488 q_529 19 := hf_3490.kd (mem_old hm_3454) (kd_nO (k := 5) hq_3483 hm_3454 hk_3455)
  have hn_3515 : Ln S_3488 q_529 4 := hf_3490.ln (mem_old hm_3454) hn_3456
  have hm_3516 : q_572 ∈ hL S_3488 := hf_3490.mem (mem_old hm_3458)
  have hk_3517 : Kd S_3488 q_572 14 := hf_3490.kd (mem_old hm_3458) (kd_nO (k := 5) hq_3483 hm_3458 hk_3459)
  have hn_3518 : Ln S_3488 q_572 12 := hf_3490.ln (mem_old hm_3458) hn_3460
  have hv_3519 : hR S_3488 900 h = (some s0) := hf_3490.fr (mem_old hm_3434) (fun q9 => (fun e9 => absurd (((kd_nO (k := 5) hq_3483 hm_3434 hk_3435)).symm.trans ((congrArg (hK _) e9).trans (kd_nO' (k := 5)))) (by decide)) q9) (rd_nOR (k := 5) hq_3483 hm_3434 hv_3462)
  have hv_3520 : hR S_3488 901 h = (some q_1) := hf_3490.fr (mem_old hm_3434) (fun q9 => (fun e9 => absurd (((kd_nO (k := 5) hq_3483 hm_3434 hk_3435)).symm.trans ((congrArg (hK _) e9).trans (kd_nO' (k := 5)))) (by decide)) q9) (rd_nOR (k := 5) hq_3483 hm_3434 hv_3463)
  have hv_3521 : hR S_3488 902 h = (some q_37) := hf_3490.fr (mem_old hm_3434) (fun q9 => (fun e9 => absurd (((kd_nO (k := 5) hq_3483 hm_3434 hk_3435)).symm.trans ((congrArg (hK _) e9).trans (kd_nO' (k := 5)))) (by decide)) q9) (rd_nOR (k := 5) hq_3483 hm_3434 hv_3464)
  have hv_3522 : hR S_3488 903 h = (some q_118) := hf_3490.fr (mem_old hm_3434) (fun q9 => (fun e9 => absurd (((kd_nO (k := 5) hq_3483 hm_3434 hk_3435)).symm.trans ((congrArg (hK _) e9).trans (kd_nO' (k := 5)))) (by decide)) q9) (rd_nOR (k := 5) hq_3483 hm_3434 hv_3465)
  have hv_3523 : hR S_3488 904 h = (some q_149) := hf_3490.fr (mem_old hm_3434) (fun q9 => (fun e9 => absurd (((kd_nO (k := 5) hq_3483 hm_3434 hk_3435)).symm.trans ((congrArg (hK _) e9).trans (kd_nO' (k := 5)))) (by decide)) q9) (rd_nOR (k := 5) hq_3483 hm_3434 hv_3466)
  have hv_3524 : hR S_3488 905 h = (some q_169) := hf_3490.fr (mem_old hm_3434) (fun q9 => (fun e9 => absurd (((kd_nO (k := 5) hq_3483 hm_3434 hk_3435)).symm.trans ((congrArg (hK _) e9).trans (kd_nO' (k := 5)))) (by decide)) q9) (rd_nOR (k := 5) hq_3483 hm_3434 hv_3467)
  have hv_3525 : hR S_3488 906 h = (some q_206) := hf_3490.fr (mem_old hm_3434) (fun q9 => (fun e9 => absurd (((kd_nO (k := 5) hq_3483 hm_3434 hk_3435)).symm.trans ((congrArg (hK _) e9).trans (kd_nO' (k := 5)))) (by decide)) q9) (rd_nOR (k := 5) hq_3483 hm_3434 hv_3468)
  have hv_3526 : hR S_3488 907 h = (some q_244) := hf_3490.fr (mem_old hm_3434) (fun q9 => (fun e9 => absurd (((kd_nO (k := 5) hq_3483 hm_3434 hk_3435)).symm.trans ((congrArg (hK _) e9).trans (kd_nO' (k := 5)))) (by decide)) q9) (rd_nOR (k := 5) hq_3483 hm_3434 hv_3469)
  have hv_3527 : hR S_3488 908 h = (some q_271) := hf_3490.fr (mem_old hm_3434) (fun q9 => (fun e9 => absurd (((kd_nO (k := 5) hq_3483 hm_3434 hk_3435)).symm.trans ((congrArg (hK _) e9).trans (kd_nO' (k := 5)))) (by decide)) q9) (rd_nOR (k := 5) hq_3483 hm_3434 hv_3470)
  have hv_3528 : hR S_3488 909 h = (some q_302) := hf_3490.fr (mem_old hm_3434) (fun q9 => (fun e9 => absurd (((kd_nO (k := 5) hq_3483 hm_3434 hk_3435)).symm.trans ((congrArg (hK _) e9).trans (kd_nO' (k := 5)))) (by decide)) q9) (rd_nOR (k := 5) hq_3483 hm_3434 hv_3471)
  have hv_3529 : hR S_3488 910 h = (some q_395) := hf_3490.fr (mem_old hm_3434) (fun q9 => (fun e9 => absurd (((kd_nO (k := 5) hq_3483 hm_3434 hk_3435)).symm.trans ((congrArg (hK _) e9).trans (kd_nO' (k := 5)))) (by decide)) q9) (rd_nOR (k := 5) hq_3483 hm_3434 hv_3472)
  have hv_3530 : hR S_3488 911 h = (some q_490) := hf_3490.fr (mem_old hm_3434) (fun q9 => (fun e9 => absurd (((kd_nO (k := 5) hq_3483 hm_3434 hk_3435)).symm.trans ((congrArg (hK _) e9).trans (kd_nO' (k := 5)))) (by decide)) q9) (rd_nOR (k := 5) hq_3483 hm_3434 hv_3473)
  have hv_3531 : hR S_3488 912 h = (some q_529) := hf_3490.fr (mem_old hm_3434) (fun q9 => (fun e9 => absurd (((kd_nO (k := 5) hq_3483 hm_3434 hk_3435)).symm.trans ((congrArg (hK _) e9).trans (kd_nO' (k := 5)))) (by decide)) q9) (rd_nOR (k := 5) hq_3483 hm_3434 hv_3474)
  have hv_3532 : hR S_3488 917 h = (some q_572) := hf_3490.fr (mem_old hm_3434) (fun q9 => (fun e9 => absurd (((kd_nO (k := 5) hq_3483 hm_3434 hk_3435)).symm.trans ((congrArg (hK _) e9).trans (kd_nO' (k := 5)))) (by decide)) q9) (rd_nOR (k := 5) hq_3483 hm_3434 hv_3475)
  have hf_3533 : Fm (fun _ _ => False) (fun f9 b9 => b9 = h) (fun _ => False) S S_3488 := hf_3486.then hf_3490 (fun a9 ha9 => ⟨(fun f9 h9 => h9.elim), (fun f9 h9 => (fun h8 => absurd (h8 ▸ ha9) hz_3484) h9), (fun h9 => h9.elim)⟩)
  have hN_3534 : NL S [q_1, q_5, q_6, q_37, q_43, q_44, q_45, q_46, q_47, q_48, q_49, q_50, q_118, q_124, q_149, q_169, q_174, q_206, q_212, q_244, q_271, q_302, q_307, q_308, q_309, q_310, q_311, q_312, q_313, q_314, q_395, q_401, q_402, q_403, q_404, q_405, q_406, q_407, q_408, q_490, q_529, q_572, q_621, q_626, q_740, q_745, q_860, q_865, q_980, q_985, q_1100, q_1105, q_1220, q_1225, q_1340, q_1345, q_1460, q_1465, q_1580, q_1585, q_1700, q_1705, q_1820, q_1825, q_1940, q_1945, q_2060, q_2065, q_2180, q_2185, q_2300, q_2305, q_2420, q_2425, q_2540, q_2545, q_2546, q_2547, q_2548, q_2549, q_2550, q_2551, q_2552, q_2707, q_2712, q_2713, q_2714, q_2715, q_2716, q_2717, q_2718, q_2719, q_2875, q_2880, q_2881, q_2882, q_2883, q_2884, q_2885, q_2886, q_2887, q_3043, q_3152, q_3262, q_3372] S_3488 := NL.mono (show NL S [q_1, q_5, q_6, q_37, q_43, q_44, q_45, q_46, q_47, q_48, q_49, q_50, q_118, q_124, q_149, q_169, q_174, q_206, q_212, q_244, q_271, q_302, q_307, q_308, q_309, q_310, q_311, q_312, q_313, q_314, q_395, q_401, q_402, q_403, q_404, q_405, q_406, q_407, q_408, q_490, q_529, q_572, q_621, q_626, q_740, q_745, q_860, q_865, q_980, q_985, q_1100, q_1105, q_1220, q_1225, q_1340, q_1345, q_1460, q_1465, q_1580, q_1585, q_1700, q_1705, q_1820, q_1825, q_1940, q_1945, q_2060, q_2065, q_2180, q_2185, q_2300, q_2305, q_2420, q_2425, q_2540, q_2545, q_2546, q_2547, q_2548, q_2549, q_2550, q_2551, q_2552, q_2707, q_2712, q_2713, q_2714, q_2715, q_2716, q_2717, q_2718, q_2719, q_2875, q_2880, q_2881, q_2882, q_2883, q_2884, q_2885, q_2886, q_2887, q_3043, q_3152, q_3262, q_3372] (nO S_3431 q_3482 5) from NL.oldO hN_3477) (fun a9 h9 => hf_3490.mem h9)
  have hG_3535 : Gs h [(3, [q_1, q_5, q_6]), (4, [q_37, q_43, q_44, q_45, q_46, q_47, q_48, q_49, q_50]), (0, [q_118, q_124]), (1, [q_169, q_174]), (0, [q_206, q_212]), (2, [q_302, q_307, q_308, q_309, q_310, q_311, q_312, q_313, q_314]), (2, [q_395, q_401, q_402, q_403, q_404, q_405, q_406, q_407, q_408]), (1, [q_621, q_626]), (1, [q_740, q_745]), (1, [q_860, q_865]), (1, [q_980, q_985]), (1, [q_1100, q_1105]), (1, [q_1220, q_1225]), (1, [q_1340, q_1345]), (1, [q_1460, q_1465]), (1, [q_1580, q_1585]), (1, [q_1700, q_1705]), (1, [q_1820, q_1825]), (1, [q_1940, q_1945]), (1, [q_2060, q_2065]), (1, [q_2180, q_2185]), (1, [q_2300, q_2305]), (1, [q_2420, q_2425]), (2, [q_2540, q_2545, q_2546, q_2547, q_2548, q_2549, q_2550, q_2551, q_2552]), (2, [q_2707, q_2712, q_2713, q_2714, q_2715, q_2716, q_2717, q_2718, q_2719]), (2, [q_2875, q_2880, q_2881, q_2882, q_2883, q_2884, q_2885, q_2886, q_2887]), (5, [q_3043]), (5, [q_3152]), (5, [q_3262]), (5, [q_3372])] S_3488 := Gs.fm (show Gs h [(3, [q_1, q_5, q_6]), (4, [q_37, q_43, q_44, q_45, q_46, q_47, q_48, q_49, q_50]), (0, [q_118, q_124]), (1, [q_169, q_174]), (0, [q_206, q_212]), (2, [q_302, q_307, q_308, q_309, q_310, q_311, q_312, q_313, q_314]), (2, [q_395, q_401, q_402, q_403, q_404, q_405, q_406, q_407, q_408]), (1, [q_621, q_626]), (1, [q_740, q_745]), (1, [q_860, q_865]), (1, [q_980, q_985]), (1, [q_1100, q_1105]), (1, [q_1220, q_1225]), (1, [q_1340, q_1345]), (1, [q_1460, q_1465]), (1, [q_1580, q_1585]), (1, [q_1700, q_1705]), (1, [q_1820, q_1825]), (1, [q_1940, q_1945]), (1, [q_2060, q_2065]), (1, [q_2180, q_2185]), (1, [q_2300, q_2305]), (1, [q_2420, q_2425]), (2, [q_2540, q_2545, q_2546, q_2547, q_2548, q_2549, q_2550, q_2551, q_2552]), (2, [q_2707, q_2712, q_2713, q_2714, q_2715, q_2716, q_2717, q_2718, q_2719]), (2, [q_2875, q_2880, q_2881, q_2882, q_2883, q_2884, q_2885, q_2886, q_2887]), (5, [q_3043]), (5, [q_3152]), (5, [q_3262]), (5, [q_3372])] (nO S_3431 q_3482 5) from Gs.nO hG_3478 hq_3483) hf_3490 (fun g9 hg9 p9 hp9 => gn_3485 g9 hg9 p9 hp9)
  have hE_3536 : ELs S_3488 q_149 [q_621, q_740, q_860, q_980, q_1100, q_1220, q_1340, q_1460, q_1580, q_1700, q_1820, q_1940, q_2060, q_2180, q_2300, q_2420] := ELs.fm (ELs.nO (S := S_3431) hE_3479) hf_3490 (mem_old hm_3436) (fun h9 => h9)
  have hE_3537 : ELs S_3488 q_490 [q_2540, q_2707, q_2875] := ELs.fm (ELs.nO (S := S_3431) hE_3480) hf_3490 (mem_old hm_3450) (fun h9 => h9)
  have hE_3538 : ELs S_3488 q_529 [q_3043, q_3152, q_3262, q_3372] := ELs.fm (ELs.nO (S := S_3431) hE_3481) hf_3490 (mem_old hm_3454) (fun h9 => h9)
  have hGt_3539 : Gt 5 [q_3482] S_3488 := ⟨fun i9 k9 h9 => (match i9, h9 with | 0, h9 => (by have e9 : (5 : Nat) = k9 := Option.some.inj h9; subst e9; exact ⟨hm_3508, hk_3509⟩) | i9 + 1, h9 => absurd h9 (by simp [gT])), (fun _ h9 => absurd h9 List.not_mem_nil), (fun _ h9 => absurd h9 List.not_mem_nil), (fun _ h9 => absurd h9 List.not_mem_nil)⟩
  have hG_3540 : Gs h [(3, [q_1, q_5, q_6]), (4, [q_37, q_43, q_44, q_45, q_46, q_47, q_48, q_49, q_50]), (0, [q_118, q_124]), (1, [q_169, q_174]), (0, [q_206, q_212]), (2, [q_302, q_307, q_308, q_309, q_310, q_311, q_312, q_313, q_314]), (2, [q_395, q_401, q_402, q_403, q_404, q_405, q_406, q_407, q_408]), (1, [q_621, q_626]), (1, [q_740, q_745]), (1, [q_860, q_865]), (1, [q_980, q_985]), (1, [q_1100, q_1105]), (1, [q_1220, q_1225]), (1, [q_1340, q_1345]), (1, [q_1460, q_1465]), (1, [q_1580, q_1585]), (1, [q_1700, q_1705]), (1, [q_1820, q_1825]), (1, [q_1940, q_1945]), (1, [q_2060, q_2065]), (1, [q_2180, q_2185]), (1, [q_2300, q_2305]), (1, [q_2420, q_2425]), (2, [q_2540, q_2545, q_2546, q_2547, q_2548, q_2549, q_2550, q_2551, q_2552]), (2, [q_2707, q_2712, q_2713, q_2714, q_2715, q_2716, q_2717, q_2718, q_2719]), (2, [q_2875, q_2880, q_2881, q_2882, q_2883, q_2884, q_2885, q_2886, q_2887]), (5, [q_3043]), (5, [q_3152]), (5, [q_3262]), (5, [q_3372]), (5, [q_3482])] S_3488 := Gs.snoc hG_3535 (by decide) hGt_3539 (fun _ h9 => absurd h9 List.not_mem_nil)
  refine j_putr (f := 913) C flX9_82 (by decide) rfl rfl dX9_init_234 hm_3497 hk_3498 rfl ?_
  have hGe : Gs h [(3, [q_1, q_5, q_6]), (4, [q_37, q_43, q_44, q_45, q_46, q_47, q_48, q_49, q_50]), (0, [q_118, q_124]), (1, [q_169, q_174]), (0, [q_206, q_212]), (2, [q_302, q_307, q_308, q_309, q_310, q_311, q_312, q_313, q_314]), (2, [q_395, q_401, q_402, q_403, q_404, q_405, q_406, q_407, q_408]), (1, [q_621, q_626]), (1, [q_740, q_745]), (1, [q_860, q_865]), (1, [q_980, q_985]), (1, [q_1100, q_1105]), (1, [q_1220, q_1225]), (1, [q_1340, q_1345]), (1, [q_1460, q_1465]), (1, [q_1580, q_1585]), (1, [q_1700, q_1705]), (1, [q_1820, q_1825]), (1, [q_1940, q_1945]), (1, [q_2060, q_2065]), (1, [q_2180, q_2185]), (1, [q_2300, q_2305]), (1, [q_2420, q_2425]), (2, [q_2540, q_2545, q_2546, q_2547, q_2548, q_2549, q_2550, q_2551, q_2552]), (2, [q_2707, q_2712, q_2713, q_2714, q_2715, q_2716, q_2717, q_2718, q_2719]), (2, [q_2875, q_2880, q_2881, q_2882, q_2883, q_2884, q_2885, q_2886, q_2887]), (5, [q_3043]), (5, [q_3152]), (5, [q_3262]), (5, [q_3372]), (5, [q_3482])] (sR S_3488 913 h (some q_3482)) := (Gs.sR (S := S_3488) hG_3540)
  have hNe : NL S [q_1, q_5, q_6, q_37, q_43, q_44, q_45, q_46, q_47, q_48, q_49, q_50, q_118, q_124, q_149, q_169, q_174, q_206, q_212, q_244, q_271, q_302, q_307, q_308, q_309, q_310, q_311, q_312, q_313, q_314, q_395, q_401, q_402, q_403, q_404, q_405, q_406, q_407, q_408, q_490, q_529, q_572, q_621, q_626, q_740, q_745, q_860, q_865, q_980, q_985, q_1100, q_1105, q_1220, q_1225, q_1340, q_1345, q_1460, q_1465, q_1580, q_1585, q_1700, q_1705, q_1820, q_1825, q_1940, q_1945, q_2060, q_2065, q_2180, q_2185, q_2300, q_2305, q_2420, q_2425, q_2540, q_2545, q_2546, q_2547, q_2548, q_2549, q_2550, q_2551, q_2552, q_2707, q_2712, q_2713, q_2714, q_2715, q_2716, q_2717, q_2718, q_2719, q_2875, q_2880, q_2881, q_2882, q_2883, q_2884, q_2885, q_2886, q_2887, q_3043, q_3152, q_3262, q_3372] (sR S_3488 913 h (some q_3482)) := (NL.sR (S := S_3488) hN_3534)
  have g0_9 : Gt 3 [q_1, q_5, q_6] (sR S_3488 913 h (some q_3482)) := (hGe _ (List.mem_of_getElem? (i := 0) rfl)).2.1
  have g1_9 : Gt 4 [q_37, q_43, q_44, q_45, q_46, q_47, q_48, q_49, q_50] (sR S_3488 913 h (some q_3482)) := (hGe _ (List.mem_of_getElem? (i := 1) rfl)).2.1
  have g2_9 : Gt 0 [q_118, q_124] (sR S_3488 913 h (some q_3482)) := (hGe _ (List.mem_of_getElem? (i := 2) rfl)).2.1
  have g3_9 : Gt 1 [q_169, q_174] (sR S_3488 913 h (some q_3482)) := (hGe _ (List.mem_of_getElem? (i := 3) rfl)).2.1
  have g4_9 : Gt 0 [q_206, q_212] (sR S_3488 913 h (some q_3482)) := (hGe _ (List.mem_of_getElem? (i := 4) rfl)).2.1
  have g5_9 : Gt 2 [q_302, q_307, q_308, q_309, q_310, q_311, q_312, q_313, q_314] (sR S_3488 913 h (some q_3482)) := (hGe _ (List.mem_of_getElem? (i := 5) rfl)).2.1
  have g6_9 : Gt 2 [q_395, q_401, q_402, q_403, q_404, q_405, q_406, q_407, q_408] (sR S_3488 913 h (some q_3482)) := (hGe _ (List.mem_of_getElem? (i := 6) rfl)).2.1
  have g7_9 : Gt 1 [q_621, q_626] (sR S_3488 913 h (some q_3482)) := (hGe _ (List.mem_of_getElem? (i := 7) rfl)).2.1
  have g8_9 : Gt 1 [q_740, q_745] (sR S_3488 913 h (some q_3482)) := (hGe _ (List.mem_of_getElem? (i := 8) rfl)).2.1
  have g9_9 : Gt 1 [q_860, q_865] (sR S_3488 913 h (some q_3482)) := (hGe _ (List.mem_of_getElem? (i := 9) rfl)).2.1
  have g10_9 : Gt 1 [q_980, q_985] (sR S_3488 913 h (some q_3482)) := (hGe _ (List.mem_of_getElem? (i := 10) rfl)).2.1
  have g11_9 : Gt 1 [q_1100, q_1105] (sR S_3488 913 h (some q_3482)) := (hGe _ (List.mem_of_getElem? (i := 11) rfl)).2.1
  have g12_9 : Gt 1 [q_1220, q_1225] (sR S_3488 913 h (some q_3482)) := (hGe _ (List.mem_of_getElem? (i := 12) rfl)).2.1
  have g13_9 : Gt 1 [q_1340, q_1345] (sR S_3488 913 h (some q_3482)) := (hGe _ (List.mem_of_getElem? (i := 13) rfl)).2.1
  have g14_9 : Gt 1 [q_1460, q_1465] (sR S_3488 913 h (some q_3482)) := (hGe _ (List.mem_of_getElem? (i := 14) rfl)).2.1
  have g15_9 : Gt 1 [q_1580, q_1585] (sR S_3488 913 h (some q_3482)) := (hGe _ (List.mem_of_getElem? (i := 15) rfl)).2.1
  have g16_9 : Gt 1 [q_1700, q_1705] (sR S_3488 913 h (some q_3482)) := (hGe _ (List.mem_of_getElem? (i := 16) rfl)).2.1
  have g17_9 : Gt 1 [q_1820, q_1825] (sR S_3488 913 h (some q_3482)) := (hGe _ (List.mem_of_getElem? (i := 17) rfl)).2.1
  have g18_9 : Gt 1 [q_1940, q_1945] (sR S_3488 913 h (some q_3482)) := (hGe _ (List.mem_of_getElem? (i := 18) rfl)).2.1
  have g19_9 : Gt 1 [q_2060, q_2065] (sR S_3488 913 h (some q_3482)) := (hGe _ (List.mem_of_getElem? (i := 19) rfl)).2.1
  have g20_9 : Gt 1 [q_2180, q_2185] (sR S_3488 913 h (some q_3482)) := (hGe _ (List.mem_of_getElem? (i := 20) rfl)).2.1
  have g21_9 : Gt 1 [q_2300, q_2305] (sR S_3488 913 h (some q_3482)) := (hGe _ (List.mem_of_getElem? (i := 21) rfl)).2.1
  have g22_9 : Gt 1 [q_2420, q_2425] (sR S_3488 913 h (some q_3482)) := (hGe _ (List.mem_of_getElem? (i := 22) rfl)).2.1
  have g23_9 : Gt 2 [q_2540, q_2545, q_2546, q_2547, q_2548, q_2549, q_2550, q_2551, q_2552] (sR S_3488 913 h (some q_3482)) := (hGe _ (List.mem_of_getElem? (i := 23) rfl)).2.1
  have g24_9 : Gt 2 [q_2707, q_2712, q_2713, q_2714, q_2715, q_2716, q_2717, q_2718, q_2719] (sR S_3488 913 h (some q_3482)) := (hGe _ (List.mem_of_getElem? (i := 24) rfl)).2.1
  have g25_9 : Gt 2 [q_2875, q_2880, q_2881, q_2882, q_2883, q_2884, q_2885, q_2886, q_2887] (sR S_3488 913 h (some q_3482)) := (hGe _ (List.mem_of_getElem? (i := 25) rfl)).2.1
  have g26_9 : Gt 5 [q_3043] (sR S_3488 913 h (some q_3482)) := (hGe _ (List.mem_of_getElem? (i := 26) rfl)).2.1
  have g27_9 : Gt 5 [q_3152] (sR S_3488 913 h (some q_3482)) := (hGe _ (List.mem_of_getElem? (i := 27) rfl)).2.1
  have g28_9 : Gt 5 [q_3262] (sR S_3488 913 h (some q_3482)) := (hGe _ (List.mem_of_getElem? (i := 28) rfl)).2.1
  have g29_9 : Gt 5 [q_3372] (sR S_3488 913 h (some q_3482)) := (hGe _ (List.mem_of_getElem? (i := 29) rfl)).2.1
  have g30_9 : Gt 5 [q_3482] (sR S_3488 913 h (some q_3482)) := (hGe _ (List.mem_of_getElem? (i := 30) rfl)).2.1
  have el_159 : ELs (sR S_3488 913 h (some q_3482)) q_149 [q_621, q_740, q_860, q_980, q_1100, q_1220, q_1340, q_1460, q_1580, q_1700, q_1820, q_1940, q_2060, q_2180, q_2300, q_2420] := (ELs.sR (S := S_3488) hE_3536)
  have el_409 : ELs (sR S_3488 913 h (some q_3482)) q_490 [q_2540, q_2707, q_2875] := (ELs.sR (S := S_3488) hE_3537)
  have el_419 : ELs (sR S_3488 913 h (some q_3482)) q_529 [q_3043, q_3152, q_3262, q_3372] := (ELs.sR (S := S_3488) hE_3538)
  have hWe : Wt s9K s9N s9P s9Q (fun i => (h :: [q_1, q_5, q_6, q_37, q_43, q_44, q_45, q_46, q_47, q_48, q_49, q_50, q_118, q_124, q_149, q_169, q_174, q_206, q_212, q_244, q_271, q_302, q_307, q_308, q_309, q_310, q_311, q_312, q_313, q_314, q_395, q_401, q_402, q_403, q_404, q_405, q_406, q_407, q_408, q_490, q_529, q_572, q_621, q_626, q_740, q_745, q_860, q_865, q_980, q_985, q_1100, q_1105, q_1220, q_1225, q_1340, q_1345, q_1460, q_1465, q_1580, q_1585, q_1700, q_1705, q_1820, q_1825, q_1940, q_1945, q_2060, q_2065, q_2180, q_2185, q_2300, q_2305, q_2420, q_2425, q_2540, q_2545, q_2546, q_2547, q_2548, q_2549, q_2550, q_2551, q_2552, q_2707, q_2712, q_2713, q_2714, q_2715, q_2716, q_2717, q_2718, q_2719, q_2875, q_2880, q_2881, q_2882, q_2883, q_2884, q_2885, q_2886, q_2887, q_3043, q_3152, q_3262, q_3372] : List Nat).getD i 0) (sR S_3488 913 h (some q_3482)) := ⟨(fun i9 k9 h9 => (match i9, h9 with | 0, h9 => (by have e9 : (9 : Nat) = k9 := Option.some.inj h9; subst e9; exact ⟨hm_3497, hk_3498⟩) | 1, h9 => (by have e9 : (0 : Nat) = k9 := Option.some.inj h9; subst e9; exact (g0_9.1 0 _ rfl)) | 2, h9 => (by have e9 : (14 : Nat) = k9 := Option.some.inj h9; subst e9; exact (g0_9.1 1 _ rfl)) | 3, h9 => (by have e9 : (14 : Nat) = k9 := Option.some.inj h9; subst e9; exact (g0_9.1 2 _ rfl)) | 4, h9 => (by have e9 : (2 : Nat) = k9 := Option.some.inj h9; subst e9; exact (g1_9.1 0 _ rfl)) | 5, h9 => (by have e9 : (8 : Nat) = k9 := Option.some.inj h9; subst e9; exact (g1_9.1 1 _ rfl)) | 6, h9 => (by have e9 : (14 : Nat) = k9 := Option.some.inj h9; subst e9; exact (g1_9.1 2 _ rfl)) | 7, h9 => (by have e9 : (14 : Nat) = k9 := Option.some.inj h9; subst e9; exact (g1_9.1 3 _ rfl)) | 8, h9 => (by have e9 : (14 : Nat) = k9 := Option.some.inj h9; subst e9; exact (g1_9.1 4 _ rfl)) | 9, h9 => (by have e9 : (17 : Nat) = k9 := Option.some.inj h9; subst e9; exact (g1_9.1 5 _ rfl)) | 10, h9 => (by have e9 : (14 : Nat) = k9 := Option.some.inj h9; subst e9; exact (g1_9.1 6 _ rfl)) | 11, h9 => (by have e9 : (14 : Nat) = k9 := Option.some.inj h9; subst e9; exact (g1_9.1 7 _ rfl)) | 12, h9 => (by have e9 : (14 : Nat) = k9 := Option.some.inj h9; subst e9; exact (g1_9.1 8 _ rfl)) | 13, h9 => (by have e9 : (8 : Nat) = k9 := Option.some.inj h9; subst e9; exact (g2_9.1 0 _ rfl)) | 14, h9 => (by have e9 : (14 : Nat) = k9 := Option.some.inj h9; subst e9; exact (g2_9.1 1 _ rfl)) | 15, h9 => (by have e9 : (20 : Nat) = k9 := Option.some.inj h9; subst e9; exact ⟨hm_3499, hk_3500⟩) | 16, h9 => (by have e9 : (10 : Nat) = k9 := Option.some.inj h9; subst e9; exact (g3_9.1 0 _ rfl)) | 17, h9 => (by have e9 : (15 : Nat) = k9 := Option.some.inj h9; subst e9; exact (g3_9.1 1 _ rfl)) | 18, h9 => (by have e9 : (8 : Nat) = k9 := Option.some.inj h9; subst e9; exact (g4_9.1 0 _ rfl)) | 19, h9 => (by have e9 : (14 : Nat) = k9 := Option.some.inj h9; subst e9; exact (g4_9.1 1 _ rfl)) | 20, h9 => (by have e9 : (13 : Nat) = k9 := Option.some.inj h9; subst e9; exact ⟨hm_3502, hk_3503⟩) | 21, h9 => (by have e9 : (14 : Nat) = k9 := Option.some.inj h9; subst e9; exact ⟨hm_3505, hk_3506⟩) | 22, h9 => (by have e9 : (1 : Nat) = k9 := Option.some.inj h9; subst e9; exact (g5_9.1 0 _ rfl)) | 23, h9 => (by have e9 : (7 : Nat) = k9 := Option.some.inj h9; subst e9; exact (g5_9.1 1 _ rfl)) | 24, h9 => (by have e9 : (14 : Nat) = k9 := Option.some.inj h9; subst e9; exact (g5_9.1 2 _ rfl)) | 25, h9 => (by have e9 : (4 : Nat) = k9 := Option.some.inj h9; subst e9; exact (g5_9.1 3 _ rfl)) | 26, h9 => (by have e9 : (14 : Nat) = k9 := Option.some.inj h9; subst e9; exact (g5_9.1 4 _ rfl)) | 27, h9 => (by have e9 : (10 : Nat) = k9 := Option.some.inj h9; subst e9; exact (g5_9.1 5 _ rfl)) | 28, h9 => (by have e9 : (15 : Nat) = k9 := Option.some.inj h9; subst e9; exact (g5_9.1 6 _ rfl)) | 29, h9 => (by have e9 : (14 : Nat) = k9 := Option.some.inj h9; subst e9; exact (g5_9.1 7 _ rfl)) | 30, h9 => (by have e9 : (14 : Nat) = k9 := Option.some.inj h9; subst e9; exact (g5_9.1 8 _ rfl)) | 31, h9 => (by have e9 : (1 : Nat) = k9 := Option.some.inj h9; subst e9; exact (g6_9.1 0 _ rfl)) | 32, h9 => (by have e9 : (7 : Nat) = k9 := Option.some.inj h9; subst e9; exact (g6_9.1 1 _ rfl)) | 33, h9 => (by have e9 : (14 : Nat) = k9 := Option.some.inj h9; subst e9; exact (g6_9.1 2 _ rfl)) | 34, h9 => (by have e9 : (4 : Nat) = k9 := Option.some.inj h9; subst e9; exact (g6_9.1 3 _ rfl)) | 35, h9 => (by have e9 : (14 : Nat) = k9 := Option.some.inj h9; subst e9; exact (g6_9.1 4 _ rfl)) | 36, h9 => (by have e9 : (10 : Nat) = k9 := Option.some.inj h9; subst e9; exact (g6_9.1 5 _ rfl)) | 37, h9 => (by have e9 : (15 : Nat) = k9 := Option.some.inj h9; subst e9; exact (g6_9.1 6 _ rfl)) | 38, h9 => (by have e9 : (14 : Nat) = k9 := Option.some.inj h9; subst e9; exact (g6_9.1 7 _ rfl)) | 39, h9 => (by have e9 : (14 : Nat) = k9 := Option.some.inj h9; subst e9; exact (g6_9.1 8 _ rfl)) | 40, h9 => (by have e9 : (18 : Nat) = k9 := Option.some.inj h9; subst e9; exact ⟨hm_3510, hk_3511⟩) | 41, h9 => (by have e9 : (19 : Nat) = k9 := Option.some.inj h9; subst e9; exact ⟨hm_3513, hk_3514⟩) | 42, h9 => (by have e9 : (14 : Nat) = k9 := Option.some.inj h9; subst e9; exact ⟨hm_3516, hk_3517⟩) | 43, h9 => (by have e9 : (10 : Nat) = k9 := Option.some.inj h9; subst e9; exact (g7_9.1 0 _ rfl)) | 44, h9 => (by have e9 : (15 : Nat) = k9 := Option.some.inj h9; subst e9; exact (g7_9.1 1 _ rfl)) | 45, h9 => (by have e9 : (10 : Nat) = k9 := Option.some.inj h9; subst e9; exact (g8_9.1 0 _ rfl)) | 46, h9 => (by have e9 : (15 : Nat) = k9 := Option.some.inj h9; subst e9; exact (g8_9.1 1 _ rfl)) | 47, h9 => (by have e9 : (10 : Nat) = k9 := Option.some.inj h9; subst e9; exact (g9_9.1 0 _ rfl)) | 48, h9 => (by have e9 : (15 : Nat) = k9 := Option.some.inj h9; subst e9; exact (g9_9.1 1 _ rfl)) | 49, h9 => (by have e9 : (10 : Nat) = k9 := Option.some.inj h9; subst e9; exact (g10_9.1 0 _ rfl)) | 50, h9 => (by have e9 : (15 : Nat) = k9 := Option.some.inj h9; subst e9; exact (g10_9.1 1 _ rfl)) | 51, h9 => (by have e9 : (10 : Nat) = k9 := Option.some.inj h9; subst e9; exact (g11_9.1 0 _ rfl)) | 52, h9 => (by have e9 : (15 : Nat) = k9 := Option.some.inj h9; subst e9; exact (g11_9.1 1 _ rfl)) | 53, h9 => (by have e9 : (10 : Nat) = k9 := Option.some.inj h9; subst e9; exact (g12_9.1 0 _ rfl)) | 54, h9 => (by have e9 : (15 : Nat) = k9 := Option.some.inj h9; subst e9; exact (g12_9.1 1 _ rfl)) | 55, h9 => (by have e9 : (10 : Nat) = k9 := Option.some.inj h9; subst e9; exact (g13_9.1 0 _ rfl)) | 56, h9 => (by have e9 : (15 : Nat) = k9 := Option.some.inj h9; subst e9; exact (g13_9.1 1 _ rfl)) | 57, h9 => (by have e9 : (10 : Nat) = k9 := Option.some.inj h9; subst e9; exact (g14_9.1 0 _ rfl)) | 58, h9 => (by have e9 : (15 : Nat) = k9 := Option.some.inj h9; subst e9; exact (g14_9.1 1 _ rfl)) | 59, h9 => (by have e9 : (10 : Nat) = k9 := Option.some.inj h9; subst e9; exact (g15_9.1 0 _ rfl)) | 60, h9 => (by have e9 : (15 : Nat) = k9 := Option.some.inj h9; subst e9; exact (g15_9.1 1 _ rfl)) | 61, h9 => (by have e9 : (10 : Nat) = k9 := Option.some.inj h9; subst e9; exact (g16_9.1 0 _ rfl)) | 62, h9 => (by have e9 : (15 : Nat) = k9 := Option.some.inj h9; subst e9; exact (g16_9.1 1 _ rfl)) | 63, h9 => (by have e9 : (10 : Nat) = k9 := Option.some.inj h9; subst e9; exact (g17_9.1 0 _ rfl)) | 64, h9 => (by have e9 : (15 : Nat) = k9 := Option.some.inj h9; subst e9; exact (g17_9.1 1 _ rfl)) | 65, h9 => (by have e9 : (10 : Nat) = k9 := Option.some.inj h9; subst e9; exact (g18_9.1 0 _ rfl)) | 66, h9 => (by have e9 : (15 : Nat) = k9 := Option.some.inj h9; subst e9; exact (g18_9.1 1 _ rfl)) | 67, h9 => (by have e9 : (10 : Nat) = k9 := Option.some.inj h9; subst e9; exact (g19_9.1 0 _ rfl)) | 68, h9 => (by have e9 : (15 : Nat) = k9 := Option.some.inj h9; subst e9; exact (g19_9.1 1 _ rfl)) | 69, h9 => (by have e9 : (10 : Nat) = k9 := Option.some.inj h9; subst e9; exact (g20_9.1 0 _ rfl)) | 70, h9 => (by have e9 : (15 : Nat) = k9 := Option.some.inj h9; subst e9; exact (g20_9.1 1 _ rfl)) | 71, h9 => (by have e9 : (10 : Nat) = k9 := Option.some.inj h9; subst e9; exact (g21_9.1 0 _ rfl)) | 72, h9 => (by have e9 : (15 : Nat) = k9 := Option.some.inj h9; subst e9; exact (g21_9.1 1 _ rfl)) | 73, h9 => (by have e9 : (10 : Nat) = k9 := Option.some.inj h9; subst e9; exact (g22_9.1 0 _ rfl)) | 74, h9 => (by have e9 : (15 : Nat) = k9 := Option.some.inj h9; subst e9; exact (g22_9.1 1 _ rfl)) | 75, h9 => (by have e9 : (1 : Nat) = k9 := Option.some.inj h9; subst e9; exact (g23_9.1 0 _ rfl)) | 76, h9 => (by have e9 : (7 : Nat) = k9 := Option.some.inj h9; subst e9; exact (g23_9.1 1 _ rfl)) | 77, h9 => (by have e9 : (14 : Nat) = k9 := Option.some.inj h9; subst e9; exact (g23_9.1 2 _ rfl)) | 78, h9 => (by have e9 : (4 : Nat) = k9 := Option.some.inj h9; subst e9; exact (g23_9.1 3 _ rfl)) | 79, h9 => (by have e9 : (14 : Nat) = k9 := Option.some.inj h9; subst e9; exact (g23_9.1 4 _ rfl)) | 80, h9 => (by have e9 : (10 : Nat) = k9 := Option.some.inj h9; subst e9; exact (g23_9.1 5 _ rfl)) | 81, h9 => (by have e9 : (15 : Nat) = k9 := Option.some.inj h9; subst e9; exact (g23_9.1 6 _ rfl)) | 82, h9 => (by have e9 : (14 : Nat) = k9 := Option.some.inj h9; subst e9; exact (g23_9.1 7 _ rfl)) | 83, h9 => (by have e9 : (14 : Nat) = k9 := Option.some.inj h9; subst e9; exact (g23_9.1 8 _ rfl)) | 84, h9 => (by have e9 : (1 : Nat) = k9 := Option.some.inj h9; subst e9; exact (g24_9.1 0 _ rfl)) | 85, h9 => (by have e9 : (7 : Nat) = k9 := Option.some.inj h9; subst e9; exact (g24_9.1 1 _ rfl)) | 86, h9 => (by have e9 : (14 : Nat) = k9 := Option.some.inj h9; subst e9; exact (g24_9.1 2 _ rfl)) | 87, h9 => (by have e9 : (4 : Nat) = k9 := Option.some.inj h9; subst e9; exact (g24_9.1 3 _ rfl)) | 88, h9 => (by have e9 : (14 : Nat) = k9 := Option.some.inj h9; subst e9; exact (g24_9.1 4 _ rfl)) | 89, h9 => (by have e9 : (10 : Nat) = k9 := Option.some.inj h9; subst e9; exact (g24_9.1 5 _ rfl)) | 90, h9 => (by have e9 : (15 : Nat) = k9 := Option.some.inj h9; subst e9; exact (g24_9.1 6 _ rfl)) | 91, h9 => (by have e9 : (14 : Nat) = k9 := Option.some.inj h9; subst e9; exact (g24_9.1 7 _ rfl)) | 92, h9 => (by have e9 : (14 : Nat) = k9 := Option.some.inj h9; subst e9; exact (g24_9.1 8 _ rfl)) | 93, h9 => (by have e9 : (1 : Nat) = k9 := Option.some.inj h9; subst e9; exact (g25_9.1 0 _ rfl)) | 94, h9 => (by have e9 : (7 : Nat) = k9 := Option.some.inj h9; subst e9; exact (g25_9.1 1 _ rfl)) | 95, h9 => (by have e9 : (14 : Nat) = k9 := Option.some.inj h9; subst e9; exact (g25_9.1 2 _ rfl)) | 96, h9 => (by have e9 : (4 : Nat) = k9 := Option.some.inj h9; subst e9; exact (g25_9.1 3 _ rfl)) | 97, h9 => (by have e9 : (14 : Nat) = k9 := Option.some.inj h9; subst e9; exact (g25_9.1 4 _ rfl)) | 98, h9 => (by have e9 : (10 : Nat) = k9 := Option.some.inj h9; subst e9; exact (g25_9.1 5 _ rfl)) | 99, h9 => (by have e9 : (15 : Nat) = k9 := Option.some.inj h9; subst e9; exact (g25_9.1 6 _ rfl)) | 100, h9 => (by have e9 : (14 : Nat) = k9 := Option.some.inj h9; subst e9; exact (g25_9.1 7 _ rfl)) | 101, h9 => (by have e9 : (14 : Nat) = k9 := Option.some.inj h9; subst e9; exact (g25_9.1 8 _ rfl)) | 102, h9 => (by have e9 : (5 : Nat) = k9 := Option.some.inj h9; subst e9; exact (g26_9.1 0 _ rfl)) | 103, h9 => (by have e9 : (5 : Nat) = k9 := Option.some.inj h9; subst e9; exact (g27_9.1 0 _ rfl)) | 104, h9 => (by have e9 : (5 : Nat) = k9 := Option.some.inj h9; subst e9; exact (g28_9.1 0 _ rfl)) | 105, h9 => (by have e9 : (5 : Nat) = k9 := Option.some.inj h9; subst e9; exact (g29_9.1 0 _ rfl)) | i9 + 106, h9 => absurd h9 (by simp [s9K]))), (List.forall_mem_cons.mpr ⟨(g0_9.2.1 _ (List.mem_of_getElem? (i := 0) rfl)), (List.forall_mem_cons.mpr ⟨(g0_9.2.1 _ (List.mem_of_getElem? (i := 1) rfl)), (List.forall_mem_cons.mpr ⟨(g1_9.2.1 _ (List.mem_of_getElem? (i := 0) rfl)), (List.forall_mem_cons.mpr ⟨(g1_9.2.1 _ (List.mem_of_getElem? (i := 1) rfl)), (List.forall_mem_cons.mpr ⟨(g1_9.2.1 _ (List.mem_of_getElem? (i := 2) rfl)), (List.forall_mem_cons.mpr ⟨(g1_9.2.1 _ (List.mem_of_getElem? (i := 3) rfl)), (List.forall_mem_cons.mpr ⟨(g1_9.2.1 _ (List.mem_of_getElem? (i := 4) rfl)), (List.forall_mem_cons.mpr ⟨(g1_9.2.1 _ (List.mem_of_getElem? (i := 5) rfl)), (List.forall_mem_cons.mpr ⟨(g1_9.2.1 _ (List.mem_of_getElem? (i := 6) rfl)), (List.forall_mem_cons.mpr ⟨(g2_9.2.1 _ (List.mem_of_getElem? (i := 0) rfl)), (List.forall_mem_cons.mpr ⟨hn_3501, (List.forall_mem_cons.mpr ⟨(g3_9.2.1 _ (List.mem_of_getElem? (i := 0) rfl)), (List.forall_mem_cons.mpr ⟨(g4_9.2.1 _ (List.mem_of_getElem? (i := 0) rfl)), (List.forall_mem_cons.mpr ⟨hn_3504, (List.forall_mem_cons.mpr ⟨hn_3507, (List.forall_mem_cons.mpr ⟨(g5_9.2.1 _ (List.mem_of_getElem? (i := 0) rfl)), (List.forall_mem_cons.mpr ⟨(g5_9.2.1 _ (List.mem_of_getElem? (i := 1) rfl)), (List.forall_mem_cons.mpr ⟨(g5_9.2.1 _ (List.mem_of_getElem? (i := 2) rfl)), (List.forall_mem_cons.mpr ⟨(g5_9.2.1 _ (List.mem_of_getElem? (i := 3) rfl)), (List.forall_mem_cons.mpr ⟨(g5_9.2.1 _ (List.mem_of_getElem? (i := 4) rfl)), (List.forall_mem_cons.mpr ⟨(g6_9.2.1 _ (List.mem_of_getElem? (i := 0) rfl)), (List.forall_mem_cons.mpr ⟨(g6_9.2.1 _ (List.mem_of_getElem? (i := 1) rfl)), (List.forall_mem_cons.mpr ⟨(g6_9.2.1 _ (List.mem_of_getElem? (i := 2) rfl)), (List.forall_mem_cons.mpr ⟨(g6_9.2.1 _ (List.mem_of_getElem? (i := 3) rfl)), (List.forall_mem_cons.mpr ⟨(g6_9.2.1 _ (List.mem_of_getElem? (i := 4) rfl)), (List.forall_mem_cons.mpr ⟨hn_3512, (List.forall_mem_cons.mpr ⟨hn_3515, (List.forall_mem_cons.mpr ⟨hn_3518, (List.forall_mem_cons.mpr ⟨(g7_9.2.1 _ (List.mem_of_getElem? (i := 0) rfl)), (List.forall_mem_cons.mpr ⟨(g8_9.2.1 _ (List.mem_of_getElem? (i := 0) rfl)), (List.forall_mem_cons.mpr ⟨(g9_9.2.1 _ (List.mem_of_getElem? (i := 0) rfl)), (List.forall_mem_cons.mpr ⟨(g10_9.2.1 _ (List.mem_of_getElem? (i := 0) rfl)), (List.forall_mem_cons.mpr ⟨(g11_9.2.1 _ (List.mem_of_getElem? (i := 0) rfl)), (List.forall_mem_cons.mpr ⟨(g12_9.2.1 _ (List.mem_of_getElem? (i := 0) rfl)), (List.forall_mem_cons.mpr ⟨(g13_9.2.1 _ (List.mem_of_getElem? (i := 0) rfl)), (List.forall_mem_cons.mpr ⟨(g14_9.2.1 _ (List.mem_of_getElem? (i := 0) rfl)), (List.forall_mem_cons.mpr ⟨(g15_9.2.1 _ (List.mem_of_getElem? (i := 0) rfl)), (List.forall_mem_cons.mpr ⟨(g16_9.2.1 _ (List.mem_of_getElem? (i := 0) rfl)), (List.forall_mem_cons.mpr ⟨(g17_9.2.1 _ (List.mem_of_getElem? (i := 0) rfl)), (List.forall_mem_cons.mpr ⟨(g18_9.2.1 _ (List.mem_of_getElem? (i := 0) rfl)), (List.forall_mem_cons.mpr ⟨(g19_9.2.1 _ (List.mem_of_getElem? (i := 0) rfl)), (List.forall_mem_cons.mpr ⟨(g20_9.2.1 _ (List.mem_of_getElem? (i := 0) rfl)), (List.forall_mem_cons.mpr ⟨(g21_9.2.1 _ (List.mem_of_getElem? (i := 0) rfl)), (List.forall_mem_cons.mpr ⟨(g22_9.2.1 _ (List.mem_of_getElem? (i := 0) rfl)), (List.forall_mem_cons.mpr ⟨(g23_9.2.1 _ (List.mem_of_getElem? (i := 0) rfl)), (List.forall_mem_cons.mpr ⟨(g23_9.2.1 _ (List.mem_of_getElem? (i := 1) rfl)), (List.forall_mem_cons.mpr ⟨(g23_9.2.1 _ (List.mem_of_getElem? (i := 2) rfl)), (List.forall_mem_cons.mpr ⟨(g23_9.2.1 _ (List.mem_of_getElem? (i := 3) rfl)), (List.forall_mem_cons.mpr ⟨(g23_9.2.1 _ (List.mem_of_getElem? (i := 4) rfl)), (List.forall_mem_cons.mpr ⟨(g24_9.2.1 _ (List.mem_of_getElem? (i := 0) rfl)), (List.forall_mem_cons.mpr ⟨(g24_9.2.1 _ (List.mem_of_getElem? (i := 1) rfl)), (List.forall_mem_cons.mpr ⟨(g24_9.2.1 _ (List.mem_of_getElem? (i := 2) rfl)), (List.forall_mem_cons.mpr ⟨(g24_9.2.1 _ (List.mem_of_getElem? (i := 3) rfl)), (List.forall_mem_cons.mpr ⟨(g24_9.2.1 _ (List.mem_of_getElem? (i := 4) rfl)), (List.forall_mem_cons.mpr ⟨(g25_9.2.1 _ (List.mem_of_getElem? (i := 0) rfl)), (List.forall_mem_cons.mpr ⟨(g25_9.2.1 _ (List.mem_of_getElem? (i := 1) rfl)), (List.forall_mem_cons.mpr ⟨(g25_9.2.1 _ (List.mem_of_getElem? (i := 2) rfl)), (List.forall_mem_cons.mpr ⟨(g25_9.2.1 _ (List.mem_of_getElem? (i := 3) rfl)), (List.forall_mem_cons.mpr ⟨(g25_9.2.1 _ (List.mem_of_getElem? (i := 4) rfl)), (fun _ h9 => absurd h9 List.not_mem_nil)⟩)⟩)⟩)⟩)⟩)⟩)⟩)⟩)⟩)⟩)⟩)⟩)⟩)⟩)⟩)⟩)⟩)⟩)⟩)⟩)⟩)⟩)⟩)⟩)⟩)⟩)⟩)⟩)⟩)⟩)⟩)⟩)⟩)⟩)⟩)⟩)⟩)⟩)⟩)⟩)⟩)⟩)⟩)⟩)⟩)⟩)⟩)⟩)⟩)⟩)⟩)⟩)⟩)⟩)⟩)⟩)⟩)⟩)⟩), (List.forall_mem_cons.mpr ⟨(rd_sRf (S := S_3488) (g := 913) (a := h) (v := (some q_3482)) (by decide) hv_3520), (List.forall_mem_cons.mpr ⟨(g0_9.2.2.1 _ (List.mem_of_getElem? (i := 0) rfl)), (List.forall_mem_cons.mpr ⟨(g0_9.2.2.1 _ (List.mem_of_getElem? (i := 1) rfl)), (List.forall_mem_cons.mpr ⟨(rd_sRf (S := S_3488) (g := 913) (a := h) (v := (some q_3482)) (by decide) hv_3521), (List.forall_mem_cons.mpr ⟨(g1_9.2.2.1 _ (List.mem_of_getElem? (i := 0) rfl)), (List.forall_mem_cons.mpr ⟨(g1_9.2.2.1 _ (List.mem_of_getElem? (i := 1) rfl)), (List.forall_mem_cons.mpr ⟨(g1_9.2.2.1 _ (List.mem_of_getElem? (i := 2) rfl)), (List.forall_mem_cons.mpr ⟨(g1_9.2.2.1 _ (List.mem_of_getElem? (i := 3) rfl)), (List.forall_mem_cons.mpr ⟨(g1_9.2.2.1 _ (List.mem_of_getElem? (i := 4) rfl)), (List.forall_mem_cons.mpr ⟨(g1_9.2.2.1 _ (List.mem_of_getElem? (i := 5) rfl)), (List.forall_mem_cons.mpr ⟨(g1_9.2.2.1 _ (List.mem_of_getElem? (i := 6) rfl)), (List.forall_mem_cons.mpr ⟨(g1_9.2.2.1 _ (List.mem_of_getElem? (i := 7) rfl)), (List.forall_mem_cons.mpr ⟨(rd_sRf (S := S_3488) (g := 913) (a := h) (v := (some q_3482)) (by decide) hv_3522), (List.forall_mem_cons.mpr ⟨(g2_9.2.2.1 _ (List.mem_of_getElem? (i := 0) rfl)), (List.forall_mem_cons.mpr ⟨(rd_sRf (S := S_3488) (g := 913) (a := h) (v := (some q_3482)) (by decide) hv_3523), (List.forall_mem_cons.mpr ⟨(rd_sRf (S := S_3488) (g := 913) (a := h) (v := (some q_3482)) (by decide) hv_3524), (List.forall_mem_cons.mpr ⟨(g3_9.2.2.1 _ (List.mem_of_getElem? (i := 0) rfl)), (List.forall_mem_cons.mpr ⟨(rd_sRf (S := S_3488) (g := 913) (a := h) (v := (some q_3482)) (by decide) hv_3525), (List.forall_mem_cons.mpr ⟨(g4_9.2.2.1 _ (List.mem_of_getElem? (i := 0) rfl)), (List.forall_mem_cons.mpr ⟨(rd_sRf (S := S_3488) (g := 913) (a := h) (v := (some q_3482)) (by decide) hv_3526), (List.forall_mem_cons.mpr ⟨(rd_sRf (S := S_3488) (g := 913) (a := h) (v := (some q_3482)) (by decide) hv_3527), (List.forall_mem_cons.mpr ⟨(rd_sRf (S := S_3488) (g := 913) (a := h) (v := (some q_3482)) (by decide) hv_3528), (List.forall_mem_cons.mpr ⟨(g5_9.2.2.1 _ (List.mem_of_getElem? (i := 0) rfl)), (List.forall_mem_cons.mpr ⟨(g5_9.2.2.1 _ (List.mem_of_getElem? (i := 1) rfl)), (List.forall_mem_cons.mpr ⟨(g5_9.2.2.1 _ (List.mem_of_getElem? (i := 2) rfl)), (List.forall_mem_cons.mpr ⟨(g5_9.2.2.1 _ (List.mem_of_getElem? (i := 3) rfl)), (List.forall_mem_cons.mpr ⟨(g5_9.2.2.1 _ (List.mem_of_getElem? (i := 4) rfl)), (List.forall_mem_cons.mpr ⟨(g5_9.2.2.1 _ (List.mem_of_getElem? (i := 5) rfl)), (List.forall_mem_cons.mpr ⟨(g5_9.2.2.1 _ (List.mem_of_getElem? (i := 6) rfl)), (List.forall_mem_cons.mpr ⟨(g5_9.2.2.1 _ (List.mem_of_getElem? (i := 7) rfl)), (List.forall_mem_cons.mpr ⟨(rd_sRf (S := S_3488) (g := 913) (a := h) (v := (some q_3482)) (by decide) hv_3529), (List.forall_mem_cons.mpr ⟨(g6_9.2.2.1 _ (List.mem_of_getElem? (i := 0) rfl)), (List.forall_mem_cons.mpr ⟨(g6_9.2.2.1 _ (List.mem_of_getElem? (i := 1) rfl)), (List.forall_mem_cons.mpr ⟨(g6_9.2.2.1 _ (List.mem_of_getElem? (i := 2) rfl)), (List.forall_mem_cons.mpr ⟨(g6_9.2.2.1 _ (List.mem_of_getElem? (i := 3) rfl)), (List.forall_mem_cons.mpr ⟨(g6_9.2.2.1 _ (List.mem_of_getElem? (i := 4) rfl)), (List.forall_mem_cons.mpr ⟨(g6_9.2.2.1 _ (List.mem_of_getElem? (i := 5) rfl)), (List.forall_mem_cons.mpr ⟨(g6_9.2.2.1 _ (List.mem_of_getElem? (i := 6) rfl)), (List.forall_mem_cons.mpr ⟨(g6_9.2.2.1 _ (List.mem_of_getElem? (i := 7) rfl)), (List.forall_mem_cons.mpr ⟨(rd_sRf (S := S_3488) (g := 913) (a := h) (v := (some q_3482)) (by decide) hv_3530), (List.forall_mem_cons.mpr ⟨(rd_sRf (S := S_3488) (g := 913) (a := h) (v := (some q_3482)) (by decide) hv_3531), (List.forall_mem_cons.mpr ⟨(rd_sRf (S := S_3488) (g := 913) (a := h) (v := (some q_3482)) (by decide) hv_3532), (List.forall_mem_cons.mpr ⟨(g7_9.2.2.1 _ (List.mem_of_getElem? (i := 0) rfl)), (List.forall_mem_cons.mpr ⟨(g8_9.2.2.1 _ (List.mem_of_getElem? (i := 0) rfl)), (List.forall_mem_cons.mpr ⟨(g9_9.2.2.1 _ (List.mem_of_getElem? (i := 0) rfl)), (List.forall_mem_cons.mpr ⟨(g10_9.2.2.1 _ (List.mem_of_getElem? (i := 0) rfl)), (List.forall_mem_cons.mpr ⟨(g11_9.2.2.1 _ (List.mem_of_getElem? (i := 0) rfl)), (List.forall_mem_cons.mpr ⟨(g12_9.2.2.1 _ (List.mem_of_getElem? (i := 0) rfl)), (List.forall_mem_cons.mpr ⟨(g13_9.2.2.1 _ (List.mem_of_getElem? (i := 0) rfl)), (List.forall_mem_cons.mpr ⟨(g14_9.2.2.1 _ (List.mem_of_getElem? (i := 0) rfl)), (List.forall_mem_cons.mpr ⟨(g15_9.2.2.1 _ (List.mem_of_getElem? (i := 0) rfl)), (List.forall_mem_cons.mpr ⟨(g16_9.2.2.1 _ (List.mem_of_getElem? (i := 0) rfl)), (List.forall_mem_cons.mpr ⟨(g17_9.2.2.1 _ (List.mem_of_getElem? (i := 0) rfl)), (List.forall_mem_cons.mpr ⟨(g18_9.2.2.1 _ (List.mem_of_getElem? (i := 0) rfl)), (List.forall_mem_cons.mpr ⟨(g19_9.2.2.1 _ (List.mem_of_getElem? (i := 0) rfl)), (List.forall_mem_cons.mpr ⟨(g20_9.2.2.1 _ (List.mem_of_getElem? (i := 0) rfl)), (List.forall_mem_cons.mpr ⟨(g21_9.2.2.1 _ (List.mem_of_getElem? (i := 0) rfl)), (List.forall_mem_cons.mpr ⟨(g22_9.2.2.1 _ (List.mem_of_getElem? (i := 0) rfl)), (List.forall_mem_cons.mpr ⟨(g23_9.2.2.1 _ (List.mem_of_getElem? (i := 0) rfl)), (List.forall_mem_cons.mpr ⟨(g23_9.2.2.1 _ (List.mem_of_getElem? (i := 1) rfl)), (List.forall_mem_cons.mpr ⟨(g23_9.2.2.1 _ (List.mem_of_getElem? (i := 2) rfl)), (List.forall_mem_cons.mpr ⟨(g23_9.2.2.1 _ (List.mem_of_getElem? (i := 3) rfl)), (List.forall_mem_cons.mpr ⟨(g23_9.2.2.1 _ (List.mem_of_getElem? (i := 4) rfl)), (List.forall_mem_cons.mpr ⟨(g23_9.2.2.1 _ (List.mem_of_getElem? (i := 5) rfl)), (List.forall_mem_cons.mpr ⟨(g23_9.2.2.1 _ (List.mem_of_getElem? (i := 6) rfl)), (List.forall_mem_cons.mpr ⟨(g23_9.2.2.1 _ (List.mem_of_getElem? (i := 7) rfl)), (List.forall_mem_cons.mpr ⟨(g24_9.2.2.1 _ (List.mem_of_getElem? (i := 0) rfl)), (List.forall_mem_cons.mpr ⟨(g24_9.2.2.1 _ (List.mem_of_getElem? (i := 1) rfl)), (List.forall_mem_cons.mpr ⟨(g24_9.2.2.1 _ (List.mem_of_getElem? (i := 2) rfl)), (List.forall_mem_cons.mpr ⟨(g24_9.2.2.1 _ (List.mem_of_getElem? (i := 3) rfl)), (List.forall_mem_cons.mpr ⟨(g24_9.2.2.1 _ (List.mem_of_getElem? (i := 4) rfl)), (List.forall_mem_cons.mpr ⟨(g24_9.2.2.1 _ (List.mem_of_getElem? (i := 5) rfl)), (List.forall_mem_cons.mpr ⟨(g24_9.2.2.1 _ (List.mem_of_getElem? (i := 6) rfl)), (List.forall_mem_cons.mpr ⟨(g24_9.2.2.1 _ (List.mem_of_getElem? (i := 7) rfl)), (List.forall_mem_cons.mpr ⟨(g25_9.2.2.1 _ (List.mem_of_getElem? (i := 0) rfl)), (List.forall_mem_cons.mpr ⟨(g25_9.2.2.1 _ (List.mem_of_getElem? (i := 1) rfl)), (List.forall_mem_cons.mpr ⟨(g25_9.2.2.1 _ (List.mem_of_getElem? (i := 2) rfl)), (List.forall_mem_cons.mpr ⟨(g25_9.2.2.1 _ (List.mem_of_getElem? (i := 3) rfl)), (List.forall_mem_cons.mpr ⟨(g25_9.2.2.1 _ (List.mem_of_getElem? (i := 4) rfl)), (List.forall_mem_cons.mpr ⟨(g25_9.2.2.1 _ (List.mem_of_getElem? (i := 5) rfl)), (List.forall_mem_cons.mpr ⟨(g25_9.2.2.1 _ (List.mem_of_getElem? (i := 6) rfl)), (List.forall_mem_cons.mpr ⟨(g25_9.2.2.1 _ (List.mem_of_getElem? (i := 7) rfl)), (fun _ h9 => absurd h9 List.not_mem_nil)⟩)⟩)⟩)⟩)⟩)⟩)⟩)⟩)⟩)⟩)⟩)⟩)⟩)⟩)⟩)⟩)⟩)⟩)⟩)⟩)⟩)⟩)⟩)⟩)⟩)⟩)⟩)⟩)⟩)⟩)⟩)⟩)⟩)⟩)⟩)⟩)⟩)⟩)⟩)⟩)⟩)⟩)⟩)⟩)⟩)⟩)⟩)⟩)⟩)⟩)⟩)⟩)⟩)⟩)⟩)⟩)⟩)⟩)⟩)⟩)⟩)⟩)⟩)⟩)⟩)⟩)⟩)⟩)⟩)⟩)⟩)⟩)⟩)⟩)⟩)⟩)⟩)⟩)⟩)⟩)⟩)⟩), (List.forall_mem_cons.mpr ⟨(el_159 0 _ rfl), (List.forall_mem_cons.mpr ⟨(el_159 1 _ rfl), (List.forall_mem_cons.mpr ⟨(el_159 2 _ rfl), (List.forall_mem_cons.mpr ⟨(el_159 3 _ rfl), (List.forall_mem_cons.mpr ⟨(el_159 4 _ rfl), (List.forall_mem_cons.mpr ⟨(el_159 5 _ rfl), (List.forall_mem_cons.mpr ⟨(el_159 6 _ rfl), (List.forall_mem_cons.mpr ⟨(el_159 7 _ rfl), (List.forall_mem_cons.mpr ⟨(el_159 8 _ rfl), (List.forall_mem_cons.mpr ⟨(el_159 9 _ rfl), (List.forall_mem_cons.mpr ⟨(el_159 10 _ rfl), (List.forall_mem_cons.mpr ⟨(el_159 11 _ rfl), (List.forall_mem_cons.mpr ⟨(el_159 12 _ rfl), (List.forall_mem_cons.mpr ⟨(el_159 13 _ rfl), (List.forall_mem_cons.mpr ⟨(el_159 14 _ rfl), (List.forall_mem_cons.mpr ⟨(el_159 15 _ rfl), (List.forall_mem_cons.mpr ⟨(el_409 0 _ rfl), (List.forall_mem_cons.mpr ⟨(el_409 1 _ rfl), (List.forall_mem_cons.mpr ⟨(el_409 2 _ rfl), (List.forall_mem_cons.mpr ⟨(el_419 0 _ rfl), (List.forall_mem_cons.mpr ⟨(el_419 1 _ rfl), (List.forall_mem_cons.mpr ⟨(el_419 2 _ rfl), (List.forall_mem_cons.mpr ⟨(el_419 3 _ rfl), (fun _ h9 => absurd h9 List.not_mem_nil)⟩)⟩)⟩)⟩)⟩)⟩)⟩)⟩)⟩)⟩)⟩)⟩)⟩)⟩)⟩)⟩)⟩)⟩)⟩)⟩)⟩)⟩)⟩)⟩
  exact j_vret C M dX9_init_237 (Nat.le_of_ble_eq_true rfl) (Nat.le_of_ble_eq_true rfl) ⟨rfl, (hf_3533.sR _ (fun _ => rfl)), (rd_sRf (S := S_3488) (g := 913) (a := h) (v := (some q_3482)) (by decide) hv_3519), [q_1, q_5, q_6, q_37, q_43, q_44, q_45, q_46, q_47, q_48, q_49, q_50, q_118, q_124, q_149, q_169, q_174, q_206, q_212, q_244, q_271, q_302, q_307, q_308, q_309, q_310, q_311, q_312, q_313, q_314, q_395, q_401, q_402, q_403, q_404, q_405, q_406, q_407, q_408, q_490, q_529, q_572, q_621, q_626, q_740, q_745, q_860, q_865, q_980, q_985, q_1100, q_1105, q_1220, q_1225, q_1340, q_1345, q_1460, q_1465, q_1580, q_1585, q_1700, q_1705, q_1820, q_1825, q_1940, q_1945, q_2060, q_2065, q_2180, q_2185, q_2300, q_2305, q_2420, q_2425, q_2540, q_2545, q_2546, q_2547, q_2548, q_2549, q_2550, q_2551, q_2552, q_2707, q_2712, q_2713, q_2714, q_2715, q_2716, q_2717, q_2718, q_2719, q_2875, q_2880, q_2881, q_2882, q_2883, q_2884, q_2885, q_2886, q_2887, q_3043, q_3152, q_3262, q_3372], hWe, rfl, hNe, (g1_9.2.2.2 2 (by decide)), (g1_9.2.2.2 5 (by decide)), (g2_9.2.2.2 1 (by decide)), (g4_9.2.2.2 1 (by decide))⟩
