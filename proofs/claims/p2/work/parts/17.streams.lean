def s9K : List Nat := [9, 0, 14, 14, 2, 8, 14, 14, 14, 17, 14, 14, 14, 8, 14, 20, 10, 15, 8, 14, 13, 14, 1, 7, 14, 4, 14, 10, 15, 14, 14, 1, 7, 14, 4, 14, 10, 15, 14, 14, 18, 19, 14, 10, 15, 10, 15, 10, 15, 10, 15, 10, 15, 10, 15, 10, 15, 10, 15, 10, 15, 10, 15, 10, 15, 10, 15, 10, 15, 10, 15, 10, 15, 10, 15, 1, 7, 14, 4, 14, 10, 15, 14, 14, 1, 7, 14, 4, 14, 10, 15, 14, 14, 1, 7, 14, 4, 14, 10, 15, 14, 14, 5, 5, 5, 5]
def s9N : List (Nat × Nat) := [(2, 20000), (3, 25), (6, 16), (7, 119), (8, 4352), (9, 400), (10, 2470), (11, 15808), (12, 8), (14, 16), (15, 16), (17, 16), (19, 16), (20, 24000), (21, 16), (24, 40), (26, 20), (28, 16), (29, 8), (30, 8), (33, 40), (35, 20), (37, 16), (38, 8), (39, 8), (40, 3), (41, 4), (42, 12), (44, 16), (46, 16), (48, 16), (50, 16), (52, 16), (54, 16), (56, 16), (58, 16), (60, 16), (62, 16), (64, 16), (66, 16), (68, 16), (70, 16), (72, 16), (74, 16), (77, 40), (79, 20), (81, 16), (82, 8), (83, 8), (86, 40), (88, 20), (90, 16), (91, 8), (92, 8), (95, 40), (97, 20), (99, 16), (100, 8), (101, 8)]
def s9P : List (Nat × Nat × Nat) := [(901, 0, 1), (0, 1, 2), (1, 1, 3), (902, 0, 4), (200, 4, 5), (800, 5, 6), (201, 4, 7), (202, 4, 8), (203, 4, 9), (204, 4, 10), (205, 4, 11), (207, 4, 12), (903, 0, 13), (800, 13, 14), (904, 0, 15), (905, 0, 16), (1003, 16, 17), (906, 0, 18), (800, 18, 19), (907, 0, 20), (908, 0, 21), (909, 0, 22), (100, 22, 23), (712, 23, 24), (101, 22, 25), (407, 25, 26), (102, 22, 27), (1003, 27, 28), (103, 22, 29), (104, 22, 30), (910, 0, 31), (100, 31, 32), (712, 32, 33), (101, 31, 34), (407, 34, 35), (102, 31, 36), (1003, 36, 37), (103, 31, 38), (104, 31, 39), (911, 0, 40), (912, 0, 41), (917, 0, 42), (1003, 43, 44), (1003, 45, 46), (1003, 47, 48), (1003, 49, 50), (1003, 51, 52), (1003, 53, 54), (1003, 55, 56), (1003, 57, 58), (1003, 59, 60), (1003, 61, 62), (1003, 63, 64), (1003, 65, 66), (1003, 67, 68), (1003, 69, 70), (1003, 71, 72), (1003, 73, 74), (100, 75, 76), (712, 76, 77), (101, 75, 78), (407, 78, 79), (102, 75, 80), (1003, 80, 81), (103, 75, 82), (104, 75, 83), (100, 84, 85), (712, 85, 86), (101, 84, 87), (407, 87, 88), (102, 84, 89), (1003, 89, 90), (103, 84, 91), (104, 84, 92), (100, 93, 94), (712, 94, 95), (101, 93, 96), (407, 96, 97), (102, 93, 98), (1003, 98, 99), (103, 93, 100), (104, 93, 101)]
def s9Q : List (Nat × Nat × Nat) := [(15, 0, 43), (15, 1, 45), (15, 2, 47), (15, 3, 49), (15, 4, 51), (15, 5, 53), (15, 6, 55), (15, 7, 57), (15, 8, 59), (15, 9, 61), (15, 10, 63), (15, 11, 65), (15, 12, 67), (15, 13, 69), (15, 14, 71), (15, 15, 73), (40, 0, 75), (40, 1, 84), (40, 2, 93), (41, 0, 102), (41, 1, 103), (41, 2, 104), (41, 3, 105)]

theorem dX9_init_0 : decode cX9_init 0 = .ok (.aload_n 0, 1) := by decide +kernel
theorem dX9_init_1 : decode cX9_init 1 = .ok (.invokespecial 3, 3) := by decide +kernel
theorem dX9_init_4 : decode cX9_init 4 = .ok (.aload_n 0, 1) := by decide +kernel
theorem dX9_init_5 : decode cX9_init 5 = .ok (.new 9, 3) := by decide +kernel
theorem dX9_init_8 : decode cX9_init 8 = .ok (.dup, 1) := by decide +kernel
theorem dX9_init_9 : decode cX9_init 9 = .ok (.invokespecial 11, 3) := by decide +kernel
theorem dX9_init_12 : decode cX9_init 12 = .ok (.putfield 12, 3) := by decide +kernel
theorem dX9_init_15 : decode cX9_init 15 = .ok (.aload_n 0, 1) := by decide +kernel
theorem dX9_init_16 : decode cX9_init 16 = .ok (.new 18, 3) := by decide +kernel
theorem dX9_init_19 : decode cX9_init 19 = .ok (.dup, 1) := by decide +kernel
theorem dX9_init_20 : decode cX9_init 20 = .ok (.invokespecial 20, 3) := by decide +kernel
theorem dX9_init_23 : decode cX9_init 23 = .ok (.putfield 21, 3) := by decide +kernel
theorem dX9_init_26 : decode cX9_init 26 = .ok (.aload_n 0, 1) := by decide +kernel
theorem dX9_init_27 : decode cX9_init 27 = .ok (.new 25, 3) := by decide +kernel
theorem dX9_init_30 : decode cX9_init 30 = .ok (.dup, 1) := by decide +kernel
theorem dX9_init_31 : decode cX9_init 31 = .ok (.invokespecial 27, 3) := by decide +kernel
theorem dX9_init_34 : decode cX9_init 34 = .ok (.putfield 28, 3) := by decide +kernel
theorem dX9_init_37 : decode cX9_init 37 = .ok (.aload_n 0, 1) := by decide +kernel
theorem dX9_init_38 : decode cX9_init 38 = .ok (.bipush 16, 2) := by decide +kernel
theorem dX9_init_40 : decode cX9_init 40 = .ok (.anewarray 32, 3) := by decide +kernel
theorem dX9_init_43 : decode cX9_init 43 = .ok (.putfield 34, 3) := by decide +kernel
theorem dX9_init_46 : decode cX9_init 46 = .ok (.aload_n 0, 1) := by decide +kernel
theorem dX9_init_47 : decode cX9_init 47 = .ok (.new 32, 3) := by decide +kernel
theorem dX9_init_50 : decode cX9_init 50 = .ok (.dup, 1) := by decide +kernel
theorem dX9_init_51 : decode cX9_init 51 = .ok (.invokespecial 38, 3) := by decide +kernel
theorem dX9_init_54 : decode cX9_init 54 = .ok (.putfield 39, 3) := by decide +kernel
theorem dX9_init_57 : decode cX9_init 57 = .ok (.aload_n 0, 1) := by decide +kernel
theorem dX9_init_58 : decode cX9_init 58 = .ok (.new 25, 3) := by decide +kernel
theorem dX9_init_61 : decode cX9_init 61 = .ok (.dup, 1) := by decide +kernel
theorem dX9_init_62 : decode cX9_init 62 = .ok (.invokespecial 27, 3) := by decide +kernel
theorem dX9_init_65 : decode cX9_init 65 = .ok (.putfield 43, 3) := by decide +kernel
theorem dX9_init_68 : decode cX9_init 68 = .ok (.aload_n 0, 1) := by decide +kernel
theorem dX9_init_69 : decode cX9_init 69 = .ok (.sipush 24000, 3) := by decide +kernel
theorem dX9_init_72 : decode cX9_init 72 = .ok (.newarray .byte, 2) := by decide +kernel
theorem dX9_init_74 : decode cX9_init 74 = .ok (.putfield 46, 3) := by decide +kernel
theorem dX9_init_77 : decode cX9_init 77 = .ok (.aload_n 0, 1) := by decide +kernel
theorem dX9_init_78 : decode cX9_init 78 = .ok (.bipush 16, 2) := by decide +kernel
theorem dX9_init_80 : decode cX9_init 80 = .ok (.newarray .int, 2) := by decide +kernel
theorem dX9_init_82 : decode cX9_init 82 = .ok (.putfield 50, 3) := by decide +kernel
theorem dX9_init_85 : decode cX9_init 85 = .ok (.aload_n 0, 1) := by decide +kernel
theorem dX9_init_86 : decode cX9_init 86 = .ok (.new 54, 3) := by decide +kernel
theorem dX9_init_89 : decode cX9_init 89 = .ok (.dup, 1) := by decide +kernel
theorem dX9_init_90 : decode cX9_init 90 = .ok (.invokespecial 56, 3) := by decide +kernel
theorem dX9_init_93 : decode cX9_init 93 = .ok (.putfield 57, 3) := by decide +kernel
theorem dX9_init_96 : decode cX9_init 96 = .ok (.aload_n 0, 1) := by decide +kernel
theorem dX9_init_97 : decode cX9_init 97 = .ok (.new 54, 3) := by decide +kernel
theorem dX9_init_100 : decode cX9_init 100 = .ok (.dup, 1) := by decide +kernel
theorem dX9_init_101 : decode cX9_init 101 = .ok (.invokespecial 56, 3) := by decide +kernel
theorem dX9_init_104 : decode cX9_init 104 = .ok (.putfield 61, 3) := by decide +kernel
theorem dX9_init_107 : decode cX9_init 107 = .ok (.aload_n 0, 1) := by decide +kernel
theorem dX9_init_108 : decode cX9_init 108 = .ok (.iconst 3, 1) := by decide +kernel
theorem dX9_init_109 : decode cX9_init 109 = .ok (.anewarray 54, 3) := by decide +kernel
theorem dX9_init_112 : decode cX9_init 112 = .ok (.putfield 64, 3) := by decide +kernel
theorem dX9_init_115 : decode cX9_init 115 = .ok (.aload_n 0, 1) := by decide +kernel
theorem dX9_init_116 : decode cX9_init 116 = .ok (.iconst 4, 1) := by decide +kernel
theorem dX9_init_117 : decode cX9_init 117 = .ok (.anewarray 68, 3) := by decide +kernel
theorem dX9_init_120 : decode cX9_init 120 = .ok (.putfield 70, 3) := by decide +kernel
theorem dX9_init_123 : decode cX9_init 123 = .ok (.aload_n 0, 1) := by decide +kernel
theorem dX9_init_124 : decode cX9_init 124 = .ok (.bipush 12, 2) := by decide +kernel
theorem dX9_init_126 : decode cX9_init 126 = .ok (.newarray .int, 2) := by decide +kernel
theorem dX9_init_128 : decode cX9_init 128 = .ok (.putfield 74, 3) := by decide +kernel
theorem dX9_init_131 : decode cX9_init 131 = .ok (.aload_n 0, 1) := by decide +kernel
theorem dX9_init_132 : decode cX9_init 132 = .ok (.aload_n 1, 1) := by decide +kernel
theorem dX9_init_133 : decode cX9_init 133 = .ok (.putfield 77, 3) := by decide +kernel
theorem dX9_init_136 : decode cX9_init 136 = .ok (.iconst 0, 1) := by decide +kernel
theorem dX9_init_137 : decode cX9_init 137 = .ok (.istore_n 2, 1) := by decide +kernel
theorem dX9_init_138 : decode cX9_init 138 = .ok (.iload_n 2, 1) := by decide +kernel
theorem dX9_init_139 : decode cX9_init 139 = .ok (.aload_n 0, 1) := by decide +kernel
theorem dX9_init_140 : decode cX9_init 140 = .ok (.getfield 34, 3) := by decide +kernel
theorem dX9_init_143 : decode cX9_init 143 = .ok (.arraylength, 1) := by decide +kernel
theorem dX9_init_144 : decode cX9_init 144 = .ok (.if_icmp .ge 22, 3) := by decide +kernel
theorem dX9_init_147 : decode cX9_init 147 = .ok (.aload_n 0, 1) := by decide +kernel
theorem dX9_init_148 : decode cX9_init 148 = .ok (.getfield 34, 3) := by decide +kernel
theorem dX9_init_151 : decode cX9_init 151 = .ok (.iload_n 2, 1) := by decide +kernel
theorem dX9_init_152 : decode cX9_init 152 = .ok (.new 32, 3) := by decide +kernel
theorem dX9_init_155 : decode cX9_init 155 = .ok (.dup, 1) := by decide +kernel
theorem dX9_init_156 : decode cX9_init 156 = .ok (.invokespecial 38, 3) := by decide +kernel
theorem dX9_init_159 : decode cX9_init 159 = .ok (.aastore, 1) := by decide +kernel
theorem dX9_init_160 : decode cX9_init 160 = .ok (.iinc 2 1, 3) := by decide +kernel
theorem dX9_init_163 : decode cX9_init 163 = .ok (.goto (-25), 3) := by decide +kernel
theorem dX9_init_166 : decode cX9_init 166 = .ok (.iconst 0, 1) := by decide +kernel
theorem dX9_init_167 : decode cX9_init 167 = .ok (.istore_n 2, 1) := by decide +kernel
theorem dX9_init_168 : decode cX9_init 168 = .ok (.iload_n 2, 1) := by decide +kernel
theorem dX9_init_169 : decode cX9_init 169 = .ok (.aload_n 0, 1) := by decide +kernel
theorem dX9_init_170 : decode cX9_init 170 = .ok (.getfield 64, 3) := by decide +kernel
theorem dX9_init_173 : decode cX9_init 173 = .ok (.arraylength, 1) := by decide +kernel
theorem dX9_init_174 : decode cX9_init 174 = .ok (.if_icmp .ge 22, 3) := by decide +kernel
theorem dX9_init_177 : decode cX9_init 177 = .ok (.aload_n 0, 1) := by decide +kernel
theorem dX9_init_178 : decode cX9_init 178 = .ok (.getfield 64, 3) := by decide +kernel
theorem dX9_init_181 : decode cX9_init 181 = .ok (.iload_n 2, 1) := by decide +kernel
theorem dX9_init_182 : decode cX9_init 182 = .ok (.new 54, 3) := by decide +kernel
theorem dX9_init_185 : decode cX9_init 185 = .ok (.dup, 1) := by decide +kernel
theorem dX9_init_186 : decode cX9_init 186 = .ok (.invokespecial 56, 3) := by decide +kernel
theorem dX9_init_189 : decode cX9_init 189 = .ok (.aastore, 1) := by decide +kernel
theorem dX9_init_190 : decode cX9_init 190 = .ok (.iinc 2 1, 3) := by decide +kernel
theorem dX9_init_193 : decode cX9_init 193 = .ok (.goto (-25), 3) := by decide +kernel
theorem dX9_init_196 : decode cX9_init 196 = .ok (.iconst 0, 1) := by decide +kernel
theorem dX9_init_197 : decode cX9_init 197 = .ok (.istore_n 2, 1) := by decide +kernel
theorem dX9_init_198 : decode cX9_init 198 = .ok (.iload_n 2, 1) := by decide +kernel
theorem dX9_init_199 : decode cX9_init 199 = .ok (.aload_n 0, 1) := by decide +kernel
theorem dX9_init_200 : decode cX9_init 200 = .ok (.getfield 70, 3) := by decide +kernel
theorem dX9_init_203 : decode cX9_init 203 = .ok (.arraylength, 1) := by decide +kernel
theorem dX9_init_204 : decode cX9_init 204 = .ok (.if_icmp .ge 22, 3) := by decide +kernel
theorem dX9_init_207 : decode cX9_init 207 = .ok (.aload_n 0, 1) := by decide +kernel
theorem dX9_init_208 : decode cX9_init 208 = .ok (.getfield 70, 3) := by decide +kernel
theorem dX9_init_211 : decode cX9_init 211 = .ok (.iload_n 2, 1) := by decide +kernel
theorem dX9_init_212 : decode cX9_init 212 = .ok (.new 68, 3) := by decide +kernel
theorem dX9_init_215 : decode cX9_init 215 = .ok (.dup, 1) := by decide +kernel
theorem dX9_init_216 : decode cX9_init 216 = .ok (.invokespecial 81, 3) := by decide +kernel
theorem dX9_init_219 : decode cX9_init 219 = .ok (.aastore, 1) := by decide +kernel
theorem dX9_init_220 : decode cX9_init 220 = .ok (.iinc 2 1, 3) := by decide +kernel
theorem dX9_init_223 : decode cX9_init 223 = .ok (.goto (-25), 3) := by decide +kernel
theorem dX9_init_226 : decode cX9_init 226 = .ok (.aload_n 0, 1) := by decide +kernel
theorem dX9_init_227 : decode cX9_init 227 = .ok (.new 68, 3) := by decide +kernel
theorem dX9_init_230 : decode cX9_init 230 = .ok (.dup, 1) := by decide +kernel
theorem dX9_init_231 : decode cX9_init 231 = .ok (.invokespecial 81, 3) := by decide +kernel
theorem dX9_init_234 : decode cX9_init 234 = .ok (.putfield 82, 3) := by decide +kernel
theorem dX9_init_237 : decode cX9_init 237 = .ok (.return_, 1) := by decide +kernel

set_option maxHeartbeats 20000000 in
set_option maxRecDepth 100000 in
theorem wt9_mk {S : Hp} {h q_1 q_5 q_6 q_41 q_47 q_48 q_49 q_50 q_51 q_52 q_53 q_54 q_126 q_132 q_161 q_183 q_188 q_224 q_230 q_266 q_295 q_328 q_333 q_334 q_335 q_336 q_337 q_338 q_339 q_340 q_425 q_431 q_432 q_433 q_434 q_435 q_436 q_437 q_438 q_524 q_565 q_610 q_661 q_666 q_784 q_789 q_914 q_919 q_1038 q_1043 q_1162 q_1167 q_1292 q_1297 q_1416 q_1421 q_1540 q_1545 q_1670 q_1675 q_1794 q_1799 q_1918 q_1923 q_2048 q_2053 q_2172 q_2177 q_2296 q_2301 q_2426 q_2431 q_2550 q_2555 q_2680 q_2685 q_2686 q_2687 q_2688 q_2689 q_2690 q_2691 q_2692 q_2857 q_2862 q_2863 q_2864 q_2865 q_2866 q_2867 q_2868 q_2869 q_3035 q_3040 q_3041 q_3042 q_3043 q_3044 q_3045 q_3046 q_3047 q_3219 q_3338 q_3458 q_3578 q_3704 : Nat} (hGe : Gs h [(3, [q_1, q_5, q_6]), (4, [q_41, q_47, q_48, q_49, q_50, q_51, q_52, q_53, q_54]), (0, [q_126, q_132]), (1, [q_183, q_188]), (0, [q_224, q_230]), (2, [q_328, q_333, q_334, q_335, q_336, q_337, q_338, q_339, q_340]), (2, [q_425, q_431, q_432, q_433, q_434, q_435, q_436, q_437, q_438]), (1, [q_661, q_666]), (1, [q_784, q_789]), (1, [q_914, q_919]), (1, [q_1038, q_1043]), (1, [q_1162, q_1167]), (1, [q_1292, q_1297]), (1, [q_1416, q_1421]), (1, [q_1540, q_1545]), (1, [q_1670, q_1675]), (1, [q_1794, q_1799]), (1, [q_1918, q_1923]), (1, [q_2048, q_2053]), (1, [q_2172, q_2177]), (1, [q_2296, q_2301]), (1, [q_2426, q_2431]), (1, [q_2550, q_2555]), (2, [q_2680, q_2685, q_2686, q_2687, q_2688, q_2689, q_2690, q_2691, q_2692]), (2, [q_2857, q_2862, q_2863, q_2864, q_2865, q_2866, q_2867, q_2868, q_2869]), (2, [q_3035, q_3040, q_3041, q_3042, q_3043, q_3044, q_3045, q_3046, q_3047]), (5, [q_3219]), (5, [q_3338]), (5, [q_3458]), (5, [q_3578]), (5, [q_3704])] S) (hm_q_610 : q_610 ∈ hL S) (hk_q_610 : Kd S q_610 14) (hm_q_565 : q_565 ∈ hL S) (hk_q_565 : Kd S q_565 19) (hm_q_524 : q_524 ∈ hL S) (hk_q_524 : Kd S q_524 18) (hm_q_295 : q_295 ∈ hL S) (hk_q_295 : Kd S q_295 14) (hm_q_266 : q_266 ∈ hL S) (hk_q_266 : Kd S q_266 13) (hm_q_161 : q_161 ∈ hL S) (hk_q_161 : Kd S q_161 20) (hm_h : h ∈ hL S) (hk_h : Kd S h 9) (el_q_161 : ELs S q_161 [q_661, q_784, q_914, q_1038, q_1162, q_1292, q_1416, q_1540, q_1670, q_1794, q_1918, q_2048, q_2172, q_2296, q_2426, q_2550]) (el_q_524 : ELs S q_524 [q_2680, q_2857, q_3035]) (el_q_565 : ELs S q_565 [q_3219, q_3338, q_3458, q_3578]) (hn_q_161 : Ln S q_161 16) (hn_q_266 : Ln S q_266 24000) (hn_q_295 : Ln S q_295 16) (hn_q_524 : Ln S q_524 3) (hn_q_565 : Ln S q_565 4) (hn_q_610 : Ln S q_610 12) (hr_901_h : hR S 901 h = (some q_1)) (hr_902_h : hR S 902 h = (some q_41)) (hr_903_h : hR S 903 h = (some q_126)) (hr_904_h : hR S 904 h = (some q_161)) (hr_905_h : hR S 905 h = (some q_183)) (hr_906_h : hR S 906 h = (some q_224)) (hr_907_h : hR S 907 h = (some q_266)) (hr_908_h : hR S 908 h = (some q_295)) (hr_909_h : hR S 909 h = (some q_328)) (hr_910_h : hR S 910 h = (some q_425)) (hr_911_h : hR S 911 h = (some q_524)) (hr_912_h : hR S 912 h = (some q_565)) (hr_917_h : hR S 917 h = (some q_610)) : Wt s9K s9N s9P s9Q (fun i => (h :: [q_1, q_5, q_6, q_41, q_47, q_48, q_49, q_50, q_51, q_52, q_53, q_54, q_126, q_132, q_161, q_183, q_188, q_224, q_230, q_266, q_295, q_328, q_333, q_334, q_335, q_336, q_337, q_338, q_339, q_340, q_425, q_431, q_432, q_433, q_434, q_435, q_436, q_437, q_438, q_524, q_565, q_610, q_661, q_666, q_784, q_789, q_914, q_919, q_1038, q_1043, q_1162, q_1167, q_1292, q_1297, q_1416, q_1421, q_1540, q_1545, q_1670, q_1675, q_1794, q_1799, q_1918, q_1923, q_2048, q_2053, q_2172, q_2177, q_2296, q_2301, q_2426, q_2431, q_2550, q_2555, q_2680, q_2685, q_2686, q_2687, q_2688, q_2689, q_2690, q_2691, q_2692, q_2857, q_2862, q_2863, q_2864, q_2865, q_2866, q_2867, q_2868, q_2869, q_3035, q_3040, q_3041, q_3042, q_3043, q_3044, q_3045, q_3046, q_3047, q_3219, q_3338, q_3458, q_3578] : List Nat).getD i 0) S ∧ (∀ j, aI S ((h :: [q_1, q_5, q_6, q_41, q_47, q_48, q_49, q_50, q_51, q_52, q_53, q_54, q_126, q_132, q_161, q_183, q_188, q_224, q_230, q_266, q_295, q_328, q_333, q_334, q_335, q_336, q_337, q_338, q_339, q_340, q_425, q_431, q_432, q_433, q_434, q_435, q_436, q_437, q_438, q_524, q_565, q_610, q_661, q_666, q_784, q_789, q_914, q_919, q_1038, q_1043, q_1162, q_1167, q_1292, q_1297, q_1416, q_1421, q_1540, q_1545, q_1670, q_1675, q_1794, q_1799, q_1918, q_1923, q_2048, q_2053, q_2172, q_2177, q_2296, q_2301, q_2426, q_2431, q_2550, q_2555, q_2680, q_2685, q_2686, q_2687, q_2688, q_2689, q_2690, q_2691, q_2692, q_2857, q_2862, q_2863, q_2864, q_2865, q_2866, q_2867, q_2868, q_2869, q_3035, q_3040, q_3041, q_3042, q_3043, q_3044, q_3045, q_3046, q_3047, q_3219, q_3338, q_3458, q_3578] : List Nat).getD 6 0) j = 0) ∧ (∀ j, aI S ((h :: [q_1, q_5, q_6, q_41, q_47, q_48, q_49, q_50, q_51, q_52, q_53, q_54, q_126, q_132, q_161, q_183, q_188, q_224, q_230, q_266, q_295, q_328, q_333, q_334, q_335, q_336, q_337, q_338, q_339, q_340, q_425, q_431, q_432, q_433, q_434, q_435, q_436, q_437, q_438, q_524, q_565, q_610, q_661, q_666, q_784, q_789, q_914, q_919, q_1038, q_1043, q_1162, q_1167, q_1292, q_1297, q_1416, q_1421, q_1540, q_1545, q_1670, q_1675, q_1794, q_1799, q_1918, q_1923, q_2048, q_2053, q_2172, q_2177, q_2296, q_2301, q_2426, q_2431, q_2550, q_2555, q_2680, q_2685, q_2686, q_2687, q_2688, q_2689, q_2690, q_2691, q_2692, q_2857, q_2862, q_2863, q_2864, q_2865, q_2866, q_2867, q_2868, q_2869, q_3035, q_3040, q_3041, q_3042, q_3043, q_3044, q_3045, q_3046, q_3047, q_3219, q_3338, q_3458, q_3578] : List Nat).getD 9 0) j = 0) ∧ (∀ j, aI S ((h :: [q_1, q_5, q_6, q_41, q_47, q_48, q_49, q_50, q_51, q_52, q_53, q_54, q_126, q_132, q_161, q_183, q_188, q_224, q_230, q_266, q_295, q_328, q_333, q_334, q_335, q_336, q_337, q_338, q_339, q_340, q_425, q_431, q_432, q_433, q_434, q_435, q_436, q_437, q_438, q_524, q_565, q_610, q_661, q_666, q_784, q_789, q_914, q_919, q_1038, q_1043, q_1162, q_1167, q_1292, q_1297, q_1416, q_1421, q_1540, q_1545, q_1670, q_1675, q_1794, q_1799, q_1918, q_1923, q_2048, q_2053, q_2172, q_2177, q_2296, q_2301, q_2426, q_2431, q_2550, q_2555, q_2680, q_2685, q_2686, q_2687, q_2688, q_2689, q_2690, q_2691, q_2692, q_2857, q_2862, q_2863, q_2864, q_2865, q_2866, q_2867, q_2868, q_2869, q_3035, q_3040, q_3041, q_3042, q_3043, q_3044, q_3045, q_3046, q_3047, q_3219, q_3338, q_3458, q_3578] : List Nat).getD 14 0) j = 0) ∧ (∀ j, aI S ((h :: [q_1, q_5, q_6, q_41, q_47, q_48, q_49, q_50, q_51, q_52, q_53, q_54, q_126, q_132, q_161, q_183, q_188, q_224, q_230, q_266, q_295, q_328, q_333, q_334, q_335, q_336, q_337, q_338, q_339, q_340, q_425, q_431, q_432, q_433, q_434, q_435, q_436, q_437, q_438, q_524, q_565, q_610, q_661, q_666, q_784, q_789, q_914, q_919, q_1038, q_1043, q_1162, q_1167, q_1292, q_1297, q_1416, q_1421, q_1540, q_1545, q_1670, q_1675, q_1794, q_1799, q_1918, q_1923, q_2048, q_2053, q_2172, q_2177, q_2296, q_2301, q_2426, q_2431, q_2550, q_2555, q_2680, q_2685, q_2686, q_2687, q_2688, q_2689, q_2690, q_2691, q_2692, q_2857, q_2862, q_2863, q_2864, q_2865, q_2866, q_2867, q_2868, q_2869, q_3035, q_3040, q_3041, q_3042, q_3043, q_3044, q_3045, q_3046, q_3047, q_3219, q_3338, q_3458, q_3578] : List Nat).getD 19 0) j = 0) := by
  have g0_9 : Gt 3 [q_1, q_5, q_6] S := (hGe _ (List.mem_of_getElem? (i := 0) rfl)).2.1
  have g1_9 : Gt 4 [q_41, q_47, q_48, q_49, q_50, q_51, q_52, q_53, q_54] S := (hGe _ (List.mem_of_getElem? (i := 1) rfl)).2.1
  have g2_9 : Gt 0 [q_126, q_132] S := (hGe _ (List.mem_of_getElem? (i := 2) rfl)).2.1
  have g3_9 : Gt 1 [q_183, q_188] S := (hGe _ (List.mem_of_getElem? (i := 3) rfl)).2.1
  have g4_9 : Gt 0 [q_224, q_230] S := (hGe _ (List.mem_of_getElem? (i := 4) rfl)).2.1
  have g5_9 : Gt 2 [q_328, q_333, q_334, q_335, q_336, q_337, q_338, q_339, q_340] S := (hGe _ (List.mem_of_getElem? (i := 5) rfl)).2.1
  have g6_9 : Gt 2 [q_425, q_431, q_432, q_433, q_434, q_435, q_436, q_437, q_438] S := (hGe _ (List.mem_of_getElem? (i := 6) rfl)).2.1
  have g7_9 : Gt 1 [q_661, q_666] S := (hGe _ (List.mem_of_getElem? (i := 7) rfl)).2.1
  have g8_9 : Gt 1 [q_784, q_789] S := (hGe _ (List.mem_of_getElem? (i := 8) rfl)).2.1
  have g9_9 : Gt 1 [q_914, q_919] S := (hGe _ (List.mem_of_getElem? (i := 9) rfl)).2.1
  have g10_9 : Gt 1 [q_1038, q_1043] S := (hGe _ (List.mem_of_getElem? (i := 10) rfl)).2.1
  have g11_9 : Gt 1 [q_1162, q_1167] S := (hGe _ (List.mem_of_getElem? (i := 11) rfl)).2.1
  have g12_9 : Gt 1 [q_1292, q_1297] S := (hGe _ (List.mem_of_getElem? (i := 12) rfl)).2.1
  have g13_9 : Gt 1 [q_1416, q_1421] S := (hGe _ (List.mem_of_getElem? (i := 13) rfl)).2.1
  have g14_9 : Gt 1 [q_1540, q_1545] S := (hGe _ (List.mem_of_getElem? (i := 14) rfl)).2.1
  have g15_9 : Gt 1 [q_1670, q_1675] S := (hGe _ (List.mem_of_getElem? (i := 15) rfl)).2.1
  have g16_9 : Gt 1 [q_1794, q_1799] S := (hGe _ (List.mem_of_getElem? (i := 16) rfl)).2.1
  have g17_9 : Gt 1 [q_1918, q_1923] S := (hGe _ (List.mem_of_getElem? (i := 17) rfl)).2.1
  have g18_9 : Gt 1 [q_2048, q_2053] S := (hGe _ (List.mem_of_getElem? (i := 18) rfl)).2.1
  have g19_9 : Gt 1 [q_2172, q_2177] S := (hGe _ (List.mem_of_getElem? (i := 19) rfl)).2.1
  have g20_9 : Gt 1 [q_2296, q_2301] S := (hGe _ (List.mem_of_getElem? (i := 20) rfl)).2.1
  have g21_9 : Gt 1 [q_2426, q_2431] S := (hGe _ (List.mem_of_getElem? (i := 21) rfl)).2.1
  have g22_9 : Gt 1 [q_2550, q_2555] S := (hGe _ (List.mem_of_getElem? (i := 22) rfl)).2.1
  have g23_9 : Gt 2 [q_2680, q_2685, q_2686, q_2687, q_2688, q_2689, q_2690, q_2691, q_2692] S := (hGe _ (List.mem_of_getElem? (i := 23) rfl)).2.1
  have g24_9 : Gt 2 [q_2857, q_2862, q_2863, q_2864, q_2865, q_2866, q_2867, q_2868, q_2869] S := (hGe _ (List.mem_of_getElem? (i := 24) rfl)).2.1
  have g25_9 : Gt 2 [q_3035, q_3040, q_3041, q_3042, q_3043, q_3044, q_3045, q_3046, q_3047] S := (hGe _ (List.mem_of_getElem? (i := 25) rfl)).2.1
  have g26_9 : Gt 5 [q_3219] S := (hGe _ (List.mem_of_getElem? (i := 26) rfl)).2.1
  have g27_9 : Gt 5 [q_3338] S := (hGe _ (List.mem_of_getElem? (i := 27) rfl)).2.1
  have g28_9 : Gt 5 [q_3458] S := (hGe _ (List.mem_of_getElem? (i := 28) rfl)).2.1
  have g29_9 : Gt 5 [q_3578] S := (hGe _ (List.mem_of_getElem? (i := 29) rfl)).2.1
  have g30_9 : Gt 5 [q_3704] S := (hGe _ (List.mem_of_getElem? (i := 30) rfl)).2.1
  have w9 : WK S (h :: [q_1, q_5, q_6, q_41, q_47, q_48, q_49, q_50, q_51, q_52, q_53, q_54, q_126, q_132, q_161, q_183, q_188, q_224, q_230, q_266, q_295, q_328, q_333, q_334, q_335, q_336, q_337, q_338, q_339, q_340, q_425, q_431, q_432, q_433, q_434, q_435, q_436, q_437, q_438, q_524, q_565, q_610, q_661, q_666, q_784, q_789, q_914, q_919, q_1038, q_1043, q_1162, q_1167, q_1292, q_1297, q_1416, q_1421, q_1540, q_1545, q_1670, q_1675, q_1794, q_1799, q_1918, q_1923, q_2048, q_2053, q_2172, q_2177, q_2296, q_2301, q_2426, q_2431, q_2550, q_2555, q_2680, q_2685, q_2686, q_2687, q_2688, q_2689, q_2690, q_2691, q_2692, q_2857, q_2862, q_2863, q_2864, q_2865, q_2866, q_2867, q_2868, q_2869, q_3035, q_3040, q_3041, q_3042, q_3043, q_3044, q_3045, q_3046, q_3047, q_3219, q_3338, q_3458, q_3578]) s9K := (WK.cons ⟨hm_h, hk_h⟩ (WK.cons (g0_9.1 0 _ rfl) (WK.cons (g0_9.1 1 _ rfl) (WK.cons (g0_9.1 2 _ rfl) (WK.cons (g1_9.1 0 _ rfl) (WK.cons (g1_9.1 1 _ rfl) (WK.cons (g1_9.1 2 _ rfl) (WK.cons (g1_9.1 3 _ rfl) (WK.cons (g1_9.1 4 _ rfl) (WK.cons (g1_9.1 5 _ rfl) (WK.cons (g1_9.1 6 _ rfl) (WK.cons (g1_9.1 7 _ rfl) (WK.cons (g1_9.1 8 _ rfl) (WK.cons (g2_9.1 0 _ rfl) (WK.cons (g2_9.1 1 _ rfl) (WK.cons ⟨hm_q_161, hk_q_161⟩ (WK.cons (g3_9.1 0 _ rfl) (WK.cons (g3_9.1 1 _ rfl) (WK.cons (g4_9.1 0 _ rfl) (WK.cons (g4_9.1 1 _ rfl) (WK.cons ⟨hm_q_266, hk_q_266⟩ (WK.cons ⟨hm_q_295, hk_q_295⟩ (WK.cons (g5_9.1 0 _ rfl) (WK.cons (g5_9.1 1 _ rfl) (WK.cons (g5_9.1 2 _ rfl) (WK.cons (g5_9.1 3 _ rfl) (WK.cons (g5_9.1 4 _ rfl) (WK.cons (g5_9.1 5 _ rfl) (WK.cons (g5_9.1 6 _ rfl) (WK.cons (g5_9.1 7 _ rfl) (WK.cons (g5_9.1 8 _ rfl) (WK.cons (g6_9.1 0 _ rfl) (WK.cons (g6_9.1 1 _ rfl) (WK.cons (g6_9.1 2 _ rfl) (WK.cons (g6_9.1 3 _ rfl) (WK.cons (g6_9.1 4 _ rfl) (WK.cons (g6_9.1 5 _ rfl) (WK.cons (g6_9.1 6 _ rfl) (WK.cons (g6_9.1 7 _ rfl) (WK.cons (g6_9.1 8 _ rfl) (WK.cons ⟨hm_q_524, hk_q_524⟩ (WK.cons ⟨hm_q_565, hk_q_565⟩ (WK.cons ⟨hm_q_610, hk_q_610⟩ (WK.cons (g7_9.1 0 _ rfl) (WK.cons (g7_9.1 1 _ rfl) (WK.cons (g8_9.1 0 _ rfl) (WK.cons (g8_9.1 1 _ rfl) (WK.cons (g9_9.1 0 _ rfl) (WK.cons (g9_9.1 1 _ rfl) (WK.cons (g10_9.1 0 _ rfl) (WK.cons (g10_9.1 1 _ rfl) (WK.cons (g11_9.1 0 _ rfl) (WK.cons (g11_9.1 1 _ rfl) (WK.cons (g12_9.1 0 _ rfl) (WK.cons (g12_9.1 1 _ rfl) (WK.cons (g13_9.1 0 _ rfl) (WK.cons (g13_9.1 1 _ rfl) (WK.cons (g14_9.1 0 _ rfl) (WK.cons (g14_9.1 1 _ rfl) (WK.cons (g15_9.1 0 _ rfl) (WK.cons (g15_9.1 1 _ rfl) (WK.cons (g16_9.1 0 _ rfl) (WK.cons (g16_9.1 1 _ rfl) (WK.cons (g17_9.1 0 _ rfl) (WK.cons (g17_9.1 1 _ rfl) (WK.cons (g18_9.1 0 _ rfl) (WK.cons (g18_9.1 1 _ rfl) (WK.cons (g19_9.1 0 _ rfl) (WK.cons (g19_9.1 1 _ rfl) (WK.cons (g20_9.1 0 _ rfl) (WK.cons (g20_9.1 1 _ rfl) (WK.cons (g21_9.1 0 _ rfl) (WK.cons (g21_9.1 1 _ rfl) (WK.cons (g22_9.1 0 _ rfl) (WK.cons (g22_9.1 1 _ rfl) (WK.cons (g23_9.1 0 _ rfl) (WK.cons (g23_9.1 1 _ rfl) (WK.cons (g23_9.1 2 _ rfl) (WK.cons (g23_9.1 3 _ rfl) (WK.cons (g23_9.1 4 _ rfl) (WK.cons (g23_9.1 5 _ rfl) (WK.cons (g23_9.1 6 _ rfl) (WK.cons (g23_9.1 7 _ rfl) (WK.cons (g23_9.1 8 _ rfl) (WK.cons (g24_9.1 0 _ rfl) (WK.cons (g24_9.1 1 _ rfl) (WK.cons (g24_9.1 2 _ rfl) (WK.cons (g24_9.1 3 _ rfl) (WK.cons (g24_9.1 4 _ rfl) (WK.cons (g24_9.1 5 _ rfl) (WK.cons (g24_9.1 6 _ rfl) (WK.cons (g24_9.1 7 _ rfl) (WK.cons (g24_9.1 8 _ rfl) (WK.cons (g25_9.1 0 _ rfl) (WK.cons (g25_9.1 1 _ rfl) (WK.cons (g25_9.1 2 _ rfl) (WK.cons (g25_9.1 3 _ rfl) (WK.cons (g25_9.1 4 _ rfl) (WK.cons (g25_9.1 5 _ rfl) (WK.cons (g25_9.1 6 _ rfl) (WK.cons (g25_9.1 7 _ rfl) (WK.cons (g25_9.1 8 _ rfl) (WK.cons (g26_9.1 0 _ rfl) (WK.cons (g27_9.1 0 _ rfl) (WK.cons (g28_9.1 0 _ rfl) (WK.cons (g29_9.1 0 _ rfl) WK.nil))))))))))))))))))))))))))))))))))))))))))))))))))))))))))))))))))))))))))))))))))))))))))))))))))))))))))
  exact ⟨⟨w9.get, (List.forall_mem_cons.mpr ⟨(g0_9.2.1 _ (List.mem_of_getElem? (i := 0) rfl)), (List.forall_mem_cons.mpr ⟨(g0_9.2.1 _ (List.mem_of_getElem? (i := 1) rfl)), (List.forall_mem_cons.mpr ⟨(g1_9.2.1 _ (List.mem_of_getElem? (i := 0) rfl)), (List.forall_mem_cons.mpr ⟨(g1_9.2.1 _ (List.mem_of_getElem? (i := 1) rfl)), (List.forall_mem_cons.mpr ⟨(g1_9.2.1 _ (List.mem_of_getElem? (i := 2) rfl)), (List.forall_mem_cons.mpr ⟨(g1_9.2.1 _ (List.mem_of_getElem? (i := 3) rfl)), (List.forall_mem_cons.mpr ⟨(g1_9.2.1 _ (List.mem_of_getElem? (i := 4) rfl)), (List.forall_mem_cons.mpr ⟨(g1_9.2.1 _ (List.mem_of_getElem? (i := 5) rfl)), (List.forall_mem_cons.mpr ⟨(g1_9.2.1 _ (List.mem_of_getElem? (i := 6) rfl)), (List.forall_mem_cons.mpr ⟨(g2_9.2.1 _ (List.mem_of_getElem? (i := 0) rfl)), (List.forall_mem_cons.mpr ⟨hn_q_161, (List.forall_mem_cons.mpr ⟨(g3_9.2.1 _ (List.mem_of_getElem? (i := 0) rfl)), (List.forall_mem_cons.mpr ⟨(g4_9.2.1 _ (List.mem_of_getElem? (i := 0) rfl)), (List.forall_mem_cons.mpr ⟨hn_q_266, (List.forall_mem_cons.mpr ⟨hn_q_295, (List.forall_mem_cons.mpr ⟨(g5_9.2.1 _ (List.mem_of_getElem? (i := 0) rfl)), (List.forall_mem_cons.mpr ⟨(g5_9.2.1 _ (List.mem_of_getElem? (i := 1) rfl)), (List.forall_mem_cons.mpr ⟨(g5_9.2.1 _ (List.mem_of_getElem? (i := 2) rfl)), (List.forall_mem_cons.mpr ⟨(g5_9.2.1 _ (List.mem_of_getElem? (i := 3) rfl)), (List.forall_mem_cons.mpr ⟨(g5_9.2.1 _ (List.mem_of_getElem? (i := 4) rfl)), (List.forall_mem_cons.mpr ⟨(g6_9.2.1 _ (List.mem_of_getElem? (i := 0) rfl)), (List.forall_mem_cons.mpr ⟨(g6_9.2.1 _ (List.mem_of_getElem? (i := 1) rfl)), (List.forall_mem_cons.mpr ⟨(g6_9.2.1 _ (List.mem_of_getElem? (i := 2) rfl)), (List.forall_mem_cons.mpr ⟨(g6_9.2.1 _ (List.mem_of_getElem? (i := 3) rfl)), (List.forall_mem_cons.mpr ⟨(g6_9.2.1 _ (List.mem_of_getElem? (i := 4) rfl)), (List.forall_mem_cons.mpr ⟨hn_q_524, (List.forall_mem_cons.mpr ⟨hn_q_565, (List.forall_mem_cons.mpr ⟨hn_q_610, (List.forall_mem_cons.mpr ⟨(g7_9.2.1 _ (List.mem_of_getElem? (i := 0) rfl)), (List.forall_mem_cons.mpr ⟨(g8_9.2.1 _ (List.mem_of_getElem? (i := 0) rfl)), (List.forall_mem_cons.mpr ⟨(g9_9.2.1 _ (List.mem_of_getElem? (i := 0) rfl)), (List.forall_mem_cons.mpr ⟨(g10_9.2.1 _ (List.mem_of_getElem? (i := 0) rfl)), (List.forall_mem_cons.mpr ⟨(g11_9.2.1 _ (List.mem_of_getElem? (i := 0) rfl)), (List.forall_mem_cons.mpr ⟨(g12_9.2.1 _ (List.mem_of_getElem? (i := 0) rfl)), (List.forall_mem_cons.mpr ⟨(g13_9.2.1 _ (List.mem_of_getElem? (i := 0) rfl)), (List.forall_mem_cons.mpr ⟨(g14_9.2.1 _ (List.mem_of_getElem? (i := 0) rfl)), (List.forall_mem_cons.mpr ⟨(g15_9.2.1 _ (List.mem_of_getElem? (i := 0) rfl)), (List.forall_mem_cons.mpr ⟨(g16_9.2.1 _ (List.mem_of_getElem? (i := 0) rfl)), (List.forall_mem_cons.mpr ⟨(g17_9.2.1 _ (List.mem_of_getElem? (i := 0) rfl)), (List.forall_mem_cons.mpr ⟨(g18_9.2.1 _ (List.mem_of_getElem? (i := 0) rfl)), (List.forall_mem_cons.mpr ⟨(g19_9.2.1 _ (List.mem_of_getElem? (i := 0) rfl)), (List.forall_mem_cons.mpr ⟨(g20_9.2.1 _ (List.mem_of_getElem? (i := 0) rfl)), (List.forall_mem_cons.mpr ⟨(g21_9.2.1 _ (List.mem_of_getElem? (i := 0) rfl)), (List.forall_mem_cons.mpr ⟨(g22_9.2.1 _ (List.mem_of_getElem? (i := 0) rfl)), (List.forall_mem_cons.mpr ⟨(g23_9.2.1 _ (List.mem_of_getElem? (i := 0) rfl)), (List.forall_mem_cons.mpr ⟨(g23_9.2.1 _ (List.mem_of_getElem? (i := 1) rfl)), (List.forall_mem_cons.mpr ⟨(g23_9.2.1 _ (List.mem_of_getElem? (i := 2) rfl)), (List.forall_mem_cons.mpr ⟨(g23_9.2.1 _ (List.mem_of_getElem? (i := 3) rfl)), (List.forall_mem_cons.mpr ⟨(g23_9.2.1 _ (List.mem_of_getElem? (i := 4) rfl)), (List.forall_mem_cons.mpr ⟨(g24_9.2.1 _ (List.mem_of_getElem? (i := 0) rfl)), (List.forall_mem_cons.mpr ⟨(g24_9.2.1 _ (List.mem_of_getElem? (i := 1) rfl)), (List.forall_mem_cons.mpr ⟨(g24_9.2.1 _ (List.mem_of_getElem? (i := 2) rfl)), (List.forall_mem_cons.mpr ⟨(g24_9.2.1 _ (List.mem_of_getElem? (i := 3) rfl)), (List.forall_mem_cons.mpr ⟨(g24_9.2.1 _ (List.mem_of_getElem? (i := 4) rfl)), (List.forall_mem_cons.mpr ⟨(g25_9.2.1 _ (List.mem_of_getElem? (i := 0) rfl)), (List.forall_mem_cons.mpr ⟨(g25_9.2.1 _ (List.mem_of_getElem? (i := 1) rfl)), (List.forall_mem_cons.mpr ⟨(g25_9.2.1 _ (List.mem_of_getElem? (i := 2) rfl)), (List.forall_mem_cons.mpr ⟨(g25_9.2.1 _ (List.mem_of_getElem? (i := 3) rfl)), (List.forall_mem_cons.mpr ⟨(g25_9.2.1 _ (List.mem_of_getElem? (i := 4) rfl)), (fun _ h9 => absurd h9 List.not_mem_nil)⟩)⟩)⟩)⟩)⟩)⟩)⟩)⟩)⟩)⟩)⟩)⟩)⟩)⟩)⟩)⟩)⟩)⟩)⟩)⟩)⟩)⟩)⟩)⟩)⟩)⟩)⟩)⟩)⟩)⟩)⟩)⟩)⟩)⟩)⟩)⟩)⟩)⟩)⟩)⟩)⟩)⟩)⟩)⟩)⟩)⟩)⟩)⟩)⟩)⟩)⟩)⟩)⟩)⟩)⟩)⟩)⟩)⟩)⟩), (List.forall_mem_cons.mpr ⟨hr_901_h, (List.forall_mem_cons.mpr ⟨(g0_9.2.2.1 _ (List.mem_of_getElem? (i := 0) rfl)), (List.forall_mem_cons.mpr ⟨(g0_9.2.2.1 _ (List.mem_of_getElem? (i := 1) rfl)), (List.forall_mem_cons.mpr ⟨hr_902_h, (List.forall_mem_cons.mpr ⟨(g1_9.2.2.1 _ (List.mem_of_getElem? (i := 0) rfl)), (List.forall_mem_cons.mpr ⟨(g1_9.2.2.1 _ (List.mem_of_getElem? (i := 1) rfl)), (List.forall_mem_cons.mpr ⟨(g1_9.2.2.1 _ (List.mem_of_getElem? (i := 2) rfl)), (List.forall_mem_cons.mpr ⟨(g1_9.2.2.1 _ (List.mem_of_getElem? (i := 3) rfl)), (List.forall_mem_cons.mpr ⟨(g1_9.2.2.1 _ (List.mem_of_getElem? (i := 4) rfl)), (List.forall_mem_cons.mpr ⟨(g1_9.2.2.1 _ (List.mem_of_getElem? (i := 5) rfl)), (List.forall_mem_cons.mpr ⟨(g1_9.2.2.1 _ (List.mem_of_getElem? (i := 6) rfl)), (List.forall_mem_cons.mpr ⟨(g1_9.2.2.1 _ (List.mem_of_getElem? (i := 7) rfl)), (List.forall_mem_cons.mpr ⟨hr_903_h, (List.forall_mem_cons.mpr ⟨(g2_9.2.2.1 _ (List.mem_of_getElem? (i := 0) rfl)), (List.forall_mem_cons.mpr ⟨hr_904_h, (List.forall_mem_cons.mpr ⟨hr_905_h, (List.forall_mem_cons.mpr ⟨(g3_9.2.2.1 _ (List.mem_of_getElem? (i := 0) rfl)), (List.forall_mem_cons.mpr ⟨hr_906_h, (List.forall_mem_cons.mpr ⟨(g4_9.2.2.1 _ (List.mem_of_getElem? (i := 0) rfl)), (List.forall_mem_cons.mpr ⟨hr_907_h, (List.forall_mem_cons.mpr ⟨hr_908_h, (List.forall_mem_cons.mpr ⟨hr_909_h, (List.forall_mem_cons.mpr ⟨(g5_9.2.2.1 _ (List.mem_of_getElem? (i := 0) rfl)), (List.forall_mem_cons.mpr ⟨(g5_9.2.2.1 _ (List.mem_of_getElem? (i := 1) rfl)), (List.forall_mem_cons.mpr ⟨(g5_9.2.2.1 _ (List.mem_of_getElem? (i := 2) rfl)), (List.forall_mem_cons.mpr ⟨(g5_9.2.2.1 _ (List.mem_of_getElem? (i := 3) rfl)), (List.forall_mem_cons.mpr ⟨(g5_9.2.2.1 _ (List.mem_of_getElem? (i := 4) rfl)), (List.forall_mem_cons.mpr ⟨(g5_9.2.2.1 _ (List.mem_of_getElem? (i := 5) rfl)), (List.forall_mem_cons.mpr ⟨(g5_9.2.2.1 _ (List.mem_of_getElem? (i := 6) rfl)), (List.forall_mem_cons.mpr ⟨(g5_9.2.2.1 _ (List.mem_of_getElem? (i := 7) rfl)), (List.forall_mem_cons.mpr ⟨hr_910_h, (List.forall_mem_cons.mpr ⟨(g6_9.2.2.1 _ (List.mem_of_getElem? (i := 0) rfl)), (List.forall_mem_cons.mpr ⟨(g6_9.2.2.1 _ (List.mem_of_getElem? (i := 1) rfl)), (List.forall_mem_cons.mpr ⟨(g6_9.2.2.1 _ (List.mem_of_getElem? (i := 2) rfl)), (List.forall_mem_cons.mpr ⟨(g6_9.2.2.1 _ (List.mem_of_getElem? (i := 3) rfl)), (List.forall_mem_cons.mpr ⟨(g6_9.2.2.1 _ (List.mem_of_getElem? (i := 4) rfl)), (List.forall_mem_cons.mpr ⟨(g6_9.2.2.1 _ (List.mem_of_getElem? (i := 5) rfl)), (List.forall_mem_cons.mpr ⟨(g6_9.2.2.1 _ (List.mem_of_getElem? (i := 6) rfl)), (List.forall_mem_cons.mpr ⟨(g6_9.2.2.1 _ (List.mem_of_getElem? (i := 7) rfl)), (List.forall_mem_cons.mpr ⟨hr_911_h, (List.forall_mem_cons.mpr ⟨hr_912_h, (List.forall_mem_cons.mpr ⟨hr_917_h, (List.forall_mem_cons.mpr ⟨(g7_9.2.2.1 _ (List.mem_of_getElem? (i := 0) rfl)), (List.forall_mem_cons.mpr ⟨(g8_9.2.2.1 _ (List.mem_of_getElem? (i := 0) rfl)), (List.forall_mem_cons.mpr ⟨(g9_9.2.2.1 _ (List.mem_of_getElem? (i := 0) rfl)), (List.forall_mem_cons.mpr ⟨(g10_9.2.2.1 _ (List.mem_of_getElem? (i := 0) rfl)), (List.forall_mem_cons.mpr ⟨(g11_9.2.2.1 _ (List.mem_of_getElem? (i := 0) rfl)), (List.forall_mem_cons.mpr ⟨(g12_9.2.2.1 _ (List.mem_of_getElem? (i := 0) rfl)), (List.forall_mem_cons.mpr ⟨(g13_9.2.2.1 _ (List.mem_of_getElem? (i := 0) rfl)), (List.forall_mem_cons.mpr ⟨(g14_9.2.2.1 _ (List.mem_of_getElem? (i := 0) rfl)), (List.forall_mem_cons.mpr ⟨(g15_9.2.2.1 _ (List.mem_of_getElem? (i := 0) rfl)), (List.forall_mem_cons.mpr ⟨(g16_9.2.2.1 _ (List.mem_of_getElem? (i := 0) rfl)), (List.forall_mem_cons.mpr ⟨(g17_9.2.2.1 _ (List.mem_of_getElem? (i := 0) rfl)), (List.forall_mem_cons.mpr ⟨(g18_9.2.2.1 _ (List.mem_of_getElem? (i := 0) rfl)), (List.forall_mem_cons.mpr ⟨(g19_9.2.2.1 _ (List.mem_of_getElem? (i := 0) rfl)), (List.forall_mem_cons.mpr ⟨(g20_9.2.2.1 _ (List.mem_of_getElem? (i := 0) rfl)), (List.forall_mem_cons.mpr ⟨(g21_9.2.2.1 _ (List.mem_of_getElem? (i := 0) rfl)), (List.forall_mem_cons.mpr ⟨(g22_9.2.2.1 _ (List.mem_of_getElem? (i := 0) rfl)), (List.forall_mem_cons.mpr ⟨(g23_9.2.2.1 _ (List.mem_of_getElem? (i := 0) rfl)), (List.forall_mem_cons.mpr ⟨(g23_9.2.2.1 _ (List.mem_of_getElem? (i := 1) rfl)), (List.forall_mem_cons.mpr ⟨(g23_9.2.2.1 _ (List.mem_of_getElem? (i := 2) rfl)), (List.forall_mem_cons.mpr ⟨(g23_9.2.2.1 _ (List.mem_of_getElem? (i := 3) rfl)), (List.forall_mem_cons.mpr ⟨(g23_9.2.2.1 _ (List.mem_of_getElem? (i := 4) rfl)), (List.forall_mem_cons.mpr ⟨(g23_9.2.2.1 _ (List.mem_of_getElem? (i := 5) rfl)), (List.forall_mem_cons.mpr ⟨(g23_9.2.2.1 _ (List.mem_of_getElem? (i := 6) rfl)), (List.forall_mem_cons.mpr ⟨(g23_9.2.2.1 _ (List.mem_of_getElem? (i := 7) rfl)), (List.forall_mem_cons.mpr ⟨(g24_9.2.2.1 _ (List.mem_of_getElem? (i := 0) rfl)), (List.forall_mem_cons.mpr ⟨(g24_9.2.2.1 _ (List.mem_of_getElem? (i := 1) rfl)), (List.forall_mem_cons.mpr ⟨(g24_9.2.2.1 _ (List.mem_of_getElem? (i := 2) rfl)), (List.forall_mem_cons.mpr ⟨(g24_9.2.2.1 _ (List.mem_of_getElem? (i := 3) rfl)), (List.forall_mem_cons.mpr ⟨(g24_9.2.2.1 _ (List.mem_of_getElem? (i := 4) rfl)), (List.forall_mem_cons.mpr ⟨(g24_9.2.2.1 _ (List.mem_of_getElem? (i := 5) rfl)), (List.forall_mem_cons.mpr ⟨(g24_9.2.2.1 _ (List.mem_of_getElem? (i := 6) rfl)), (List.forall_mem_cons.mpr ⟨(g24_9.2.2.1 _ (List.mem_of_getElem? (i := 7) rfl)), (List.forall_mem_cons.mpr ⟨(g25_9.2.2.1 _ (List.mem_of_getElem? (i := 0) rfl)), (List.forall_mem_cons.mpr ⟨(g25_9.2.2.1 _ (List.mem_of_getElem? (i := 1) rfl)), (List.forall_mem_cons.mpr ⟨(g25_9.2.2.1 _ (List.mem_of_getElem? (i := 2) rfl)), (List.forall_mem_cons.mpr ⟨(g25_9.2.2.1 _ (List.mem_of_getElem? (i := 3) rfl)), (List.forall_mem_cons.mpr ⟨(g25_9.2.2.1 _ (List.mem_of_getElem? (i := 4) rfl)), (List.forall_mem_cons.mpr ⟨(g25_9.2.2.1 _ (List.mem_of_getElem? (i := 5) rfl)), (List.forall_mem_cons.mpr ⟨(g25_9.2.2.1 _ (List.mem_of_getElem? (i := 6) rfl)), (List.forall_mem_cons.mpr ⟨(g25_9.2.2.1 _ (List.mem_of_getElem? (i := 7) rfl)), (fun _ h9 => absurd h9 List.not_mem_nil)⟩)⟩)⟩)⟩)⟩)⟩)⟩)⟩)⟩)⟩)⟩)⟩)⟩)⟩)⟩)⟩)⟩)⟩)⟩)⟩)⟩)⟩)⟩)⟩)⟩)⟩)⟩)⟩)⟩)⟩)⟩)⟩)⟩)⟩)⟩)⟩)⟩)⟩)⟩)⟩)⟩)⟩)⟩)⟩)⟩)⟩)⟩)⟩)⟩)⟩)⟩)⟩)⟩)⟩)⟩)⟩)⟩)⟩)⟩)⟩)⟩)⟩)⟩)⟩)⟩)⟩)⟩)⟩)⟩)⟩)⟩)⟩)⟩)⟩)⟩)⟩)⟩)⟩)⟩)⟩)⟩)⟩), (List.forall_mem_cons.mpr ⟨(el_q_161 0 _ rfl), (List.forall_mem_cons.mpr ⟨(el_q_161 1 _ rfl), (List.forall_mem_cons.mpr ⟨(el_q_161 2 _ rfl), (List.forall_mem_cons.mpr ⟨(el_q_161 3 _ rfl), (List.forall_mem_cons.mpr ⟨(el_q_161 4 _ rfl), (List.forall_mem_cons.mpr ⟨(el_q_161 5 _ rfl), (List.forall_mem_cons.mpr ⟨(el_q_161 6 _ rfl), (List.forall_mem_cons.mpr ⟨(el_q_161 7 _ rfl), (List.forall_mem_cons.mpr ⟨(el_q_161 8 _ rfl), (List.forall_mem_cons.mpr ⟨(el_q_161 9 _ rfl), (List.forall_mem_cons.mpr ⟨(el_q_161 10 _ rfl), (List.forall_mem_cons.mpr ⟨(el_q_161 11 _ rfl), (List.forall_mem_cons.mpr ⟨(el_q_161 12 _ rfl), (List.forall_mem_cons.mpr ⟨(el_q_161 13 _ rfl), (List.forall_mem_cons.mpr ⟨(el_q_161 14 _ rfl), (List.forall_mem_cons.mpr ⟨(el_q_161 15 _ rfl), (List.forall_mem_cons.mpr ⟨(el_q_524 0 _ rfl), (List.forall_mem_cons.mpr ⟨(el_q_524 1 _ rfl), (List.forall_mem_cons.mpr ⟨(el_q_524 2 _ rfl), (List.forall_mem_cons.mpr ⟨(el_q_565 0 _ rfl), (List.forall_mem_cons.mpr ⟨(el_q_565 1 _ rfl), (List.forall_mem_cons.mpr ⟨(el_q_565 2 _ rfl), (List.forall_mem_cons.mpr ⟨(el_q_565 3 _ rfl), (fun _ h9 => absurd h9 List.not_mem_nil)⟩)⟩)⟩)⟩)⟩)⟩)⟩)⟩)⟩)⟩)⟩)⟩)⟩)⟩)⟩)⟩)⟩)⟩)⟩)⟩)⟩)⟩)⟩)⟩, g1_9.2.2.2 2 (by decide), g1_9.2.2.2 5 (by decide), g2_9.2.2.2 1 (by decide), g4_9.2.2.2 1 (by decide)⟩

set_option maxRecDepth 100000 in
set_option maxHeartbeats 8000000 in
theorem x9_t15 {x : JX} {S S_3641 : Hp} {h s0 q_1 q_5 q_6 q_41 q_47 q_48 q_49 q_50 q_51 q_52 q_53 q_54 q_126 q_132 q_161 q_183 q_188 q_224 q_230 q_266 q_295 q_328 q_333 q_334 q_335 q_336 q_337 q_338 q_339 q_340 q_425 q_431 q_432 q_433 q_434 q_435 q_436 q_437 q_438 q_524 q_565 q_610 q_661 q_666 q_784 q_789 q_914 q_919 q_1038 q_1043 q_1162 q_1167 q_1292 q_1297 q_1416 q_1421 q_1540 q_1545 q_1670 q_1675 q_1794 q_1799 q_1918 q_1923 q_2048 q_2053 q_2172 q_2177 q_2296 q_2301 q_2426 q_2431 q_2550 q_2555 q_2680 q_2685 q_2686 q_2687 q_2688 q_2689 q_2690 q_2691 q_2692 q_2857 q_2862 q_2863 q_2864 q_2865 q_2866 q_2867 q_2868 q_2869 q_3035 q_3040 q_3041 q_3042 q_3043 q_3044 q_3045 q_3046 q_3047 q_3219 q_3338 q_3458 q_3578 : Nat} (hn9 : x_n x = 3) (C : CB x RX9 cX9_init) (M : CM x 4 113 68424 none S (fun r S' => r = none ∧ Fm (fun _ _ => False) (fun f9 b9 => b9 = h) (fun _ => False) S S' ∧ hR S' 900 h = some s0 ∧ ∃ l : List Nat, Wt s9K s9N s9P s9Q (fun i => (h :: l).getD i 0) S' ∧ l.length = 105 ∧ NL S l S' ∧ (∀ j, aI S' ((h :: l).getD 6 0) j = 0) ∧ (∀ j, aI S' ((h :: l).getD 9 0) j = 0) ∧ (∀ j, aI S' ((h :: l).getD 14 0) j = 0) ∧ (∀ j, aI S' ((h :: l).getD 19 0) j = 0))) (hm9 : (x_meth x).name = yX9_init.name) (hm0_9 : h ∈ hL S) (hz_164 : q_161 ∉ hL S) (hz_269 : q_266 ∉ hL S) (hz_297 : q_295 ∉ hL S) (hz_527 : q_524 ∉ hL S) (hz_567 : q_565 ∉ hL S) (hz_612 : q_610 ∉ hL S) (hm_3644 : h ∈ hL S_3641) (hk_3645 : Kd S_3641 h 9) (hm_3646 : q_161 ∈ hL S_3641) (hk_3647 : Kd S_3641 q_161 20) (hn_3648 : Ln S_3641 q_161 16) (hz_3649 : ∀ j, aI S_3641 q_161 j = 0) (hm_3650 : q_266 ∈ hL S_3641) (hk_3651 : Kd S_3641 q_266 13) (hn_3652 : Ln S_3641 q_266 24000) (hz_3653 : ∀ j, aI S_3641 q_266 j = 0) (hm_3654 : q_295 ∈ hL S_3641) (hk_3655 : Kd S_3641 q_295 14) (hn_3656 : Ln S_3641 q_295 16) (hz_3657 : ∀ j, aI S_3641 q_295 j = 0) (hm_3660 : q_524 ∈ hL S_3641) (hk_3661 : Kd S_3641 q_524 18) (hn_3662 : Ln S_3641 q_524 3) (hz_3663 : ∀ j, aI S_3641 q_524 j = 0) (hm_3664 : q_565 ∈ hL S_3641) (hk_3665 : Kd S_3641 q_565 19) (hn_3666 : Ln S_3641 q_565 4) (hz_3667 : ∀ j, aI S_3641 q_565 j = 0) (hm_3668 : q_610 ∈ hL S_3641) (hk_3669 : Kd S_3641 q_610 14) (hn_3670 : Ln S_3641 q_610 12) (hz_3671 : ∀ j, aI S_3641 q_610 j = 0) (hv_3672 : hR S_3641 900 h = (some s0)) (hv_3673 : hR S_3641 901 h = (some q_1)) (hv_3674 : hR S_3641 902 h = (some q_41)) (hv_3675 : hR S_3641 903 h = (some q_126)) (hv_3676 : hR S_3641 904 h = (some q_161)) (hv_3677 : hR S_3641 905 h = (some q_183)) (hv_3678 : hR S_3641 906 h = (some q_224)) (hv_3679 : hR S_3641 907 h = (some q_266)) (hv_3680 : hR S_3641 908 h = (some q_295)) (hv_3681 : hR S_3641 909 h = (some q_328)) (hv_3682 : hR S_3641 910 h = (some q_425)) (hv_3683 : hR S_3641 911 h = (some q_524)) (hv_3684 : hR S_3641 912 h = (some q_565)) (hv_3685 : hR S_3641 917 h = (some q_610)) (hN_3698 : NL S [q_1, q_5, q_6, q_41, q_47, q_48, q_49, q_50, q_51, q_52, q_53, q_54, q_126, q_132, q_161, q_183, q_188, q_224, q_230, q_266, q_295, q_328, q_333, q_334, q_335, q_336, q_337, q_338, q_339, q_340, q_425, q_431, q_432, q_433, q_434, q_435, q_436, q_437, q_438, q_524, q_565, q_610, q_661, q_666, q_784, q_789, q_914, q_919, q_1038, q_1043, q_1162, q_1167, q_1292, q_1297, q_1416, q_1421, q_1540, q_1545, q_1670, q_1675, q_1794, q_1799, q_1918, q_1923, q_2048, q_2053, q_2172, q_2177, q_2296, q_2301, q_2426, q_2431, q_2550, q_2555, q_2680, q_2685, q_2686, q_2687, q_2688, q_2689, q_2690, q_2691, q_2692, q_2857, q_2862, q_2863, q_2864, q_2865, q_2866, q_2867, q_2868, q_2869, q_3035, q_3040, q_3041, q_3042, q_3043, q_3044, q_3045, q_3046, q_3047, q_3219, q_3338, q_3458, q_3578] S_3641) (hG_3699 : Gs h [(3, [q_1, q_5, q_6]), (4, [q_41, q_47, q_48, q_49, q_50, q_51, q_52, q_53, q_54]), (0, [q_126, q_132]), (1, [q_183, q_188]), (0, [q_224, q_230]), (2, [q_328, q_333, q_334, q_335, q_336, q_337, q_338, q_339, q_340]), (2, [q_425, q_431, q_432, q_433, q_434, q_435, q_436, q_437, q_438]), (1, [q_661, q_666]), (1, [q_784, q_789]), (1, [q_914, q_919]), (1, [q_1038, q_1043]), (1, [q_1162, q_1167]), (1, [q_1292, q_1297]), (1, [q_1416, q_1421]), (1, [q_1540, q_1545]), (1, [q_1670, q_1675]), (1, [q_1794, q_1799]), (1, [q_1918, q_1923]), (1, [q_2048, q_2053]), (1, [q_2172, q_2177]), (1, [q_2296, q_2301]), (1, [q_2426, q_2431]), (1, [q_2550, q_2555]), (2, [q_2680, q_2685, q_2686, q_2687, q_2688, q_2689, q_2690, q_2691, q_2692]), (2, [q_2857, q_2862, q_2863, q_2864, q_2865, q_2866, q_2867, q_2868, q_2869]), (2, [q_3035, q_3040, q_3041, q_3042, q_3043, q_3044, q_3045, q_3046, q_3047]), (5, [q_3219]), (5, [q_3338]), (5, [q_3458]), (5, [q_3578])] S_3641) (hE_3689 : ELs S_3641 q_161 [q_661, q_784, q_914, q_1038, q_1162, q_1292, q_1416, q_1540, q_1670, q_1794, q_1918, q_2048, q_2172, q_2296, q_2426, q_2550]) (hE_3690 : ELs S_3641 q_524 [q_2680, q_2857, q_3035]) (hE_3691 : ELs S_3641 q_565 [q_3219, q_3338, q_3458, q_3578]) (hf_3686 : Fm (fun _ _ => False) (fun f9 b9 => b9 = h) (fun _ => False) S S_3641) : J x (0 + 1 + 4 + 1 + 8 + 1 + 1 + 1 + 1 + 1 + 1 + 1 + 1 + 1 + 1 + 8 + 1 + 8 + 1 + 1 + 1 + 1 + 1 + 1 + 1 + 1 + 1 + 1 + 1 + 1 + 1 + 1 + 1 + 1 + 1 + 1 + 1 + 1 + 1 + 1 + 1 + 1 + 1 + 1 + 1 + 1 + 1 + 1 + 1 + 1 + 1 + 1 + 1 + 1 + 8 + 1 + 8 + 1 + 8 + 1 + 1 + 1 + 1 + 1 + 1 + 1 + 1) (0 + 15 + 20045 + 10 + 23174 + 1 + 16 + 16 + 4 + 16 + 1 + 16 + 24000 + 16 + 21 + 117 + 21 + 117 + 3 + 4 + 12 + 4 + 16 + 4 + 16 + 4 + 16 + 4 + 16 + 4 + 16 + 4 + 16 + 4 + 16 + 4 + 16 + 4 + 16 + 4 + 16 + 4 + 16 + 4 + 16 + 4 + 16 + 4 + 16 + 4 + 16 + 4 + 16 + 21 + 117 + 21 + 117 + 21 + 117 + 13 + 0 + 13 + 0 + 13 + 0 + 13 + 0) S_3641 [(2, .int 4), (0, .ref h), (1, .ref s0)] 226 [] := by
  obtain ⟨L_3700, eL_3701⟩ : ∃ L9 : List Nat, L9 = [q_1, q_5, q_6, q_41, q_47, q_48, q_49, q_50, q_51, q_52, q_53, q_54, q_126, q_132, q_161, q_183, q_188, q_224, q_230, q_266, q_295, q_328, q_333, q_334, q_335, q_336, q_337, q_338, q_339, q_340, q_425, q_431, q_432, q_433, q_434, q_435, q_436, q_437, q_438, q_524, q_565, q_610, q_661, q_666, q_784, q_789, q_914, q_919, q_1038, q_1043, q_1162, q_1167, q_1292, q_1297, q_1416, q_1421, q_1540, q_1545, q_1670, q_1675, q_1794, q_1799, q_1918, q_1923, q_2048, q_2053, q_2172, q_2177, q_2296, q_2301, q_2426, q_2431, q_2550, q_2555, q_2680, q_2685, q_2686, q_2687, q_2688, q_2689, q_2690, q_2691, q_2692, q_2857, q_2862, q_2863, q_2864, q_2865, q_2866, q_2867, q_2868, q_2869, q_3035, q_3040, q_3041, q_3042, q_3043, q_3044, q_3045, q_3046, q_3047, q_3219, q_3338, q_3458, q_3578] := ⟨_, rfl⟩
  rw [← eL_3701] at hN_3698
  obtain ⟨gs_3702, eG_3703⟩ : ∃ G9 : List (Nat × List Nat), G9 = [(3, [q_1, q_5, q_6]), (4, [q_41, q_47, q_48, q_49, q_50, q_51, q_52, q_53, q_54]), (0, [q_126, q_132]), (1, [q_183, q_188]), (0, [q_224, q_230]), (2, [q_328, q_333, q_334, q_335, q_336, q_337, q_338, q_339, q_340]), (2, [q_425, q_431, q_432, q_433, q_434, q_435, q_436, q_437, q_438]), (1, [q_661, q_666]), (1, [q_784, q_789]), (1, [q_914, q_919]), (1, [q_1038, q_1043]), (1, [q_1162, q_1167]), (1, [q_1292, q_1297]), (1, [q_1416, q_1421]), (1, [q_1540, q_1545]), (1, [q_1670, q_1675]), (1, [q_1794, q_1799]), (1, [q_1918, q_1923]), (1, [q_2048, q_2053]), (1, [q_2172, q_2177]), (1, [q_2296, q_2301]), (1, [q_2426, q_2431]), (1, [q_2550, q_2555]), (2, [q_2680, q_2685, q_2686, q_2687, q_2688, q_2689, q_2690, q_2691, q_2692]), (2, [q_2857, q_2862, q_2863, q_2864, q_2865, q_2866, q_2867, q_2868, q_2869]), (2, [q_3035, q_3040, q_3041, q_3042, q_3043, q_3044, q_3045, q_3046, q_3047]), (5, [q_3219]), (5, [q_3338]), (5, [q_3458]), (5, [q_3578])] := ⟨_, rfl⟩
  rw [← eG_3703] at hG_3699
  refine j_aload_n C dX9_init_226 rfl 1 rfl ?_
  show J _ _ _ _ _ 227 _
  refine j_new (N := 13) C (ci := 5) rfl rfl klX9_68 knX5 kiX5 (M.cells (by decide)) (M.slots (by decide)) dX9_init_227 (fun q_3704 hq_3705 => ?_)
  have hz_3706 : q_3704 ∉ hL S := fun h9 => hq_3705 (hf_3686.mem h9)
  have gn_3707 : ∀ g9 ∈ gs_3702, ∀ p9 ∈ (gT g9.1).2.2, g9.2.getD p9.2.1 0 ≠ q_3704 := Gs.ne hG_3699 hq_3705
  refine j_dup C dX9_init_230 rfl ?_
  have hf_3708 : Fm (fun _ _ => False) (fun f9 b9 => b9 = h) (fun _ => False) S (nO S_3641 q_3704 5) := (hf_3686.nO _ hq_3705)
  refine j_callI C [] [.ref q_3704, .ref h] mlX9_81 mcX5_init (c_X5_init (nO S_3641 q_3704 5) q_3704 mem_new (kd_nO' (k := 5))) (M.rm (by decide) (by decide) (Nat.le_of_ble_eq_true rfl) (Nat.le_of_ble_eq_true rfl)) rfl rfl (Nat.le_of_ble_eq_true rfl) dX9_init_231 (fun r_3709 S_3710 hp_3711 => ?_)
  obtain ⟨rfl, hf_3712⟩ := hp_3711
  refine J.eq (st' := [.ref q_3704, .ref h]) rfl rfl rfl ?_
  have hz_3713 : ∀ j, aI S_3710 q_161 j = 0 := fun j9 => (hf_3712.ai (mem_old hm_3646) (fun h9 => h9) j9).trans (hz_3649 j9)
  have hz_3714 : ∀ j, aI S_3710 q_266 j = 0 := fun j9 => (hf_3712.ai (mem_old hm_3650) (fun h9 => h9) j9).trans (hz_3653 j9)
  have hz_3715 : ∀ j, aI S_3710 q_295 j = 0 := fun j9 => (hf_3712.ai (mem_old hm_3654) (fun h9 => h9) j9).trans (hz_3657 j9)
  have hz_3716 : ∀ j, aI S_3710 q_524 j = 0 := fun j9 => (hf_3712.ai (mem_old hm_3660) (fun h9 => h9) j9).trans (hz_3663 j9)
  have hz_3717 : ∀ j, aI S_3710 q_565 j = 0 := fun j9 => (hf_3712.ai (mem_old hm_3664) (fun h9 => h9) j9).trans (hz_3667 j9)
  have hz_3718 : ∀ j, aI S_3710 q_610 j = 0 := fun j9 => (hf_3712.ai (mem_old hm_3668) (fun h9 => h9) j9).trans (hz_3671 j9)
  have hm_3719 : h ∈ hL S_3710 := hf_3712.mem (mem_old hm_3644)
  have hk_3720 : Kd S_3710 h 9 := hf_3712.kd (mem_old hm_3644) (kd_nO (k := 5) hq_3705 hm_3644 hk_3645)
  have hm_3721 : q_161 ∈ hL S_3710 := hf_3712.mem (mem_old hm_3646)
  have hk_3722 : Kd S_3710 q_161 20 := hf_3712.kd (mem_old hm_3646) (kd_nO (k := 5) hq_3705 hm_3646 hk_3647)
  have hn_3723 : Ln S_3710 q_161 16 := hf_3712.ln (mem_old hm_3646) hn_3648
  have hm_3724 : q_266 ∈ hL S_3710 := hf_3712.mem (mem_old hm_3650)
  have hk_3725 : Kd S_3710 q_266 13 := hf_3712.kd (mem_old hm_3650) (kd_nO (k := 5) hq_3705 hm_3650 hk_3651)
  have hn_3726 : Ln S_3710 q_266 24000 := hf_3712.ln (mem_old hm_3650) hn_3652
  have hm_3727 : q_295 ∈ hL S_3710 := hf_3712.mem (mem_old hm_3654)
  have hk_3728 : Kd S_3710 q_295 14 := hf_3712.kd (mem_old hm_3654) (kd_nO (k := 5) hq_3705 hm_3654 hk_3655)
  have hn_3729 : Ln S_3710 q_295 16 := hf_3712.ln (mem_old hm_3654) hn_3656
  have hm_3730 : q_3704 ∈ hL S_3710 := hf_3712.mem mem_new
  have hk_3731 : Kd S_3710 q_3704 5 := hf_3712.kd mem_new (kd_nO' (k := 5))
  have hm_3732 : q_524 ∈ hL S_3710 := hf_3712.mem (mem_old hm_3660)
  have hk_3733 : Kd S_3710 q_524 18 := hf_3712.kd (mem_old hm_3660) (kd_nO (k := 5) hq_3705 hm_3660 hk_3661)
  have hn_3734 : Ln S_3710 q_524 3 := hf_3712.ln (mem_old hm_3660) hn_3662
  have hm_3735 : q_565 ∈ hL S_3710 := hf_3712.mem (mem_old hm_3664)
  have hk_3736 : Kd S_3710 q_565 19 := hf_3712.kd (mem_old hm_3664) (kd_nO (k := 5) hq_3705 hm_3664 hk_3665)
  have hn_3737 : Ln S_3710 q_565 4 := hf_3712.ln (mem_old hm_3664) hn_3666
  have hm_3738 : q_610 ∈ hL S_3710 := hf_3712.mem (mem_old hm_3668)
  have hk_3739 : Kd S_3710 q_610 14 := hf_3712.kd (mem_old hm_3668) (kd_nO (k := 5) hq_3705 hm_3668 hk_3669)
  have hn_3740 : Ln S_3710 q_610 12 := hf_3712.ln (mem_old hm_3668) hn_3670
  have hv_3741 : hR S_3710 900 h = (some s0) := hf_3712.fr (mem_old hm_3644) (fun q9 => (fun e9 => absurd (((kd_nO (k := 5) hq_3705 hm_3644 hk_3645)).symm.trans ((congrArg (hK _) e9).trans (kd_nO' (k := 5)))) (by decide)) q9) (rd_nOR (k := 5) hq_3705 hm_3644 hv_3672)
  have hv_3742 : hR S_3710 901 h = (some q_1) := hf_3712.fr (mem_old hm_3644) (fun q9 => (fun e9 => absurd (((kd_nO (k := 5) hq_3705 hm_3644 hk_3645)).symm.trans ((congrArg (hK _) e9).trans (kd_nO' (k := 5)))) (by decide)) q9) (rd_nOR (k := 5) hq_3705 hm_3644 hv_3673)
  have hv_3743 : hR S_3710 902 h = (some q_41) := hf_3712.fr (mem_old hm_3644) (fun q9 => (fun e9 => absurd (((kd_nO (k := 5) hq_3705 hm_3644 hk_3645)).symm.trans ((congrArg (hK _) e9).trans (kd_nO' (k := 5)))) (by decide)) q9) (rd_nOR (k := 5) hq_3705 hm_3644 hv_3674)
  have hv_3744 : hR S_3710 903 h = (some q_126) := hf_3712.fr (mem_old hm_3644) (fun q9 => (fun e9 => absurd (((kd_nO (k := 5) hq_3705 hm_3644 hk_3645)).symm.trans ((congrArg (hK _) e9).trans (kd_nO' (k := 5)))) (by decide)) q9) (rd_nOR (k := 5) hq_3705 hm_3644 hv_3675)
  have hv_3745 : hR S_3710 904 h = (some q_161) := hf_3712.fr (mem_old hm_3644) (fun q9 => (fun e9 => absurd (((kd_nO (k := 5) hq_3705 hm_3644 hk_3645)).symm.trans ((congrArg (hK _) e9).trans (kd_nO' (k := 5)))) (by decide)) q9) (rd_nOR (k := 5) hq_3705 hm_3644 hv_3676)
  have hv_3746 : hR S_3710 905 h = (some q_183) := hf_3712.fr (mem_old hm_3644) (fun q9 => (fun e9 => absurd (((kd_nO (k := 5) hq_3705 hm_3644 hk_3645)).symm.trans ((congrArg (hK _) e9).trans (kd_nO' (k := 5)))) (by decide)) q9) (rd_nOR (k := 5) hq_3705 hm_3644 hv_3677)
  have hv_3747 : hR S_3710 906 h = (some q_224) := hf_3712.fr (mem_old hm_3644) (fun q9 => (fun e9 => absurd (((kd_nO (k := 5) hq_3705 hm_3644 hk_3645)).symm.trans ((congrArg (hK _) e9).trans (kd_nO' (k := 5)))) (by decide)) q9) (rd_nOR (k := 5) hq_3705 hm_3644 hv_3678)
  have hv_3748 : hR S_3710 907 h = (some q_266) := hf_3712.fr (mem_old hm_3644) (fun q9 => (fun e9 => absurd (((kd_nO (k := 5) hq_3705 hm_3644 hk_3645)).symm.trans ((congrArg (hK _) e9).trans (kd_nO' (k := 5)))) (by decide)) q9) (rd_nOR (k := 5) hq_3705 hm_3644 hv_3679)
  have hv_3749 : hR S_3710 908 h = (some q_295) := hf_3712.fr (mem_old hm_3644) (fun q9 => (fun e9 => absurd (((kd_nO (k := 5) hq_3705 hm_3644 hk_3645)).symm.trans ((congrArg (hK _) e9).trans (kd_nO' (k := 5)))) (by decide)) q9) (rd_nOR (k := 5) hq_3705 hm_3644 hv_3680)
  have hv_3750 : hR S_3710 909 h = (some q_328) := hf_3712.fr (mem_old hm_3644) (fun q9 => (fun e9 => absurd (((kd_nO (k := 5) hq_3705 hm_3644 hk_3645)).symm.trans ((congrArg (hK _) e9).trans (kd_nO' (k := 5)))) (by decide)) q9) (rd_nOR (k := 5) hq_3705 hm_3644 hv_3681)
  have hv_3751 : hR S_3710 910 h = (some q_425) := hf_3712.fr (mem_old hm_3644) (fun q9 => (fun e9 => absurd (((kd_nO (k := 5) hq_3705 hm_3644 hk_3645)).symm.trans ((congrArg (hK _) e9).trans (kd_nO' (k := 5)))) (by decide)) q9) (rd_nOR (k := 5) hq_3705 hm_3644 hv_3682)
  have hv_3752 : hR S_3710 911 h = (some q_524) := hf_3712.fr (mem_old hm_3644) (fun q9 => (fun e9 => absurd (((kd_nO (k := 5) hq_3705 hm_3644 hk_3645)).symm.trans ((congrArg (hK _) e9).trans (kd_nO' (k := 5)))) (by decide)) q9) (rd_nOR (k := 5) hq_3705 hm_3644 hv_3683)
  have hv_3753 : hR S_3710 912 h = (some q_565) := hf_3712.fr (mem_old hm_3644) (fun q9 => (fun e9 => absurd (((kd_nO (k := 5) hq_3705 hm_3644 hk_3645)).symm.trans ((congrArg (hK _) e9).trans (kd_nO' (k := 5)))) (by decide)) q9) (rd_nOR (k := 5) hq_3705 hm_3644 hv_3684)
  have hv_3754 : hR S_3710 917 h = (some q_610) := hf_3712.fr (mem_old hm_3644) (fun q9 => (fun e9 => absurd (((kd_nO (k := 5) hq_3705 hm_3644 hk_3645)).symm.trans ((congrArg (hK _) e9).trans (kd_nO' (k := 5)))) (by decide)) q9) (rd_nOR (k := 5) hq_3705 hm_3644 hv_3685)
  have hf_3755 : Fm (fun _ _ => False) (fun f9 b9 => b9 = h) (fun _ => False) S S_3710 := hf_3708.then hf_3712 (fun a9 ha9 => ⟨(fun f9 h9 => h9.elim), (fun f9 h9 => (fun h8 => absurd (h8 ▸ ha9) hz_3706) h9), (fun h9 => h9.elim)⟩)
  have hN_3756 : NL S L_3700 S_3710 := NL.mono (show NL S L_3700 (nO S_3641 q_3704 5) from NL.oldO hN_3698) (fun a9 h9 => hf_3712.mem h9)
  have hG_3757 : Gs h gs_3702 S_3710 := Gs.fm (show Gs h gs_3702 (nO S_3641 q_3704 5) from Gs.nO hG_3699 hq_3705) hf_3712 (fun g9 hg9 p9 hp9 => gn_3707 g9 hg9 p9 hp9)
  have hE_3758 : ELs S_3710 q_161 [q_661, q_784, q_914, q_1038, q_1162, q_1292, q_1416, q_1540, q_1670, q_1794, q_1918, q_2048, q_2172, q_2296, q_2426, q_2550] := ELs.fm (ELs.nO (S := S_3641) hE_3689) hf_3712 (mem_old hm_3646) (fun h9 => h9)
  have hE_3759 : ELs S_3710 q_524 [q_2680, q_2857, q_3035] := ELs.fm (ELs.nO (S := S_3641) hE_3690) hf_3712 (mem_old hm_3660) (fun h9 => h9)
  have hE_3760 : ELs S_3710 q_565 [q_3219, q_3338, q_3458, q_3578] := ELs.fm (ELs.nO (S := S_3641) hE_3691) hf_3712 (mem_old hm_3664) (fun h9 => h9)
  have hGt_3761 : Gt 5 [q_3704] S_3710 := ⟨fun i9 k9 h9 => (match i9, h9 with | 0, h9 => (by have e9 : (5 : Nat) = k9 := Option.some.inj h9; subst e9; exact ⟨hm_3730, hk_3731⟩) | i9 + 1, h9 => absurd h9 (by simp [gT])), (fun _ h9 => absurd h9 List.not_mem_nil), (fun _ h9 => absurd h9 List.not_mem_nil), (fun _ h9 => absurd h9 List.not_mem_nil)⟩
  have hG_3762 : Gs h (gs_3702 ++ [(5, [q_3704])]) S_3710 := Gs.snoc hG_3757 (by decide) hGt_3761 (fun _ h9 => absurd h9 List.not_mem_nil)
  obtain ⟨gs_3763, eG_3764⟩ : ∃ G9 : List (Nat × List Nat), G9 = gs_3702 ++ [(5, [q_3704])] := ⟨_, rfl⟩
  rw [← eG_3764] at hG_3762
  refine j_putr (f := 913) C flX9_82 (by decide) rfl rfl dX9_init_234 hm_3719 hk_3720 rfl ?_
  have hf_3767 : Fm (fun _ _ => False) (fun f9 b9 => b9 = h) (fun _ => False) S (sR S_3710 913 h (some q_3704)) := (hf_3755.sR _ (fun _ => rfl))
  obtain ⟨S_3765, eS_3766⟩ : ∃ S9 : Hp, S9 = (sR S_3710 913 h (some q_3704)) := ⟨_, rfl⟩
  refine J.eq (S' := S_3765) eS_3766.symm rfl rfl ?_
  have hm_3768 : h ∈ hL S_3765 := by rw [eS_3766]; exact hm_3719
  have hk_3769 : Kd S_3765 h 9 := by rw [eS_3766]; exact hk_3720
  have hm_3770 : q_161 ∈ hL S_3765 := by rw [eS_3766]; exact hm_3721
  have hk_3771 : Kd S_3765 q_161 20 := by rw [eS_3766]; exact hk_3722
  have hn_3772 : Ln S_3765 q_161 16 := by rw [eS_3766]; exact hn_3723
  have hz_3773 : ∀ j, aI S_3765 q_161 j = 0 := by rw [eS_3766]; exact hz_3713
  have hm_3774 : q_266 ∈ hL S_3765 := by rw [eS_3766]; exact hm_3724
  have hk_3775 : Kd S_3765 q_266 13 := by rw [eS_3766]; exact hk_3725
  have hn_3776 : Ln S_3765 q_266 24000 := by rw [eS_3766]; exact hn_3726
  have hz_3777 : ∀ j, aI S_3765 q_266 j = 0 := by rw [eS_3766]; exact hz_3714
  have hm_3778 : q_295 ∈ hL S_3765 := by rw [eS_3766]; exact hm_3727
  have hk_3779 : Kd S_3765 q_295 14 := by rw [eS_3766]; exact hk_3728
  have hn_3780 : Ln S_3765 q_295 16 := by rw [eS_3766]; exact hn_3729
  have hz_3781 : ∀ j, aI S_3765 q_295 j = 0 := by rw [eS_3766]; exact hz_3715
  have hm_3782 : q_524 ∈ hL S_3765 := by rw [eS_3766]; exact hm_3732
  have hk_3783 : Kd S_3765 q_524 18 := by rw [eS_3766]; exact hk_3733
  have hn_3784 : Ln S_3765 q_524 3 := by rw [eS_3766]; exact hn_3734
  have hz_3785 : ∀ j, aI S_3765 q_524 j = 0 := by rw [eS_3766]; exact hz_3716
  have hm_3786 : q_565 ∈ hL S_3765 := by rw [eS_3766]; exact hm_3735
  have hk_3787 : Kd S_3765 q_565 19 := by rw [eS_3766]; exact hk_3736
  have hn_3788 : Ln S_3765 q_565 4 := by rw [eS_3766]; exact hn_3737
  have hz_3789 : ∀ j, aI S_3765 q_565 j = 0 := by rw [eS_3766]; exact hz_3717
  have hm_3790 : q_610 ∈ hL S_3765 := by rw [eS_3766]; exact hm_3738
  have hk_3791 : Kd S_3765 q_610 14 := by rw [eS_3766]; exact hk_3739
  have hn_3792 : Ln S_3765 q_610 12 := by rw [eS_3766]; exact hn_3740
  have hz_3793 : ∀ j, aI S_3765 q_610 j = 0 := by rw [eS_3766]; exact hz_3718
  have hv_3794 : hR S_3765 900 h = (some s0) := by rw [eS_3766]; exact (rd_sRf (S := S_3710) (g := 913) (a := h) (v := (some q_3704)) (by decide) hv_3741)
  have hv_3795 : hR S_3765 901 h = (some q_1) := by rw [eS_3766]; exact (rd_sRf (S := S_3710) (g := 913) (a := h) (v := (some q_3704)) (by decide) hv_3742)
  have hv_3796 : hR S_3765 902 h = (some q_41) := by rw [eS_3766]; exact (rd_sRf (S := S_3710) (g := 913) (a := h) (v := (some q_3704)) (by decide) hv_3743)
  have hv_3797 : hR S_3765 903 h = (some q_126) := by rw [eS_3766]; exact (rd_sRf (S := S_3710) (g := 913) (a := h) (v := (some q_3704)) (by decide) hv_3744)
  have hv_3798 : hR S_3765 904 h = (some q_161) := by rw [eS_3766]; exact (rd_sRf (S := S_3710) (g := 913) (a := h) (v := (some q_3704)) (by decide) hv_3745)
  have hv_3799 : hR S_3765 905 h = (some q_183) := by rw [eS_3766]; exact (rd_sRf (S := S_3710) (g := 913) (a := h) (v := (some q_3704)) (by decide) hv_3746)
  have hv_3800 : hR S_3765 906 h = (some q_224) := by rw [eS_3766]; exact (rd_sRf (S := S_3710) (g := 913) (a := h) (v := (some q_3704)) (by decide) hv_3747)
  have hv_3801 : hR S_3765 907 h = (some q_266) := by rw [eS_3766]; exact (rd_sRf (S := S_3710) (g := 913) (a := h) (v := (some q_3704)) (by decide) hv_3748)
  have hv_3802 : hR S_3765 908 h = (some q_295) := by rw [eS_3766]; exact (rd_sRf (S := S_3710) (g := 913) (a := h) (v := (some q_3704)) (by decide) hv_3749)
  have hv_3803 : hR S_3765 909 h = (some q_328) := by rw [eS_3766]; exact (rd_sRf (S := S_3710) (g := 913) (a := h) (v := (some q_3704)) (by decide) hv_3750)
  have hv_3804 : hR S_3765 910 h = (some q_425) := by rw [eS_3766]; exact (rd_sRf (S := S_3710) (g := 913) (a := h) (v := (some q_3704)) (by decide) hv_3751)
  have hv_3805 : hR S_3765 911 h = (some q_524) := by rw [eS_3766]; exact (rd_sRf (S := S_3710) (g := 913) (a := h) (v := (some q_3704)) (by decide) hv_3752)
  have hv_3806 : hR S_3765 912 h = (some q_565) := by rw [eS_3766]; exact (rd_sRf (S := S_3710) (g := 913) (a := h) (v := (some q_3704)) (by decide) hv_3753)
  have hv_3807 : hR S_3765 913 h = (some q_3704) := by rw [eS_3766]; exact (rd_sR (S := S_3710) (g := 913) (a := h) (v := (some q_3704)))
  have hv_3808 : hR S_3765 917 h = (some q_610) := by rw [eS_3766]; exact (rd_sRf (S := S_3710) (g := 913) (a := h) (v := (some q_3704)) (by decide) hv_3754)
  have hf_3809 : Fm (fun _ _ => False) (fun f9 b9 => b9 = h) (fun _ => False) S S_3765 := by rw [eS_3766]; exact hf_3767
  have hN_3810 : NL S L_3700 S_3765 := by rw [eS_3766]; exact (NL.sR (S := S_3710) hN_3756)
  have hG_3811 : Gs h gs_3763 S_3765 := by rw [eS_3766]; exact (Gs.sR (S := S_3710) hG_3762)
  have hE_3812 : ELs S_3765 q_161 [q_661, q_784, q_914, q_1038, q_1162, q_1292, q_1416, q_1540, q_1670, q_1794, q_1918, q_2048, q_2172, q_2296, q_2426, q_2550] := by rw [eS_3766]; exact (ELs.sR (S := S_3710) hE_3758)
  have hE_3813 : ELs S_3765 q_524 [q_2680, q_2857, q_3035] := by rw [eS_3766]; exact (ELs.sR (S := S_3710) hE_3759)
  have hE_3814 : ELs S_3765 q_565 [q_3219, q_3338, q_3458, q_3578] := by rw [eS_3766]; exact (ELs.sR (S := S_3710) hE_3760)
  have hGe : Gs h [(3, [q_1, q_5, q_6]), (4, [q_41, q_47, q_48, q_49, q_50, q_51, q_52, q_53, q_54]), (0, [q_126, q_132]), (1, [q_183, q_188]), (0, [q_224, q_230]), (2, [q_328, q_333, q_334, q_335, q_336, q_337, q_338, q_339, q_340]), (2, [q_425, q_431, q_432, q_433, q_434, q_435, q_436, q_437, q_438]), (1, [q_661, q_666]), (1, [q_784, q_789]), (1, [q_914, q_919]), (1, [q_1038, q_1043]), (1, [q_1162, q_1167]), (1, [q_1292, q_1297]), (1, [q_1416, q_1421]), (1, [q_1540, q_1545]), (1, [q_1670, q_1675]), (1, [q_1794, q_1799]), (1, [q_1918, q_1923]), (1, [q_2048, q_2053]), (1, [q_2172, q_2177]), (1, [q_2296, q_2301]), (1, [q_2426, q_2431]), (1, [q_2550, q_2555]), (2, [q_2680, q_2685, q_2686, q_2687, q_2688, q_2689, q_2690, q_2691, q_2692]), (2, [q_2857, q_2862, q_2863, q_2864, q_2865, q_2866, q_2867, q_2868, q_2869]), (2, [q_3035, q_3040, q_3041, q_3042, q_3043, q_3044, q_3045, q_3046, q_3047]), (5, [q_3219]), (5, [q_3338]), (5, [q_3458]), (5, [q_3578]), (5, [q_3704])] S_3765 := by have h9 := hG_3811; rw [eG_3764, eG_3703] at h9; simpa only [List.nil_append, List.cons_append, List.append_assoc] using h9
  have hNe : NL S [q_1, q_5, q_6, q_41, q_47, q_48, q_49, q_50, q_51, q_52, q_53, q_54, q_126, q_132, q_161, q_183, q_188, q_224, q_230, q_266, q_295, q_328, q_333, q_334, q_335, q_336, q_337, q_338, q_339, q_340, q_425, q_431, q_432, q_433, q_434, q_435, q_436, q_437, q_438, q_524, q_565, q_610, q_661, q_666, q_784, q_789, q_914, q_919, q_1038, q_1043, q_1162, q_1167, q_1292, q_1297, q_1416, q_1421, q_1540, q_1545, q_1670, q_1675, q_1794, q_1799, q_1918, q_1923, q_2048, q_2053, q_2172, q_2177, q_2296, q_2301, q_2426, q_2431, q_2550, q_2555, q_2680, q_2685, q_2686, q_2687, q_2688, q_2689, q_2690, q_2691, q_2692, q_2857, q_2862, q_2863, q_2864, q_2865, q_2866, q_2867, q_2868, q_2869, q_3035, q_3040, q_3041, q_3042, q_3043, q_3044, q_3045, q_3046, q_3047, q_3219, q_3338, q_3458, q_3578] S_3765 := by have h9 := hN_3810; rw [eL_3701] at h9; simpa only [List.nil_append, List.cons_append, List.append_assoc] using h9
  exact j_vret C M dX9_init_237 (Nat.le_of_ble_eq_true rfl) (Nat.le_of_ble_eq_true rfl) ⟨rfl, hf_3809, hv_3794, [q_1, q_5, q_6, q_41, q_47, q_48, q_49, q_50, q_51, q_52, q_53, q_54, q_126, q_132, q_161, q_183, q_188, q_224, q_230, q_266, q_295, q_328, q_333, q_334, q_335, q_336, q_337, q_338, q_339, q_340, q_425, q_431, q_432, q_433, q_434, q_435, q_436, q_437, q_438, q_524, q_565, q_610, q_661, q_666, q_784, q_789, q_914, q_919, q_1038, q_1043, q_1162, q_1167, q_1292, q_1297, q_1416, q_1421, q_1540, q_1545, q_1670, q_1675, q_1794, q_1799, q_1918, q_1923, q_2048, q_2053, q_2172, q_2177, q_2296, q_2301, q_2426, q_2431, q_2550, q_2555, q_2680, q_2685, q_2686, q_2687, q_2688, q_2689, q_2690, q_2691, q_2692, q_2857, q_2862, q_2863, q_2864, q_2865, q_2866, q_2867, q_2868, q_2869, q_3035, q_3040, q_3041, q_3042, q_3043, q_3044, q_3045, q_3046, q_3047, q_3219, q_3338, q_3458, q_3578], (wt9_mk hGe hm_3790 hk_3791 hm_3786 hk_3787 hm_3782 hk_3783 hm_3778 hk_3779 hm_3774 hk_3775 hm_3770 hk_3771 hm_3768 hk_3769 hE_3812 hE_3813 hE_3814 hn_3772 hn_3776 hn_3780 hn_3784 hn_3788 hn_3792 hv_3795 hv_3796 hv_3797 hv_3798 hv_3799 hv_3800 hv_3801 hv_3802 hv_3803 hv_3804 hv_3805 hv_3806 hv_3808).1, rfl, hNe, (wt9_mk hGe hm_3790 hk_3791 hm_3786 hk_3787 hm_3782 hk_3783 hm_3778 hk_3779 hm_3774 hk_3775 hm_3770 hk_3771 hm_3768 hk_3769 hE_3812 hE_3813 hE_3814 hn_3772 hn_3776 hn_3780 hn_3784 hn_3788 hn_3792 hv_3795 hv_3796 hv_3797 hv_3798 hv_3799 hv_3800 hv_3801 hv_3802 hv_3803 hv_3804 hv_3805 hv_3806 hv_3808).2⟩

set_option maxRecDepth 100000 in
set_option maxHeartbeats 8000000 in
theorem x9_t14 {x : JX} {S S_3641 : Hp} {h s0 q_1 q_5 q_6 q_41 q_47 q_48 q_49 q_50 q_51 q_52 q_53 q_54 q_126 q_132 q_161 q_183 q_188 q_224 q_230 q_266 q_295 q_328 q_333 q_334 q_335 q_336 q_337 q_338 q_339 q_340 q_425 q_431 q_432 q_433 q_434 q_435 q_436 q_437 q_438 q_524 q_565 q_610 q_661 q_666 q_784 q_789 q_914 q_919 q_1038 q_1043 q_1162 q_1167 q_1292 q_1297 q_1416 q_1421 q_1540 q_1545 q_1670 q_1675 q_1794 q_1799 q_1918 q_1923 q_2048 q_2053 q_2172 q_2177 q_2296 q_2301 q_2426 q_2431 q_2550 q_2555 q_2680 q_2685 q_2686 q_2687 q_2688 q_2689 q_2690 q_2691 q_2692 q_2857 q_2862 q_2863 q_2864 q_2865 q_2866 q_2867 q_2868 q_2869 q_3035 q_3040 q_3041 q_3042 q_3043 q_3044 q_3045 q_3046 q_3047 q_3219 q_3338 q_3458 q_3578 : Nat} (hn9 : x_n x = 3) (C : CB x RX9 cX9_init) (M : CM x 4 113 68424 none S (fun r S' => r = none ∧ Fm (fun _ _ => False) (fun f9 b9 => b9 = h) (fun _ => False) S S' ∧ hR S' 900 h = some s0 ∧ ∃ l : List Nat, Wt s9K s9N s9P s9Q (fun i => (h :: l).getD i 0) S' ∧ l.length = 105 ∧ NL S l S' ∧ (∀ j, aI S' ((h :: l).getD 6 0) j = 0) ∧ (∀ j, aI S' ((h :: l).getD 9 0) j = 0) ∧ (∀ j, aI S' ((h :: l).getD 14 0) j = 0) ∧ (∀ j, aI S' ((h :: l).getD 19 0) j = 0))) (hm9 : (x_meth x).name = yX9_init.name) (hm0_9 : h ∈ hL S) (hz_164 : q_161 ∉ hL S) (hz_269 : q_266 ∉ hL S) (hz_297 : q_295 ∉ hL S) (hz_527 : q_524 ∉ hL S) (hz_567 : q_565 ∉ hL S) (hz_612 : q_610 ∉ hL S) (hm_3644 : h ∈ hL S_3641) (hk_3645 : Kd S_3641 h 9) (hm_3646 : q_161 ∈ hL S_3641) (hk_3647 : Kd S_3641 q_161 20) (hn_3648 : Ln S_3641 q_161 16) (hz_3649 : ∀ j, aI S_3641 q_161 j = 0) (hm_3650 : q_266 ∈ hL S_3641) (hk_3651 : Kd S_3641 q_266 13) (hn_3652 : Ln S_3641 q_266 24000) (hz_3653 : ∀ j, aI S_3641 q_266 j = 0) (hm_3654 : q_295 ∈ hL S_3641) (hk_3655 : Kd S_3641 q_295 14) (hn_3656 : Ln S_3641 q_295 16) (hz_3657 : ∀ j, aI S_3641 q_295 j = 0) (hm_3660 : q_524 ∈ hL S_3641) (hk_3661 : Kd S_3641 q_524 18) (hn_3662 : Ln S_3641 q_524 3) (hz_3663 : ∀ j, aI S_3641 q_524 j = 0) (hm_3664 : q_565 ∈ hL S_3641) (hk_3665 : Kd S_3641 q_565 19) (hn_3666 : Ln S_3641 q_565 4) (hz_3667 : ∀ j, aI S_3641 q_565 j = 0) (hm_3668 : q_610 ∈ hL S_3641) (hk_3669 : Kd S_3641 q_610 14) (hn_3670 : Ln S_3641 q_610 12) (hz_3671 : ∀ j, aI S_3641 q_610 j = 0) (hv_3672 : hR S_3641 900 h = (some s0)) (hv_3673 : hR S_3641 901 h = (some q_1)) (hv_3674 : hR S_3641 902 h = (some q_41)) (hv_3675 : hR S_3641 903 h = (some q_126)) (hv_3676 : hR S_3641 904 h = (some q_161)) (hv_3677 : hR S_3641 905 h = (some q_183)) (hv_3678 : hR S_3641 906 h = (some q_224)) (hv_3679 : hR S_3641 907 h = (some q_266)) (hv_3680 : hR S_3641 908 h = (some q_295)) (hv_3681 : hR S_3641 909 h = (some q_328)) (hv_3682 : hR S_3641 910 h = (some q_425)) (hv_3683 : hR S_3641 911 h = (some q_524)) (hv_3684 : hR S_3641 912 h = (some q_565)) (hv_3685 : hR S_3641 917 h = (some q_610)) (hN_3692 : NL S [q_1, q_5, q_6, q_41, q_47, q_48, q_49, q_50, q_51, q_52, q_53, q_54, q_126, q_132, q_161, q_183, q_188, q_224, q_230, q_266, q_295, q_328, q_333, q_334, q_335, q_336, q_337, q_338, q_339, q_340, q_425, q_431, q_432, q_433, q_434, q_435, q_436, q_437, q_438, q_524, q_565, q_610, q_661, q_666, q_784, q_789, q_914, q_919, q_1038, q_1043, q_1162, q_1167, q_1292, q_1297, q_1416, q_1421, q_1540, q_1545, q_1670, q_1675, q_1794, q_1799, q_1918, q_1923, q_2048, q_2053, q_2172, q_2177, q_2296, q_2301, q_2426, q_2431, q_2550, q_2555, q_2680, q_2685, q_2686, q_2687, q_2688, q_2689, q_2690, q_2691, q_2692, q_2857, q_2862, q_2863, q_2864, q_2865, q_2866, q_2867, q_2868, q_2869, q_3035, q_3040, q_3041, q_3042, q_3043, q_3044, q_3045, q_3046, q_3047, q_3219, q_3338, q_3458, q_3578] S_3641) (hG_3693 : Gs h [(3, [q_1, q_5, q_6]), (4, [q_41, q_47, q_48, q_49, q_50, q_51, q_52, q_53, q_54]), (0, [q_126, q_132]), (1, [q_183, q_188]), (0, [q_224, q_230]), (2, [q_328, q_333, q_334, q_335, q_336, q_337, q_338, q_339, q_340]), (2, [q_425, q_431, q_432, q_433, q_434, q_435, q_436, q_437, q_438]), (1, [q_661, q_666]), (1, [q_784, q_789]), (1, [q_914, q_919]), (1, [q_1038, q_1043]), (1, [q_1162, q_1167]), (1, [q_1292, q_1297]), (1, [q_1416, q_1421]), (1, [q_1540, q_1545]), (1, [q_1670, q_1675]), (1, [q_1794, q_1799]), (1, [q_1918, q_1923]), (1, [q_2048, q_2053]), (1, [q_2172, q_2177]), (1, [q_2296, q_2301]), (1, [q_2426, q_2431]), (1, [q_2550, q_2555]), (2, [q_2680, q_2685, q_2686, q_2687, q_2688, q_2689, q_2690, q_2691, q_2692]), (2, [q_2857, q_2862, q_2863, q_2864, q_2865, q_2866, q_2867, q_2868, q_2869]), (2, [q_3035, q_3040, q_3041, q_3042, q_3043, q_3044, q_3045, q_3046, q_3047]), (5, [q_3219]), (5, [q_3338]), (5, [q_3458]), (5, [q_3578])] S_3641) (hE_3689 : ELs S_3641 q_161 [q_661, q_784, q_914, q_1038, q_1162, q_1292, q_1416, q_1540, q_1670, q_1794, q_1918, q_2048, q_2172, q_2296, q_2426, q_2550]) (hE_3690 : ELs S_3641 q_524 [q_2680, q_2857, q_3035]) (hE_3691 : ELs S_3641 q_565 [q_3219, q_3338, q_3458, q_3578]) (hf_3686 : Fm (fun _ _ => False) (fun f9 b9 => b9 = h) (fun _ => False) S S_3641) : J x (0 + 1 + 4 + 1 + 8 + 1 + 1 + 1 + 1 + 1 + 1 + 1 + 1 + 1 + 1 + 8 + 1 + 8 + 1 + 1 + 1 + 1 + 1 + 1 + 1 + 1 + 1 + 1 + 1 + 1 + 1 + 1 + 1 + 1 + 1 + 1 + 1 + 1 + 1 + 1 + 1 + 1 + 1 + 1 + 1 + 1 + 1 + 1 + 1 + 1 + 1 + 1 + 1 + 1 + 8 + 1 + 8 + 1 + 8 + 1 + 1 + 1 + 1 + 1 + 1 + 1 + 1) (0 + 15 + 20045 + 10 + 23174 + 1 + 16 + 16 + 4 + 16 + 1 + 16 + 24000 + 16 + 21 + 117 + 21 + 117 + 3 + 4 + 12 + 4 + 16 + 4 + 16 + 4 + 16 + 4 + 16 + 4 + 16 + 4 + 16 + 4 + 16 + 4 + 16 + 4 + 16 + 4 + 16 + 4 + 16 + 4 + 16 + 4 + 16 + 4 + 16 + 4 + 16 + 4 + 16 + 21 + 117 + 21 + 117 + 21 + 117 + 13 + 0 + 13 + 0 + 13 + 0 + 13 + 0) S_3641 [(2, .int 4), (0, .ref h), (1, .ref s0)] 198 [] := by
  obtain ⟨L_3694, eL_3695⟩ : ∃ L9 : List Nat, L9 = [q_1, q_5, q_6, q_41, q_47, q_48, q_49, q_50, q_51, q_52, q_53, q_54, q_126, q_132, q_161, q_183, q_188, q_224, q_230, q_266, q_295, q_328, q_333, q_334, q_335, q_336, q_337, q_338, q_339, q_340, q_425, q_431, q_432, q_433, q_434, q_435, q_436, q_437, q_438, q_524, q_565, q_610, q_661, q_666, q_784, q_789, q_914, q_919, q_1038, q_1043, q_1162, q_1167, q_1292, q_1297, q_1416, q_1421, q_1540, q_1545, q_1670, q_1675, q_1794, q_1799, q_1918, q_1923, q_2048, q_2053, q_2172, q_2177, q_2296, q_2301, q_2426, q_2431, q_2550, q_2555, q_2680, q_2685, q_2686, q_2687, q_2688, q_2689, q_2690, q_2691, q_2692, q_2857, q_2862, q_2863, q_2864, q_2865, q_2866, q_2867, q_2868, q_2869, q_3035, q_3040, q_3041, q_3042, q_3043, q_3044, q_3045, q_3046, q_3047, q_3219, q_3338, q_3458, q_3578] := ⟨_, rfl⟩
  rw [← eL_3695] at hN_3692
  obtain ⟨gs_3696, eG_3697⟩ : ∃ G9 : List (Nat × List Nat), G9 = [(3, [q_1, q_5, q_6]), (4, [q_41, q_47, q_48, q_49, q_50, q_51, q_52, q_53, q_54]), (0, [q_126, q_132]), (1, [q_183, q_188]), (0, [q_224, q_230]), (2, [q_328, q_333, q_334, q_335, q_336, q_337, q_338, q_339, q_340]), (2, [q_425, q_431, q_432, q_433, q_434, q_435, q_436, q_437, q_438]), (1, [q_661, q_666]), (1, [q_784, q_789]), (1, [q_914, q_919]), (1, [q_1038, q_1043]), (1, [q_1162, q_1167]), (1, [q_1292, q_1297]), (1, [q_1416, q_1421]), (1, [q_1540, q_1545]), (1, [q_1670, q_1675]), (1, [q_1794, q_1799]), (1, [q_1918, q_1923]), (1, [q_2048, q_2053]), (1, [q_2172, q_2177]), (1, [q_2296, q_2301]), (1, [q_2426, q_2431]), (1, [q_2550, q_2555]), (2, [q_2680, q_2685, q_2686, q_2687, q_2688, q_2689, q_2690, q_2691, q_2692]), (2, [q_2857, q_2862, q_2863, q_2864, q_2865, q_2866, q_2867, q_2868, q_2869]), (2, [q_3035, q_3040, q_3041, q_3042, q_3043, q_3044, q_3045, q_3046, q_3047]), (5, [q_3219]), (5, [q_3338]), (5, [q_3458]), (5, [q_3578])] := ⟨_, rfl⟩
  rw [← eG_3697] at hG_3693
  refine j_iload_n C dX9_init_198 rfl 0 rfl ?_
  refine j_aload_n C dX9_init_199 rfl 1 rfl ?_
  refine j_getr (f := 912) (v := q_565) C flX9_70 dX9_init_200 hm_3644 hk_3645 (by decide) rfl hv_3684 ?_
  refine j_alen (v := 4) C dX9_init_203 hm_3664 hk_3665 (by decide) (by decide) (len_of (n := 4) hn_3666 (by decide)) ?_
  refine j_ic_ge (tgt := 226) C dX9_init_204 (by decide) (fun c9 => ?_) (fun c9 => absurd (by decide) c9)
  exact x9_t15 (q_1 := q_1) (q_5 := q_5) (q_6 := q_6) (q_41 := q_41) (q_47 := q_47) (q_48 := q_48) (q_49 := q_49) (q_50 := q_50) (q_51 := q_51) (q_52 := q_52) (q_53 := q_53) (q_54 := q_54) (q_126 := q_126) (q_132 := q_132) (q_161 := q_161) (q_183 := q_183) (q_188 := q_188) (q_224 := q_224) (q_230 := q_230) (q_266 := q_266) (q_295 := q_295) (q_328 := q_328) (q_333 := q_333) (q_334 := q_334) (q_335 := q_335) (q_336 := q_336) (q_337 := q_337) (q_338 := q_338) (q_339 := q_339) (q_340 := q_340) (q_425 := q_425) (q_431 := q_431) (q_432 := q_432) (q_433 := q_433) (q_434 := q_434) (q_435 := q_435) (q_436 := q_436) (q_437 := q_437) (q_438 := q_438) (q_524 := q_524) (q_565 := q_565) (q_610 := q_610) (q_661 := q_661) (q_666 := q_666) (q_784 := q_784) (q_789 := q_789) (q_914 := q_914) (q_919 := q_919) (q_1038 := q_1038) (q_1043 := q_1043) (q_1162 := q_1162) (q_1167 := q_1167) (q_1292 := q_1292) (q_1297 := q_1297) (q_1416 := q_1416) (q_1421 := q_1421) (q_1540 := q_1540) (q_1545 := q_1545) (q_1670 := q_1670) (q_1675 := q_1675) (q_1794 := q_1794) (q_1799 := q_1799) (q_1918 := q_1918) (q_1923 := q_1923) (q_2048 := q_2048) (q_2053 := q_2053) (q_2172 := q_2172) (q_2177 := q_2177) (q_2296 := q_2296) (q_2301 := q_2301) (q_2426 := q_2426) (q_2431 := q_2431) (q_2550 := q_2550) (q_2555 := q_2555) (q_2680 := q_2680) (q_2685 := q_2685) (q_2686 := q_2686) (q_2687 := q_2687) (q_2688 := q_2688) (q_2689 := q_2689) (q_2690 := q_2690) (q_2691 := q_2691) (q_2692 := q_2692) (q_2857 := q_2857) (q_2862 := q_2862) (q_2863 := q_2863) (q_2864 := q_2864) (q_2865 := q_2865) (q_2866 := q_2866) (q_2867 := q_2867) (q_2868 := q_2868) (q_2869 := q_2869) (q_3035 := q_3035) (q_3040 := q_3040) (q_3041 := q_3041) (q_3042 := q_3042) (q_3043 := q_3043) (q_3044 := q_3044) (q_3045 := q_3045) (q_3046 := q_3046) (q_3047 := q_3047) (q_3219 := q_3219) (q_3338 := q_3338) (q_3458 := q_3458) (q_3578 := q_3578) hn9 C M hm9 hm0_9 hz_164 hz_269 hz_297 hz_527 hz_567 hz_612 hm_3644 hk_3645 hm_3646 hk_3647 hn_3648 hz_3649 hm_3650 hk_3651 hn_3652 hz_3653 hm_3654 hk_3655 hn_3656 hz_3657 hm_3660 hk_3661 hn_3662 hz_3663 hm_3664 hk_3665 hn_3666 hz_3667 hm_3668 hk_3669 hn_3670 hz_3671 hv_3672 hv_3673 hv_3674 hv_3675 hv_3676 hv_3677 hv_3678 hv_3679 hv_3680 hv_3681 hv_3682 hv_3683 hv_3684 hv_3685 (by have h9 := hN_3692; rw [eL_3695] at h9; simpa only [List.nil_append, List.cons_append, List.append_assoc] using h9) (by have h9 := hG_3693; rw [eG_3697] at h9; simpa only [List.nil_append, List.cons_append, List.append_assoc] using h9) hE_3689 hE_3690 hE_3691 hf_3686

set_option maxRecDepth 100000 in
set_option maxHeartbeats 8000000 in
theorem x9_t13 {x : JX} {S S_3521 : Hp} {h s0 q_1 q_5 q_6 q_41 q_47 q_48 q_49 q_50 q_51 q_52 q_53 q_54 q_126 q_132 q_161 q_183 q_188 q_224 q_230 q_266 q_295 q_328 q_333 q_334 q_335 q_336 q_337 q_338 q_339 q_340 q_425 q_431 q_432 q_433 q_434 q_435 q_436 q_437 q_438 q_524 q_565 q_610 q_661 q_666 q_784 q_789 q_914 q_919 q_1038 q_1043 q_1162 q_1167 q_1292 q_1297 q_1416 q_1421 q_1540 q_1545 q_1670 q_1675 q_1794 q_1799 q_1918 q_1923 q_2048 q_2053 q_2172 q_2177 q_2296 q_2301 q_2426 q_2431 q_2550 q_2555 q_2680 q_2685 q_2686 q_2687 q_2688 q_2689 q_2690 q_2691 q_2692 q_2857 q_2862 q_2863 q_2864 q_2865 q_2866 q_2867 q_2868 q_2869 q_3035 q_3040 q_3041 q_3042 q_3043 q_3044 q_3045 q_3046 q_3047 q_3219 q_3338 q_3458 : Nat} (hn9 : x_n x = 3) (C : CB x RX9 cX9_init) (M : CM x 4 113 68424 none S (fun r S' => r = none ∧ Fm (fun _ _ => False) (fun f9 b9 => b9 = h) (fun _ => False) S S' ∧ hR S' 900 h = some s0 ∧ ∃ l : List Nat, Wt s9K s9N s9P s9Q (fun i => (h :: l).getD i 0) S' ∧ l.length = 105 ∧ NL S l S' ∧ (∀ j, aI S' ((h :: l).getD 6 0) j = 0) ∧ (∀ j, aI S' ((h :: l).getD 9 0) j = 0) ∧ (∀ j, aI S' ((h :: l).getD 14 0) j = 0) ∧ (∀ j, aI S' ((h :: l).getD 19 0) j = 0))) (hm9 : (x_meth x).name = yX9_init.name) (hm0_9 : h ∈ hL S) (hz_164 : q_161 ∉ hL S) (hz_269 : q_266 ∉ hL S) (hz_297 : q_295 ∉ hL S) (hz_527 : q_524 ∉ hL S) (hz_567 : q_565 ∉ hL S) (hz_612 : q_610 ∉ hL S) (hm_3524 : h ∈ hL S_3521) (hk_3525 : Kd S_3521 h 9) (hm_3526 : q_161 ∈ hL S_3521) (hk_3527 : Kd S_3521 q_161 20) (hn_3528 : Ln S_3521 q_161 16) (hz_3529 : ∀ j, aI S_3521 q_161 j = 0) (hm_3530 : q_266 ∈ hL S_3521) (hk_3531 : Kd S_3521 q_266 13) (hn_3532 : Ln S_3521 q_266 24000) (hz_3533 : ∀ j, aI S_3521 q_266 j = 0) (hm_3534 : q_295 ∈ hL S_3521) (hk_3535 : Kd S_3521 q_295 14) (hn_3536 : Ln S_3521 q_295 16) (hz_3537 : ∀ j, aI S_3521 q_295 j = 0) (hm_3540 : q_524 ∈ hL S_3521) (hk_3541 : Kd S_3521 q_524 18) (hn_3542 : Ln S_3521 q_524 3) (hz_3543 : ∀ j, aI S_3521 q_524 j = 0) (hm_3544 : q_565 ∈ hL S_3521) (hk_3545 : Kd S_3521 q_565 19) (hn_3546 : Ln S_3521 q_565 4) (hz_3547 : ∀ j, aI S_3521 q_565 j = 0) (hm_3548 : q_610 ∈ hL S_3521) (hk_3549 : Kd S_3521 q_610 14) (hn_3550 : Ln S_3521 q_610 12) (hz_3551 : ∀ j, aI S_3521 q_610 j = 0) (hv_3552 : hR S_3521 900 h = (some s0)) (hv_3553 : hR S_3521 901 h = (some q_1)) (hv_3554 : hR S_3521 902 h = (some q_41)) (hv_3555 : hR S_3521 903 h = (some q_126)) (hv_3556 : hR S_3521 904 h = (some q_161)) (hv_3557 : hR S_3521 905 h = (some q_183)) (hv_3558 : hR S_3521 906 h = (some q_224)) (hv_3559 : hR S_3521 907 h = (some q_266)) (hv_3560 : hR S_3521 908 h = (some q_295)) (hv_3561 : hR S_3521 909 h = (some q_328)) (hv_3562 : hR S_3521 910 h = (some q_425)) (hv_3563 : hR S_3521 911 h = (some q_524)) (hv_3564 : hR S_3521 912 h = (some q_565)) (hv_3565 : hR S_3521 917 h = (some q_610)) (hN_3572 : NL S [q_1, q_5, q_6, q_41, q_47, q_48, q_49, q_50, q_51, q_52, q_53, q_54, q_126, q_132, q_161, q_183, q_188, q_224, q_230, q_266, q_295, q_328, q_333, q_334, q_335, q_336, q_337, q_338, q_339, q_340, q_425, q_431, q_432, q_433, q_434, q_435, q_436, q_437, q_438, q_524, q_565, q_610, q_661, q_666, q_784, q_789, q_914, q_919, q_1038, q_1043, q_1162, q_1167, q_1292, q_1297, q_1416, q_1421, q_1540, q_1545, q_1670, q_1675, q_1794, q_1799, q_1918, q_1923, q_2048, q_2053, q_2172, q_2177, q_2296, q_2301, q_2426, q_2431, q_2550, q_2555, q_2680, q_2685, q_2686, q_2687, q_2688, q_2689, q_2690, q_2691, q_2692, q_2857, q_2862, q_2863, q_2864, q_2865, q_2866, q_2867, q_2868, q_2869, q_3035, q_3040, q_3041, q_3042, q_3043, q_3044, q_3045, q_3046, q_3047, q_3219, q_3338, q_3458] S_3521) (hG_3573 : Gs h [(3, [q_1, q_5, q_6]), (4, [q_41, q_47, q_48, q_49, q_50, q_51, q_52, q_53, q_54]), (0, [q_126, q_132]), (1, [q_183, q_188]), (0, [q_224, q_230]), (2, [q_328, q_333, q_334, q_335, q_336, q_337, q_338, q_339, q_340]), (2, [q_425, q_431, q_432, q_433, q_434, q_435, q_436, q_437, q_438]), (1, [q_661, q_666]), (1, [q_784, q_789]), (1, [q_914, q_919]), (1, [q_1038, q_1043]), (1, [q_1162, q_1167]), (1, [q_1292, q_1297]), (1, [q_1416, q_1421]), (1, [q_1540, q_1545]), (1, [q_1670, q_1675]), (1, [q_1794, q_1799]), (1, [q_1918, q_1923]), (1, [q_2048, q_2053]), (1, [q_2172, q_2177]), (1, [q_2296, q_2301]), (1, [q_2426, q_2431]), (1, [q_2550, q_2555]), (2, [q_2680, q_2685, q_2686, q_2687, q_2688, q_2689, q_2690, q_2691, q_2692]), (2, [q_2857, q_2862, q_2863, q_2864, q_2865, q_2866, q_2867, q_2868, q_2869]), (2, [q_3035, q_3040, q_3041, q_3042, q_3043, q_3044, q_3045, q_3046, q_3047]), (5, [q_3219]), (5, [q_3338]), (5, [q_3458])] S_3521) (hE_3569 : ELs S_3521 q_161 [q_661, q_784, q_914, q_1038, q_1162, q_1292, q_1416, q_1540, q_1670, q_1794, q_1918, q_2048, q_2172, q_2296, q_2426, q_2550]) (hE_3570 : ELs S_3521 q_524 [q_2680, q_2857, q_3035]) (hE_3571 : ELs S_3521 q_565 [q_3219, q_3338, q_3458]) (hf_3566 : Fm (fun _ _ => False) (fun f9 b9 => b9 = h) (fun _ => False) S S_3521) : J x (0 + 1 + 4 + 1 + 8 + 1 + 1 + 1 + 1 + 1 + 1 + 1 + 1 + 1 + 1 + 8 + 1 + 8 + 1 + 1 + 1 + 1 + 1 + 1 + 1 + 1 + 1 + 1 + 1 + 1 + 1 + 1 + 1 + 1 + 1 + 1 + 1 + 1 + 1 + 1 + 1 + 1 + 1 + 1 + 1 + 1 + 1 + 1 + 1 + 1 + 1 + 1 + 1 + 1 + 8 + 1 + 8 + 1 + 8 + 1 + 1 + 1 + 1 + 1 + 1) (0 + 15 + 20045 + 10 + 23174 + 1 + 16 + 16 + 4 + 16 + 1 + 16 + 24000 + 16 + 21 + 117 + 21 + 117 + 3 + 4 + 12 + 4 + 16 + 4 + 16 + 4 + 16 + 4 + 16 + 4 + 16 + 4 + 16 + 4 + 16 + 4 + 16 + 4 + 16 + 4 + 16 + 4 + 16 + 4 + 16 + 4 + 16 + 4 + 16 + 4 + 16 + 4 + 16 + 21 + 117 + 21 + 117 + 21 + 117 + 13 + 0 + 13 + 0 + 13 + 0) S_3521 [(2, .int 3), (0, .ref h), (1, .ref s0)] 198 [] := by
  obtain ⟨L_3574, eL_3575⟩ : ∃ L9 : List Nat, L9 = [q_1, q_5, q_6, q_41, q_47, q_48, q_49, q_50, q_51, q_52, q_53, q_54, q_126, q_132, q_161, q_183, q_188, q_224, q_230, q_266, q_295, q_328, q_333, q_334, q_335, q_336, q_337, q_338, q_339, q_340, q_425, q_431, q_432, q_433, q_434, q_435, q_436, q_437, q_438, q_524, q_565, q_610, q_661, q_666, q_784, q_789, q_914, q_919, q_1038, q_1043, q_1162, q_1167, q_1292, q_1297, q_1416, q_1421, q_1540, q_1545, q_1670, q_1675, q_1794, q_1799, q_1918, q_1923, q_2048, q_2053, q_2172, q_2177, q_2296, q_2301, q_2426, q_2431, q_2550, q_2555, q_2680, q_2685, q_2686, q_2687, q_2688, q_2689, q_2690, q_2691, q_2692, q_2857, q_2862, q_2863, q_2864, q_2865, q_2866, q_2867, q_2868, q_2869, q_3035, q_3040, q_3041, q_3042, q_3043, q_3044, q_3045, q_3046, q_3047, q_3219, q_3338, q_3458] := ⟨_, rfl⟩
  rw [← eL_3575] at hN_3572
  obtain ⟨gs_3576, eG_3577⟩ : ∃ G9 : List (Nat × List Nat), G9 = [(3, [q_1, q_5, q_6]), (4, [q_41, q_47, q_48, q_49, q_50, q_51, q_52, q_53, q_54]), (0, [q_126, q_132]), (1, [q_183, q_188]), (0, [q_224, q_230]), (2, [q_328, q_333, q_334, q_335, q_336, q_337, q_338, q_339, q_340]), (2, [q_425, q_431, q_432, q_433, q_434, q_435, q_436, q_437, q_438]), (1, [q_661, q_666]), (1, [q_784, q_789]), (1, [q_914, q_919]), (1, [q_1038, q_1043]), (1, [q_1162, q_1167]), (1, [q_1292, q_1297]), (1, [q_1416, q_1421]), (1, [q_1540, q_1545]), (1, [q_1670, q_1675]), (1, [q_1794, q_1799]), (1, [q_1918, q_1923]), (1, [q_2048, q_2053]), (1, [q_2172, q_2177]), (1, [q_2296, q_2301]), (1, [q_2426, q_2431]), (1, [q_2550, q_2555]), (2, [q_2680, q_2685, q_2686, q_2687, q_2688, q_2689, q_2690, q_2691, q_2692]), (2, [q_2857, q_2862, q_2863, q_2864, q_2865, q_2866, q_2867, q_2868, q_2869]), (2, [q_3035, q_3040, q_3041, q_3042, q_3043, q_3044, q_3045, q_3046, q_3047]), (5, [q_3219]), (5, [q_3338]), (5, [q_3458])] := ⟨_, rfl⟩
  rw [← eG_3577] at hG_3573
  refine j_iload_n C dX9_init_198 rfl 0 rfl ?_
  refine j_aload_n C dX9_init_199 rfl 1 rfl ?_
  refine j_getr (f := 912) (v := q_565) C flX9_70 dX9_init_200 hm_3524 hk_3525 (by decide) rfl hv_3564 ?_
  refine j_alen (v := 4) C dX9_init_203 hm_3544 hk_3545 (by decide) (by decide) (len_of (n := 4) hn_3546 (by decide)) ?_
  show J _ _ _ _ _ 204 _
  refine j_ic_ge (tgt := 226) C dX9_init_204 (by decide) (fun c9 => absurd c9 (by decide)) (fun c9 => ?_)
  refine j_aload_n C dX9_init_207 rfl 1 rfl ?_
  refine j_getr (f := 912) (v := q_565) C flX9_70 dX9_init_208 hm_3524 hk_3525 (by decide) rfl hv_3564 ?_
  refine j_iload_n C dX9_init_211 rfl 0 rfl ?_
  refine j_new (N := 13) C (ci := 5) rfl rfl klX9_68 knX5 kiX5 (M.cells (by decide)) (M.slots (by decide)) dX9_init_212 (fun q_3578 hq_3579 => ?_)
  have hz_3580 : q_3578 ∉ hL S := fun h9 => hq_3579 (hf_3566.mem h9)
  have gn_3581 : ∀ g9 ∈ gs_3576, ∀ p9 ∈ (gT g9.1).2.2, g9.2.getD p9.2.1 0 ≠ q_3578 := Gs.ne hG_3573 hq_3579
  refine j_dup C dX9_init_215 rfl ?_
  have hf_3582 : Fm (fun _ _ => False) (fun f9 b9 => b9 = h) (fun _ => False) S (nO S_3521 q_3578 5) := (hf_3566.nO _ hq_3579)
  refine j_callI C [] [.ref q_3578, .int 3, .ref q_565] mlX9_81 mcX5_init (c_X5_init (nO S_3521 q_3578 5) q_3578 mem_new (kd_nO' (k := 5))) (M.rm (by decide) (by decide) (Nat.le_of_ble_eq_true rfl) (Nat.le_of_ble_eq_true rfl)) rfl rfl (Nat.le_of_ble_eq_true rfl) dX9_init_216 (fun r_3583 S_3584 hp_3585 => ?_)
  obtain ⟨rfl, hf_3586⟩ := hp_3585
  refine J.eq (st' := [.ref q_3578, .int 3, .ref q_565]) rfl rfl rfl ?_
  have hz_3587 : ∀ j, aI S_3584 q_161 j = 0 := fun j9 => (hf_3586.ai (mem_old hm_3526) (fun h9 => h9) j9).trans (hz_3529 j9)
  have hz_3588 : ∀ j, aI S_3584 q_266 j = 0 := fun j9 => (hf_3586.ai (mem_old hm_3530) (fun h9 => h9) j9).trans (hz_3533 j9)
  have hz_3589 : ∀ j, aI S_3584 q_295 j = 0 := fun j9 => (hf_3586.ai (mem_old hm_3534) (fun h9 => h9) j9).trans (hz_3537 j9)
  have hz_3590 : ∀ j, aI S_3584 q_524 j = 0 := fun j9 => (hf_3586.ai (mem_old hm_3540) (fun h9 => h9) j9).trans (hz_3543 j9)
  have hz_3591 : ∀ j, aI S_3584 q_565 j = 0 := fun j9 => (hf_3586.ai (mem_old hm_3544) (fun h9 => h9) j9).trans (hz_3547 j9)
  have hz_3592 : ∀ j, aI S_3584 q_610 j = 0 := fun j9 => (hf_3586.ai (mem_old hm_3548) (fun h9 => h9) j9).trans (hz_3551 j9)
  have hm_3593 : h ∈ hL S_3584 := hf_3586.mem (mem_old hm_3524)
  have hk_3594 : Kd S_3584 h 9 := hf_3586.kd (mem_old hm_3524) (kd_nO (k := 5) hq_3579 hm_3524 hk_3525)
  have hm_3595 : q_161 ∈ hL S_3584 := hf_3586.mem (mem_old hm_3526)
  have hk_3596 : Kd S_3584 q_161 20 := hf_3586.kd (mem_old hm_3526) (kd_nO (k := 5) hq_3579 hm_3526 hk_3527)
  have hn_3597 : Ln S_3584 q_161 16 := hf_3586.ln (mem_old hm_3526) hn_3528
  have hm_3598 : q_266 ∈ hL S_3584 := hf_3586.mem (mem_old hm_3530)
  have hk_3599 : Kd S_3584 q_266 13 := hf_3586.kd (mem_old hm_3530) (kd_nO (k := 5) hq_3579 hm_3530 hk_3531)
  have hn_3600 : Ln S_3584 q_266 24000 := hf_3586.ln (mem_old hm_3530) hn_3532
  have hm_3601 : q_295 ∈ hL S_3584 := hf_3586.mem (mem_old hm_3534)
  have hk_3602 : Kd S_3584 q_295 14 := hf_3586.kd (mem_old hm_3534) (kd_nO (k := 5) hq_3579 hm_3534 hk_3535)
  have hn_3603 : Ln S_3584 q_295 16 := hf_3586.ln (mem_old hm_3534) hn_3536
  have hm_3604 : q_3578 ∈ hL S_3584 := hf_3586.mem mem_new
  have hk_3605 : Kd S_3584 q_3578 5 := hf_3586.kd mem_new (kd_nO' (k := 5))
  have hm_3606 : q_524 ∈ hL S_3584 := hf_3586.mem (mem_old hm_3540)
  have hk_3607 : Kd S_3584 q_524 18 := hf_3586.kd (mem_old hm_3540) (kd_nO (k := 5) hq_3579 hm_3540 hk_3541)
  have hn_3608 : Ln S_3584 q_524 3 := hf_3586.ln (mem_old hm_3540) hn_3542
  have hm_3609 : q_565 ∈ hL S_3584 := hf_3586.mem (mem_old hm_3544)
  have hk_3610 : Kd S_3584 q_565 19 := hf_3586.kd (mem_old hm_3544) (kd_nO (k := 5) hq_3579 hm_3544 hk_3545)
  have hn_3611 : Ln S_3584 q_565 4 := hf_3586.ln (mem_old hm_3544) hn_3546
  have hm_3612 : q_610 ∈ hL S_3584 := hf_3586.mem (mem_old hm_3548)
  have hk_3613 : Kd S_3584 q_610 14 := hf_3586.kd (mem_old hm_3548) (kd_nO (k := 5) hq_3579 hm_3548 hk_3549)
  have hn_3614 : Ln S_3584 q_610 12 := hf_3586.ln (mem_old hm_3548) hn_3550
  have hv_3615 : hR S_3584 900 h = (some s0) := hf_3586.fr (mem_old hm_3524) (fun q9 => (fun e9 => absurd (((kd_nO (k := 5) hq_3579 hm_3524 hk_3525)).symm.trans ((congrArg (hK _) e9).trans (kd_nO' (k := 5)))) (by decide)) q9) (rd_nOR (k := 5) hq_3579 hm_3524 hv_3552)
  have hv_3616 : hR S_3584 901 h = (some q_1) := hf_3586.fr (mem_old hm_3524) (fun q9 => (fun e9 => absurd (((kd_nO (k := 5) hq_3579 hm_3524 hk_3525)).symm.trans ((congrArg (hK _) e9).trans (kd_nO' (k := 5)))) (by decide)) q9) (rd_nOR (k := 5) hq_3579 hm_3524 hv_3553)
  have hv_3617 : hR S_3584 902 h = (some q_41) := hf_3586.fr (mem_old hm_3524) (fun q9 => (fun e9 => absurd (((kd_nO (k := 5) hq_3579 hm_3524 hk_3525)).symm.trans ((congrArg (hK _) e9).trans (kd_nO' (k := 5)))) (by decide)) q9) (rd_nOR (k := 5) hq_3579 hm_3524 hv_3554)
  have hv_3618 : hR S_3584 903 h = (some q_126) := hf_3586.fr (mem_old hm_3524) (fun q9 => (fun e9 => absurd (((kd_nO (k := 5) hq_3579 hm_3524 hk_3525)).symm.trans ((congrArg (hK _) e9).trans (kd_nO' (k := 5)))) (by decide)) q9) (rd_nOR (k := 5) hq_3579 hm_3524 hv_3555)
  have hv_3619 : hR S_3584 904 h = (some q_161) := hf_3586.fr (mem_old hm_3524) (fun q9 => (fun e9 => absurd (((kd_nO (k := 5) hq_3579 hm_3524 hk_3525)).symm.trans ((congrArg (hK _) e9).trans (kd_nO' (k := 5)))) (by decide)) q9) (rd_nOR (k := 5) hq_3579 hm_3524 hv_3556)
  have hv_3620 : hR S_3584 905 h = (some q_183) := hf_3586.fr (mem_old hm_3524) (fun q9 => (fun e9 => absurd (((kd_nO (k := 5) hq_3579 hm_3524 hk_3525)).symm.trans ((congrArg (hK _) e9).trans (kd_nO' (k := 5)))) (by decide)) q9) (rd_nOR (k := 5) hq_3579 hm_3524 hv_3557)
  have hv_3621 : hR S_3584 906 h = (some q_224) := hf_3586.fr (mem_old hm_3524) (fun q9 => (fun e9 => absurd (((kd_nO (k := 5) hq_3579 hm_3524 hk_3525)).symm.trans ((congrArg (hK _) e9).trans (kd_nO' (k := 5)))) (by decide)) q9) (rd_nOR (k := 5) hq_3579 hm_3524 hv_3558)
  have hv_3622 : hR S_3584 907 h = (some q_266) := hf_3586.fr (mem_old hm_3524) (fun q9 => (fun e9 => absurd (((kd_nO (k := 5) hq_3579 hm_3524 hk_3525)).symm.trans ((congrArg (hK _) e9).trans (kd_nO' (k := 5)))) (by decide)) q9) (rd_nOR (k := 5) hq_3579 hm_3524 hv_3559)
  have hv_3623 : hR S_3584 908 h = (some q_295) := hf_3586.fr (mem_old hm_3524) (fun q9 => (fun e9 => absurd (((kd_nO (k := 5) hq_3579 hm_3524 hk_3525)).symm.trans ((congrArg (hK _) e9).trans (kd_nO' (k := 5)))) (by decide)) q9) (rd_nOR (k := 5) hq_3579 hm_3524 hv_3560)
  have hv_3624 : hR S_3584 909 h = (some q_328) := hf_3586.fr (mem_old hm_3524) (fun q9 => (fun e9 => absurd (((kd_nO (k := 5) hq_3579 hm_3524 hk_3525)).symm.trans ((congrArg (hK _) e9).trans (kd_nO' (k := 5)))) (by decide)) q9) (rd_nOR (k := 5) hq_3579 hm_3524 hv_3561)
  have hv_3625 : hR S_3584 910 h = (some q_425) := hf_3586.fr (mem_old hm_3524) (fun q9 => (fun e9 => absurd (((kd_nO (k := 5) hq_3579 hm_3524 hk_3525)).symm.trans ((congrArg (hK _) e9).trans (kd_nO' (k := 5)))) (by decide)) q9) (rd_nOR (k := 5) hq_3579 hm_3524 hv_3562)
  have hv_3626 : hR S_3584 911 h = (some q_524) := hf_3586.fr (mem_old hm_3524) (fun q9 => (fun e9 => absurd (((kd_nO (k := 5) hq_3579 hm_3524 hk_3525)).symm.trans ((congrArg (hK _) e9).trans (kd_nO' (k := 5)))) (by decide)) q9) (rd_nOR (k := 5) hq_3579 hm_3524 hv_3563)
  have hv_3627 : hR S_3584 912 h = (some q_565) := hf_3586.fr (mem_old hm_3524) (fun q9 => (fun e9 => absurd (((kd_nO (k := 5) hq_3579 hm_3524 hk_3525)).symm.trans ((congrArg (hK _) e9).trans (kd_nO' (k := 5)))) (by decide)) q9) (rd_nOR (k := 5) hq_3579 hm_3524 hv_3564)
  have hv_3628 : hR S_3584 917 h = (some q_610) := hf_3586.fr (mem_old hm_3524) (fun q9 => (fun e9 => absurd (((kd_nO (k := 5) hq_3579 hm_3524 hk_3525)).symm.trans ((congrArg (hK _) e9).trans (kd_nO' (k := 5)))) (by decide)) q9) (rd_nOR (k := 5) hq_3579 hm_3524 hv_3565)
  have hf_3629 : Fm (fun _ _ => False) (fun f9 b9 => b9 = h) (fun _ => False) S S_3584 := hf_3582.then hf_3586 (fun a9 ha9 => ⟨(fun f9 h9 => h9.elim), (fun f9 h9 => (fun h8 => absurd (h8 ▸ ha9) hz_3580) h9), (fun h9 => h9.elim)⟩)
  have hN_3630 : NL S (L_3574 ++ [q_3578]) S_3584 := NL.mono (show NL S (L_3574 ++ [q_3578]) (nO S_3521 q_3578 5) from NL.nO hN_3572 hq_3579 hz_3580) (fun a9 h9 => hf_3586.mem h9)
  have hG_3631 : Gs h gs_3576 S_3584 := Gs.fm (show Gs h gs_3576 (nO S_3521 q_3578 5) from Gs.nO hG_3573 hq_3579) hf_3586 (fun g9 hg9 p9 hp9 => gn_3581 g9 hg9 p9 hp9)
  have hE_3632 : ELs S_3584 q_161 [q_661, q_784, q_914, q_1038, q_1162, q_1292, q_1416, q_1540, q_1670, q_1794, q_1918, q_2048, q_2172, q_2296, q_2426, q_2550] := ELs.fm (ELs.nO (S := S_3521) hE_3569) hf_3586 (mem_old hm_3526) (fun h9 => h9)
  have hE_3633 : ELs S_3584 q_524 [q_2680, q_2857, q_3035] := ELs.fm (ELs.nO (S := S_3521) hE_3570) hf_3586 (mem_old hm_3540) (fun h9 => h9)
  have hE_3634 : ELs S_3584 q_565 [q_3219, q_3338, q_3458] := ELs.fm (ELs.nO (S := S_3521) hE_3571) hf_3586 (mem_old hm_3544) (fun h9 => h9)
  obtain ⟨L_3635, eL_3636⟩ : ∃ L9 : List Nat, L9 = (L_3574 ++ [q_3578]) := ⟨_, rfl⟩
  rw [← eL_3636] at hN_3630
  have hGt_3637 : Gt 5 [q_3578] S_3584 := ⟨fun i9 k9 h9 => (match i9, h9 with | 0, h9 => (by have e9 : (5 : Nat) = k9 := Option.some.inj h9; subst e9; exact ⟨hm_3604, hk_3605⟩) | i9 + 1, h9 => absurd h9 (by simp [gT])), (fun _ h9 => absurd h9 List.not_mem_nil), (fun _ h9 => absurd h9 List.not_mem_nil), (fun _ h9 => absurd h9 List.not_mem_nil)⟩
  have hG_3638 : Gs h (gs_3576 ++ [(5, [q_3578])]) S_3584 := Gs.snoc hG_3631 (by decide) hGt_3637 (fun _ h9 => absurd h9 List.not_mem_nil)
  obtain ⟨gs_3639, eG_3640⟩ : ∃ G9 : List (Nat × List Nat), G9 = gs_3576 ++ [(5, [q_3578])] := ⟨_, rfl⟩
  rw [← eG_3640] at hG_3638
  refine j_aast (j := 3) (ci := 5) C 19  (by decide) rfl dX9_init_219 hm_3609 hk_3610 (inr_of (n := 4) hn_3611 (vp_lit (by decide))) (by decide) hm_3604 hk_3605 rfl ?_
  have hf_3643 : Fm (fun _ _ => False) (fun f9 b9 => b9 = h) (fun _ => False) S (tR S_3584 q_565 3 (some q_3578)) := (hf_3629.tR _ _ (fun h9 => absurd h9 hz_567))
  obtain ⟨S_3641, eS_3642⟩ : ∃ S9 : Hp, S9 = (tR S_3584 q_565 3 (some q_3578)) := ⟨_, rfl⟩
  refine J.eq (S' := S_3641) eS_3642.symm rfl rfl ?_
  have hm_3644 : h ∈ hL S_3641 := by rw [eS_3642]; exact hm_3593
  have hk_3645 : Kd S_3641 h 9 := by rw [eS_3642]; exact hk_3594
  have hm_3646 : q_161 ∈ hL S_3641 := by rw [eS_3642]; exact hm_3595
  have hk_3647 : Kd S_3641 q_161 20 := by rw [eS_3642]; exact hk_3596
  have hn_3648 : Ln S_3641 q_161 16 := by rw [eS_3642]; exact hn_3597
  have hz_3649 : ∀ j, aI S_3641 q_161 j = 0 := by rw [eS_3642]; exact hz_3587
  have hm_3650 : q_266 ∈ hL S_3641 := by rw [eS_3642]; exact hm_3598
  have hk_3651 : Kd S_3641 q_266 13 := by rw [eS_3642]; exact hk_3599
  have hn_3652 : Ln S_3641 q_266 24000 := by rw [eS_3642]; exact hn_3600
  have hz_3653 : ∀ j, aI S_3641 q_266 j = 0 := by rw [eS_3642]; exact hz_3588
  have hm_3654 : q_295 ∈ hL S_3641 := by rw [eS_3642]; exact hm_3601
  have hk_3655 : Kd S_3641 q_295 14 := by rw [eS_3642]; exact hk_3602
  have hn_3656 : Ln S_3641 q_295 16 := by rw [eS_3642]; exact hn_3603
  have hz_3657 : ∀ j, aI S_3641 q_295 j = 0 := by rw [eS_3642]; exact hz_3589
  have hm_3658 : q_3578 ∈ hL S_3641 := by rw [eS_3642]; exact hm_3604
  have hk_3659 : Kd S_3641 q_3578 5 := by rw [eS_3642]; exact hk_3605
  have hm_3660 : q_524 ∈ hL S_3641 := by rw [eS_3642]; exact hm_3606
  have hk_3661 : Kd S_3641 q_524 18 := by rw [eS_3642]; exact hk_3607
  have hn_3662 : Ln S_3641 q_524 3 := by rw [eS_3642]; exact hn_3608
  have hz_3663 : ∀ j, aI S_3641 q_524 j = 0 := by rw [eS_3642]; exact hz_3590
  have hm_3664 : q_565 ∈ hL S_3641 := by rw [eS_3642]; exact hm_3609
  have hk_3665 : Kd S_3641 q_565 19 := by rw [eS_3642]; exact hk_3610
  have hn_3666 : Ln S_3641 q_565 4 := by rw [eS_3642]; exact hn_3611
  have hz_3667 : ∀ j, aI S_3641 q_565 j = 0 := by rw [eS_3642]; exact hz_3591
  have hm_3668 : q_610 ∈ hL S_3641 := by rw [eS_3642]; exact hm_3612
  have hk_3669 : Kd S_3641 q_610 14 := by rw [eS_3642]; exact hk_3613
  have hn_3670 : Ln S_3641 q_610 12 := by rw [eS_3642]; exact hn_3614
  have hz_3671 : ∀ j, aI S_3641 q_610 j = 0 := by rw [eS_3642]; exact hz_3592
  have hv_3672 : hR S_3641 900 h = (some s0) := by rw [eS_3642]; exact hv_3615
  have hv_3673 : hR S_3641 901 h = (some q_1) := by rw [eS_3642]; exact hv_3616
  have hv_3674 : hR S_3641 902 h = (some q_41) := by rw [eS_3642]; exact hv_3617
  have hv_3675 : hR S_3641 903 h = (some q_126) := by rw [eS_3642]; exact hv_3618
  have hv_3676 : hR S_3641 904 h = (some q_161) := by rw [eS_3642]; exact hv_3619
  have hv_3677 : hR S_3641 905 h = (some q_183) := by rw [eS_3642]; exact hv_3620
  have hv_3678 : hR S_3641 906 h = (some q_224) := by rw [eS_3642]; exact hv_3621
  have hv_3679 : hR S_3641 907 h = (some q_266) := by rw [eS_3642]; exact hv_3622
  have hv_3680 : hR S_3641 908 h = (some q_295) := by rw [eS_3642]; exact hv_3623
  have hv_3681 : hR S_3641 909 h = (some q_328) := by rw [eS_3642]; exact hv_3624
  have hv_3682 : hR S_3641 910 h = (some q_425) := by rw [eS_3642]; exact hv_3625
  have hv_3683 : hR S_3641 911 h = (some q_524) := by rw [eS_3642]; exact hv_3626
  have hv_3684 : hR S_3641 912 h = (some q_565) := by rw [eS_3642]; exact hv_3627
  have hv_3685 : hR S_3641 917 h = (some q_610) := by rw [eS_3642]; exact hv_3628
  have hf_3686 : Fm (fun _ _ => False) (fun f9 b9 => b9 = h) (fun _ => False) S S_3641 := by rw [eS_3642]; exact hf_3643
  have hN_3687 : NL S L_3635 S_3641 := by rw [eS_3642]; exact (NL.tR (S := S_3584) hN_3630)
  have hG_3688 : Gs h gs_3639 S_3641 := by rw [eS_3642]; exact (Gs.tR (S := S_3584) hG_3638)
  have hE_3689 : ELs S_3641 q_161 [q_661, q_784, q_914, q_1038, q_1162, q_1292, q_1416, q_1540, q_1670, q_1794, q_1918, q_2048, q_2172, q_2296, q_2426, q_2550] := by rw [eS_3642]; exact (ELs.tRx (S := S_3584) (fun e9 => absurd ((hk_3596).symm.trans ((congrArg (hK _) e9).trans hk_3610)) (by decide)) hE_3632)
  have hE_3690 : ELs S_3641 q_524 [q_2680, q_2857, q_3035] := by rw [eS_3642]; exact (ELs.tRx (S := S_3584) (fun e9 => absurd ((hk_3607).symm.trans ((congrArg (hK _) e9).trans hk_3610)) (by decide)) hE_3633)
  have hE_3691 : ELs S_3641 q_565 [q_3219, q_3338, q_3458, q_3578] := by rw [eS_3642]; exact (show ELs (tR S_3584 q_565 3 (some q_3578)) q_565 [q_3219, q_3338, q_3458, q_3578] from ELs.snoc hE_3634 rfl)
  show J _ _ _ _ _ 220 _
  refine j_iinc (q := 0) (v := 4) (lv' := [(2, .int 4), (0, .ref h), (1, .ref s0)]) C dX9_init_220 rfl (by decide) (by rw [hn9]; decide) rfl ?_
  refine j_goto (tgt := 198) C dX9_init_223 (by decide) ?_
  exact x9_t14 (q_1 := q_1) (q_5 := q_5) (q_6 := q_6) (q_41 := q_41) (q_47 := q_47) (q_48 := q_48) (q_49 := q_49) (q_50 := q_50) (q_51 := q_51) (q_52 := q_52) (q_53 := q_53) (q_54 := q_54) (q_126 := q_126) (q_132 := q_132) (q_161 := q_161) (q_183 := q_183) (q_188 := q_188) (q_224 := q_224) (q_230 := q_230) (q_266 := q_266) (q_295 := q_295) (q_328 := q_328) (q_333 := q_333) (q_334 := q_334) (q_335 := q_335) (q_336 := q_336) (q_337 := q_337) (q_338 := q_338) (q_339 := q_339) (q_340 := q_340) (q_425 := q_425) (q_431 := q_431) (q_432 := q_432) (q_433 := q_433) (q_434 := q_434) (q_435 := q_435) (q_436 := q_436) (q_437 := q_437) (q_438 := q_438) (q_524 := q_524) (q_565 := q_565) (q_610 := q_610) (q_661 := q_661) (q_666 := q_666) (q_784 := q_784) (q_789 := q_789) (q_914 := q_914) (q_919 := q_919) (q_1038 := q_1038) (q_1043 := q_1043) (q_1162 := q_1162) (q_1167 := q_1167) (q_1292 := q_1292) (q_1297 := q_1297) (q_1416 := q_1416) (q_1421 := q_1421) (q_1540 := q_1540) (q_1545 := q_1545) (q_1670 := q_1670) (q_1675 := q_1675) (q_1794 := q_1794) (q_1799 := q_1799) (q_1918 := q_1918) (q_1923 := q_1923) (q_2048 := q_2048) (q_2053 := q_2053) (q_2172 := q_2172) (q_2177 := q_2177) (q_2296 := q_2296) (q_2301 := q_2301) (q_2426 := q_2426) (q_2431 := q_2431) (q_2550 := q_2550) (q_2555 := q_2555) (q_2680 := q_2680) (q_2685 := q_2685) (q_2686 := q_2686) (q_2687 := q_2687) (q_2688 := q_2688) (q_2689 := q_2689) (q_2690 := q_2690) (q_2691 := q_2691) (q_2692 := q_2692) (q_2857 := q_2857) (q_2862 := q_2862) (q_2863 := q_2863) (q_2864 := q_2864) (q_2865 := q_2865) (q_2866 := q_2866) (q_2867 := q_2867) (q_2868 := q_2868) (q_2869 := q_2869) (q_3035 := q_3035) (q_3040 := q_3040) (q_3041 := q_3041) (q_3042 := q_3042) (q_3043 := q_3043) (q_3044 := q_3044) (q_3045 := q_3045) (q_3046 := q_3046) (q_3047 := q_3047) (q_3219 := q_3219) (q_3338 := q_3338) (q_3458 := q_3458) (q_3578 := q_3578) hn9 C M hm9 hm0_9 hz_164 hz_269 hz_297 hz_527 hz_567 hz_612 hm_3644 hk_3645 hm_3646 hk_3647 hn_3648 hz_3649 hm_3650 hk_3651 hn_3652 hz_3653 hm_3654 hk_3655 hn_3656 hz_3657 hm_3660 hk_3661 hn_3662 hz_3663 hm_3664 hk_3665 hn_3666 hz_3667 hm_3668 hk_3669 hn_3670 hz_3671 hv_3672 hv_3673 hv_3674 hv_3675 hv_3676 hv_3677 hv_3678 hv_3679 hv_3680 hv_3681 hv_3682 hv_3683 hv_3684 hv_3685 (by have h9 := hN_3687; rw [eL_3636, eL_3575] at h9; simpa only [List.nil_append, List.cons_append, List.append_assoc] using h9) (by have h9 := hG_3688; rw [eG_3640, eG_3577] at h9; simpa only [List.nil_append, List.cons_append, List.append_assoc] using h9) hE_3689 hE_3690 hE_3691 hf_3686

set_option maxRecDepth 100000 in
set_option maxHeartbeats 8000000 in
theorem x9_t12 {x : JX} {S S_3401 : Hp} {h s0 q_1 q_5 q_6 q_41 q_47 q_48 q_49 q_50 q_51 q_52 q_53 q_54 q_126 q_132 q_161 q_183 q_188 q_224 q_230 q_266 q_295 q_328 q_333 q_334 q_335 q_336 q_337 q_338 q_339 q_340 q_425 q_431 q_432 q_433 q_434 q_435 q_436 q_437 q_438 q_524 q_565 q_610 q_661 q_666 q_784 q_789 q_914 q_919 q_1038 q_1043 q_1162 q_1167 q_1292 q_1297 q_1416 q_1421 q_1540 q_1545 q_1670 q_1675 q_1794 q_1799 q_1918 q_1923 q_2048 q_2053 q_2172 q_2177 q_2296 q_2301 q_2426 q_2431 q_2550 q_2555 q_2680 q_2685 q_2686 q_2687 q_2688 q_2689 q_2690 q_2691 q_2692 q_2857 q_2862 q_2863 q_2864 q_2865 q_2866 q_2867 q_2868 q_2869 q_3035 q_3040 q_3041 q_3042 q_3043 q_3044 q_3045 q_3046 q_3047 q_3219 q_3338 : Nat} (hn9 : x_n x = 3) (C : CB x RX9 cX9_init) (M : CM x 4 113 68424 none S (fun r S' => r = none ∧ Fm (fun _ _ => False) (fun f9 b9 => b9 = h) (fun _ => False) S S' ∧ hR S' 900 h = some s0 ∧ ∃ l : List Nat, Wt s9K s9N s9P s9Q (fun i => (h :: l).getD i 0) S' ∧ l.length = 105 ∧ NL S l S' ∧ (∀ j, aI S' ((h :: l).getD 6 0) j = 0) ∧ (∀ j, aI S' ((h :: l).getD 9 0) j = 0) ∧ (∀ j, aI S' ((h :: l).getD 14 0) j = 0) ∧ (∀ j, aI S' ((h :: l).getD 19 0) j = 0))) (hm9 : (x_meth x).name = yX9_init.name) (hm0_9 : h ∈ hL S) (hz_164 : q_161 ∉ hL S) (hz_269 : q_266 ∉ hL S) (hz_297 : q_295 ∉ hL S) (hz_527 : q_524 ∉ hL S) (hz_567 : q_565 ∉ hL S) (hz_612 : q_610 ∉ hL S) (hm_3404 : h ∈ hL S_3401) (hk_3405 : Kd S_3401 h 9) (hm_3406 : q_161 ∈ hL S_3401) (hk_3407 : Kd S_3401 q_161 20) (hn_3408 : Ln S_3401 q_161 16) (hz_3409 : ∀ j, aI S_3401 q_161 j = 0) (hm_3410 : q_266 ∈ hL S_3401) (hk_3411 : Kd S_3401 q_266 13) (hn_3412 : Ln S_3401 q_266 24000) (hz_3413 : ∀ j, aI S_3401 q_266 j = 0) (hm_3414 : q_295 ∈ hL S_3401) (hk_3415 : Kd S_3401 q_295 14) (hn_3416 : Ln S_3401 q_295 16) (hz_3417 : ∀ j, aI S_3401 q_295 j = 0) (hm_3420 : q_524 ∈ hL S_3401) (hk_3421 : Kd S_3401 q_524 18) (hn_3422 : Ln S_3401 q_524 3) (hz_3423 : ∀ j, aI S_3401 q_524 j = 0) (hm_3424 : q_565 ∈ hL S_3401) (hk_3425 : Kd S_3401 q_565 19) (hn_3426 : Ln S_3401 q_565 4) (hz_3427 : ∀ j, aI S_3401 q_565 j = 0) (hm_3428 : q_610 ∈ hL S_3401) (hk_3429 : Kd S_3401 q_610 14) (hn_3430 : Ln S_3401 q_610 12) (hz_3431 : ∀ j, aI S_3401 q_610 j = 0) (hv_3432 : hR S_3401 900 h = (some s0)) (hv_3433 : hR S_3401 901 h = (some q_1)) (hv_3434 : hR S_3401 902 h = (some q_41)) (hv_3435 : hR S_3401 903 h = (some q_126)) (hv_3436 : hR S_3401 904 h = (some q_161)) (hv_3437 : hR S_3401 905 h = (some q_183)) (hv_3438 : hR S_3401 906 h = (some q_224)) (hv_3439 : hR S_3401 907 h = (some q_266)) (hv_3440 : hR S_3401 908 h = (some q_295)) (hv_3441 : hR S_3401 909 h = (some q_328)) (hv_3442 : hR S_3401 910 h = (some q_425)) (hv_3443 : hR S_3401 911 h = (some q_524)) (hv_3444 : hR S_3401 912 h = (some q_565)) (hv_3445 : hR S_3401 917 h = (some q_610)) (hN_3452 : NL S [q_1, q_5, q_6, q_41, q_47, q_48, q_49, q_50, q_51, q_52, q_53, q_54, q_126, q_132, q_161, q_183, q_188, q_224, q_230, q_266, q_295, q_328, q_333, q_334, q_335, q_336, q_337, q_338, q_339, q_340, q_425, q_431, q_432, q_433, q_434, q_435, q_436, q_437, q_438, q_524, q_565, q_610, q_661, q_666, q_784, q_789, q_914, q_919, q_1038, q_1043, q_1162, q_1167, q_1292, q_1297, q_1416, q_1421, q_1540, q_1545, q_1670, q_1675, q_1794, q_1799, q_1918, q_1923, q_2048, q_2053, q_2172, q_2177, q_2296, q_2301, q_2426, q_2431, q_2550, q_2555, q_2680, q_2685, q_2686, q_2687, q_2688, q_2689, q_2690, q_2691, q_2692, q_2857, q_2862, q_2863, q_2864, q_2865, q_2866, q_2867, q_2868, q_2869, q_3035, q_3040, q_3041, q_3042, q_3043, q_3044, q_3045, q_3046, q_3047, q_3219, q_3338] S_3401) (hG_3453 : Gs h [(3, [q_1, q_5, q_6]), (4, [q_41, q_47, q_48, q_49, q_50, q_51, q_52, q_53, q_54]), (0, [q_126, q_132]), (1, [q_183, q_188]), (0, [q_224, q_230]), (2, [q_328, q_333, q_334, q_335, q_336, q_337, q_338, q_339, q_340]), (2, [q_425, q_431, q_432, q_433, q_434, q_435, q_436, q_437, q_438]), (1, [q_661, q_666]), (1, [q_784, q_789]), (1, [q_914, q_919]), (1, [q_1038, q_1043]), (1, [q_1162, q_1167]), (1, [q_1292, q_1297]), (1, [q_1416, q_1421]), (1, [q_1540, q_1545]), (1, [q_1670, q_1675]), (1, [q_1794, q_1799]), (1, [q_1918, q_1923]), (1, [q_2048, q_2053]), (1, [q_2172, q_2177]), (1, [q_2296, q_2301]), (1, [q_2426, q_2431]), (1, [q_2550, q_2555]), (2, [q_2680, q_2685, q_2686, q_2687, q_2688, q_2689, q_2690, q_2691, q_2692]), (2, [q_2857, q_2862, q_2863, q_2864, q_2865, q_2866, q_2867, q_2868, q_2869]), (2, [q_3035, q_3040, q_3041, q_3042, q_3043, q_3044, q_3045, q_3046, q_3047]), (5, [q_3219]), (5, [q_3338])] S_3401) (hE_3449 : ELs S_3401 q_161 [q_661, q_784, q_914, q_1038, q_1162, q_1292, q_1416, q_1540, q_1670, q_1794, q_1918, q_2048, q_2172, q_2296, q_2426, q_2550]) (hE_3450 : ELs S_3401 q_524 [q_2680, q_2857, q_3035]) (hE_3451 : ELs S_3401 q_565 [q_3219, q_3338]) (hf_3446 : Fm (fun _ _ => False) (fun f9 b9 => b9 = h) (fun _ => False) S S_3401) : J x (0 + 1 + 4 + 1 + 8 + 1 + 1 + 1 + 1 + 1 + 1 + 1 + 1 + 1 + 1 + 8 + 1 + 8 + 1 + 1 + 1 + 1 + 1 + 1 + 1 + 1 + 1 + 1 + 1 + 1 + 1 + 1 + 1 + 1 + 1 + 1 + 1 + 1 + 1 + 1 + 1 + 1 + 1 + 1 + 1 + 1 + 1 + 1 + 1 + 1 + 1 + 1 + 1 + 1 + 8 + 1 + 8 + 1 + 8 + 1 + 1 + 1 + 1) (0 + 15 + 20045 + 10 + 23174 + 1 + 16 + 16 + 4 + 16 + 1 + 16 + 24000 + 16 + 21 + 117 + 21 + 117 + 3 + 4 + 12 + 4 + 16 + 4 + 16 + 4 + 16 + 4 + 16 + 4 + 16 + 4 + 16 + 4 + 16 + 4 + 16 + 4 + 16 + 4 + 16 + 4 + 16 + 4 + 16 + 4 + 16 + 4 + 16 + 4 + 16 + 4 + 16 + 21 + 117 + 21 + 117 + 21 + 117 + 13 + 0 + 13 + 0) S_3401 [(2, .int 2), (0, .ref h), (1, .ref s0)] 198 [] := by
  obtain ⟨L_3454, eL_3455⟩ : ∃ L9 : List Nat, L9 = [q_1, q_5, q_6, q_41, q_47, q_48, q_49, q_50, q_51, q_52, q_53, q_54, q_126, q_132, q_161, q_183, q_188, q_224, q_230, q_266, q_295, q_328, q_333, q_334, q_335, q_336, q_337, q_338, q_339, q_340, q_425, q_431, q_432, q_433, q_434, q_435, q_436, q_437, q_438, q_524, q_565, q_610, q_661, q_666, q_784, q_789, q_914, q_919, q_1038, q_1043, q_1162, q_1167, q_1292, q_1297, q_1416, q_1421, q_1540, q_1545, q_1670, q_1675, q_1794, q_1799, q_1918, q_1923, q_2048, q_2053, q_2172, q_2177, q_2296, q_2301, q_2426, q_2431, q_2550, q_2555, q_2680, q_2685, q_2686, q_2687, q_2688, q_2689, q_2690, q_2691, q_2692, q_2857, q_2862, q_2863, q_2864, q_2865, q_2866, q_2867, q_2868, q_2869, q_3035, q_3040, q_3041, q_3042, q_3043, q_3044, q_3045, q_3046, q_3047, q_3219, q_3338] := ⟨_, rfl⟩
  rw [← eL_3455] at hN_3452
  obtain ⟨gs_3456, eG_3457⟩ : ∃ G9 : List (Nat × List Nat), G9 = [(3, [q_1, q_5, q_6]), (4, [q_41, q_47, q_48, q_49, q_50, q_51, q_52, q_53, q_54]), (0, [q_126, q_132]), (1, [q_183, q_188]), (0, [q_224, q_230]), (2, [q_328, q_333, q_334, q_335, q_336, q_337, q_338, q_339, q_340]), (2, [q_425, q_431, q_432, q_433, q_434, q_435, q_436, q_437, q_438]), (1, [q_661, q_666]), (1, [q_784, q_789]), (1, [q_914, q_919]), (1, [q_1038, q_1043]), (1, [q_1162, q_1167]), (1, [q_1292, q_1297]), (1, [q_1416, q_1421]), (1, [q_1540, q_1545]), (1, [q_1670, q_1675]), (1, [q_1794, q_1799]), (1, [q_1918, q_1923]), (1, [q_2048, q_2053]), (1, [q_2172, q_2177]), (1, [q_2296, q_2301]), (1, [q_2426, q_2431]), (1, [q_2550, q_2555]), (2, [q_2680, q_2685, q_2686, q_2687, q_2688, q_2689, q_2690, q_2691, q_2692]), (2, [q_2857, q_2862, q_2863, q_2864, q_2865, q_2866, q_2867, q_2868, q_2869]), (2, [q_3035, q_3040, q_3041, q_3042, q_3043, q_3044, q_3045, q_3046, q_3047]), (5, [q_3219]), (5, [q_3338])] := ⟨_, rfl⟩
  rw [← eG_3457] at hG_3453
  refine j_iload_n C dX9_init_198 rfl 0 rfl ?_
  refine j_aload_n C dX9_init_199 rfl 1 rfl ?_
  show J _ _ _ _ _ 200 _
  refine j_getr (f := 912) (v := q_565) C flX9_70 dX9_init_200 hm_3404 hk_3405 (by decide) rfl hv_3444 ?_
  refine j_alen (v := 4) C dX9_init_203 hm_3424 hk_3425 (by decide) (by decide) (len_of (n := 4) hn_3426 (by decide)) ?_
  refine j_ic_ge (tgt := 226) C dX9_init_204 (by decide) (fun c9 => absurd c9 (by decide)) (fun c9 => ?_)
  refine j_aload_n C dX9_init_207 rfl 1 rfl ?_
  refine j_getr (f := 912) (v := q_565) C flX9_70 dX9_init_208 hm_3404 hk_3405 (by decide) rfl hv_3444 ?_
  refine j_iload_n C dX9_init_211 rfl 0 rfl ?_
  refine j_new (N := 13) C (ci := 5) rfl rfl klX9_68 knX5 kiX5 (M.cells (by decide)) (M.slots (by decide)) dX9_init_212 (fun q_3458 hq_3459 => ?_)
  have hz_3460 : q_3458 ∉ hL S := fun h9 => hq_3459 (hf_3446.mem h9)
  have gn_3461 : ∀ g9 ∈ gs_3456, ∀ p9 ∈ (gT g9.1).2.2, g9.2.getD p9.2.1 0 ≠ q_3458 := Gs.ne hG_3453 hq_3459
  refine j_dup C dX9_init_215 rfl ?_
  show J _ _ _ _ _ 216 _
  have hf_3462 : Fm (fun _ _ => False) (fun f9 b9 => b9 = h) (fun _ => False) S (nO S_3401 q_3458 5) := (hf_3446.nO _ hq_3459)
  refine j_callI C [] [.ref q_3458, .int 2, .ref q_565] mlX9_81 mcX5_init (c_X5_init (nO S_3401 q_3458 5) q_3458 mem_new (kd_nO' (k := 5))) (M.rm (by decide) (by decide) (Nat.le_of_ble_eq_true rfl) (Nat.le_of_ble_eq_true rfl)) rfl rfl (Nat.le_of_ble_eq_true rfl) dX9_init_216 (fun r_3463 S_3464 hp_3465 => ?_)
  obtain ⟨rfl, hf_3466⟩ := hp_3465
  refine J.eq (st' := [.ref q_3458, .int 2, .ref q_565]) rfl rfl rfl ?_
  have hz_3467 : ∀ j, aI S_3464 q_161 j = 0 := fun j9 => (hf_3466.ai (mem_old hm_3406) (fun h9 => h9) j9).trans (hz_3409 j9)
  have hz_3468 : ∀ j, aI S_3464 q_266 j = 0 := fun j9 => (hf_3466.ai (mem_old hm_3410) (fun h9 => h9) j9).trans (hz_3413 j9)
  have hz_3469 : ∀ j, aI S_3464 q_295 j = 0 := fun j9 => (hf_3466.ai (mem_old hm_3414) (fun h9 => h9) j9).trans (hz_3417 j9)
  have hz_3470 : ∀ j, aI S_3464 q_524 j = 0 := fun j9 => (hf_3466.ai (mem_old hm_3420) (fun h9 => h9) j9).trans (hz_3423 j9)
  have hz_3471 : ∀ j, aI S_3464 q_565 j = 0 := fun j9 => (hf_3466.ai (mem_old hm_3424) (fun h9 => h9) j9).trans (hz_3427 j9)
  have hz_3472 : ∀ j, aI S_3464 q_610 j = 0 := fun j9 => (hf_3466.ai (mem_old hm_3428) (fun h9 => h9) j9).trans (hz_3431 j9)
  have hm_3473 : h ∈ hL S_3464 := hf_3466.mem (mem_old hm_3404)
  have hk_3474 : Kd S_3464 h 9 := hf_3466.kd (mem_old hm_3404) (kd_nO (k := 5) hq_3459 hm_3404 hk_3405)
  have hm_3475 : q_161 ∈ hL S_3464 := hf_3466.mem (mem_old hm_3406)
  have hk_3476 : Kd S_3464 q_161 20 := hf_3466.kd (mem_old hm_3406) (kd_nO (k := 5) hq_3459 hm_3406 hk_3407)
  have hn_3477 : Ln S_3464 q_161 16 := hf_3466.ln (mem_old hm_3406) hn_3408
  have hm_3478 : q_266 ∈ hL S_3464 := hf_3466.mem (mem_old hm_3410)
  have hk_3479 : Kd S_3464 q_266 13 := hf_3466.kd (mem_old hm_3410) (kd_nO (k := 5) hq_3459 hm_3410 hk_3411)
  have hn_3480 : Ln S_3464 q_266 24000 := hf_3466.ln (mem_old hm_3410) hn_3412
  have hm_3481 : q_295 ∈ hL S_3464 := hf_3466.mem (mem_old hm_3414)
  have hk_3482 : Kd S_3464 q_295 14 := hf_3466.kd (mem_old hm_3414) (kd_nO (k := 5) hq_3459 hm_3414 hk_3415)
  have hn_3483 : Ln S_3464 q_295 16 := hf_3466.ln (mem_old hm_3414) hn_3416
  have hm_3484 : q_3458 ∈ hL S_3464 := hf_3466.mem mem_new
  have hk_3485 : Kd S_3464 q_3458 5 := hf_3466.kd mem_new (kd_nO' (k := 5))
  have hm_3486 : q_524 ∈ hL S_3464 := hf_3466.mem (mem_old hm_3420)
  have hk_3487 : Kd S_3464 q_524 18 := hf_3466.kd (mem_old hm_3420) (kd_nO (k := 5) hq_3459 hm_3420 hk_3421)
  have hn_3488 : Ln S_3464 q_524 3 := hf_3466.ln (mem_old hm_3420) hn_3422
  have hm_3489 : q_565 ∈ hL S_3464 := hf_3466.mem (mem_old hm_3424)
  have hk_3490 : Kd S_3464 q_565 19 := hf_3466.kd (mem_old hm_3424) (kd_nO (k := 5) hq_3459 hm_3424 hk_3425)
  have hn_3491 : Ln S_3464 q_565 4 := hf_3466.ln (mem_old hm_3424) hn_3426
  have hm_3492 : q_610 ∈ hL S_3464 := hf_3466.mem (mem_old hm_3428)
  have hk_3493 : Kd S_3464 q_610 14 := hf_3466.kd (mem_old hm_3428) (kd_nO (k := 5) hq_3459 hm_3428 hk_3429)
  have hn_3494 : Ln S_3464 q_610 12 := hf_3466.ln (mem_old hm_3428) hn_3430
  have hv_3495 : hR S_3464 900 h = (some s0) := hf_3466.fr (mem_old hm_3404) (fun q9 => (fun e9 => absurd (((kd_nO (k := 5) hq_3459 hm_3404 hk_3405)).symm.trans ((congrArg (hK _) e9).trans (kd_nO' (k := 5)))) (by decide)) q9) (rd_nOR (k := 5) hq_3459 hm_3404 hv_3432)
  have hv_3496 : hR S_3464 901 h = (some q_1) := hf_3466.fr (mem_old hm_3404) (fun q9 => (fun e9 => absurd (((kd_nO (k := 5) hq_3459 hm_3404 hk_3405)).symm.trans ((congrArg (hK _) e9).trans (kd_nO' (k := 5)))) (by decide)) q9) (rd_nOR (k := 5) hq_3459 hm_3404 hv_3433)
  have hv_3497 : hR S_3464 902 h = (some q_41) := hf_3466.fr (mem_old hm_3404) (fun q9 => (fun e9 => absurd (((kd_nO (k := 5) hq_3459 hm_3404 hk_3405)).symm.trans ((congrArg (hK _) e9).trans (kd_nO' (k := 5)))) (by decide)) q9) (rd_nOR (k := 5) hq_3459 hm_3404 hv_3434)
  have hv_3498 : hR S_3464 903 h = (some q_126) := hf_3466.fr (mem_old hm_3404) (fun q9 => (fun e9 => absurd (((kd_nO (k := 5) hq_3459 hm_3404 hk_3405)).symm.trans ((congrArg (hK _) e9).trans (kd_nO' (k := 5)))) (by decide)) q9) (rd_nOR (k := 5) hq_3459 hm_3404 hv_3435)
  have hv_3499 : hR S_3464 904 h = (some q_161) := hf_3466.fr (mem_old hm_3404) (fun q9 => (fun e9 => absurd (((kd_nO (k := 5) hq_3459 hm_3404 hk_3405)).symm.trans ((congrArg (hK _) e9).trans (kd_nO' (k := 5)))) (by decide)) q9) (rd_nOR (k := 5) hq_3459 hm_3404 hv_3436)
  have hv_3500 : hR S_3464 905 h = (some q_183) := hf_3466.fr (mem_old hm_3404) (fun q9 => (fun e9 => absurd (((kd_nO (k := 5) hq_3459 hm_3404 hk_3405)).symm.trans ((congrArg (hK _) e9).trans (kd_nO' (k := 5)))) (by decide)) q9) (rd_nOR (k := 5) hq_3459 hm_3404 hv_3437)
  have hv_3501 : hR S_3464 906 h = (some q_224) := hf_3466.fr (mem_old hm_3404) (fun q9 => (fun e9 => absurd (((kd_nO (k := 5) hq_3459 hm_3404 hk_3405)).symm.trans ((congrArg (hK _) e9).trans (kd_nO' (k := 5)))) (by decide)) q9) (rd_nOR (k := 5) hq_3459 hm_3404 hv_3438)
  have hv_3502 : hR S_3464 907 h = (some q_266) := hf_3466.fr (mem_old hm_3404) (fun q9 => (fun e9 => absurd (((kd_nO (k := 5) hq_3459 hm_3404 hk_3405)).symm.trans ((congrArg (hK _) e9).trans (kd_nO' (k := 5)))) (by decide)) q9) (rd_nOR (k := 5) hq_3459 hm_3404 hv_3439)
  have hv_3503 : hR S_3464 908 h = (some q_295) := hf_3466.fr (mem_old hm_3404) (fun q9 => (fun e9 => absurd (((kd_nO (k := 5) hq_3459 hm_3404 hk_3405)).symm.trans ((congrArg (hK _) e9).trans (kd_nO' (k := 5)))) (by decide)) q9) (rd_nOR (k := 5) hq_3459 hm_3404 hv_3440)
  have hv_3504 : hR S_3464 909 h = (some q_328) := hf_3466.fr (mem_old hm_3404) (fun q9 => (fun e9 => absurd (((kd_nO (k := 5) hq_3459 hm_3404 hk_3405)).symm.trans ((congrArg (hK _) e9).trans (kd_nO' (k := 5)))) (by decide)) q9) (rd_nOR (k := 5) hq_3459 hm_3404 hv_3441)
  have hv_3505 : hR S_3464 910 h = (some q_425) := hf_3466.fr (mem_old hm_3404) (fun q9 => (fun e9 => absurd (((kd_nO (k := 5) hq_3459 hm_3404 hk_3405)).symm.trans ((congrArg (hK _) e9).trans (kd_nO' (k := 5)))) (by decide)) q9) (rd_nOR (k := 5) hq_3459 hm_3404 hv_3442)
  have hv_3506 : hR S_3464 911 h = (some q_524) := hf_3466.fr (mem_old hm_3404) (fun q9 => (fun e9 => absurd (((kd_nO (k := 5) hq_3459 hm_3404 hk_3405)).symm.trans ((congrArg (hK _) e9).trans (kd_nO' (k := 5)))) (by decide)) q9) (rd_nOR (k := 5) hq_3459 hm_3404 hv_3443)
  have hv_3507 : hR S_3464 912 h = (some q_565) := hf_3466.fr (mem_old hm_3404) (fun q9 => (fun e9 => absurd (((kd_nO (k := 5) hq_3459 hm_3404 hk_3405)).symm.trans ((congrArg (hK _) e9).trans (kd_nO' (k := 5)))) (by decide)) q9) (rd_nOR (k := 5) hq_3459 hm_3404 hv_3444)
  have hv_3508 : hR S_3464 917 h = (some q_610) := hf_3466.fr (mem_old hm_3404) (fun q9 => (fun e9 => absurd (((kd_nO (k := 5) hq_3459 hm_3404 hk_3405)).symm.trans ((congrArg (hK _) e9).trans (kd_nO' (k := 5)))) (by decide)) q9) (rd_nOR (k := 5) hq_3459 hm_3404 hv_3445)
  have hf_3509 : Fm (fun _ _ => False) (fun f9 b9 => b9 = h) (fun _ => False) S S_3464 := hf_3462.then hf_3466 (fun a9 ha9 => ⟨(fun f9 h9 => h9.elim), (fun f9 h9 => (fun h8 => absurd (h8 ▸ ha9) hz_3460) h9), (fun h9 => h9.elim)⟩)
  have hN_3510 : NL S (L_3454 ++ [q_3458]) S_3464 := NL.mono (show NL S (L_3454 ++ [q_3458]) (nO S_3401 q_3458 5) from NL.nO hN_3452 hq_3459 hz_3460) (fun a9 h9 => hf_3466.mem h9)
  have hG_3511 : Gs h gs_3456 S_3464 := Gs.fm (show Gs h gs_3456 (nO S_3401 q_3458 5) from Gs.nO hG_3453 hq_3459) hf_3466 (fun g9 hg9 p9 hp9 => gn_3461 g9 hg9 p9 hp9)
  have hE_3512 : ELs S_3464 q_161 [q_661, q_784, q_914, q_1038, q_1162, q_1292, q_1416, q_1540, q_1670, q_1794, q_1918, q_2048, q_2172, q_2296, q_2426, q_2550] := ELs.fm (ELs.nO (S := S_3401) hE_3449) hf_3466 (mem_old hm_3406) (fun h9 => h9)
  have hE_3513 : ELs S_3464 q_524 [q_2680, q_2857, q_3035] := ELs.fm (ELs.nO (S := S_3401) hE_3450) hf_3466 (mem_old hm_3420) (fun h9 => h9)
  have hE_3514 : ELs S_3464 q_565 [q_3219, q_3338] := ELs.fm (ELs.nO (S := S_3401) hE_3451) hf_3466 (mem_old hm_3424) (fun h9 => h9)
  obtain ⟨L_3515, eL_3516⟩ : ∃ L9 : List Nat, L9 = (L_3454 ++ [q_3458]) := ⟨_, rfl⟩
  rw [← eL_3516] at hN_3510
  have hGt_3517 : Gt 5 [q_3458] S_3464 := ⟨fun i9 k9 h9 => (match i9, h9 with | 0, h9 => (by have e9 : (5 : Nat) = k9 := Option.some.inj h9; subst e9; exact ⟨hm_3484, hk_3485⟩) | i9 + 1, h9 => absurd h9 (by simp [gT])), (fun _ h9 => absurd h9 List.not_mem_nil), (fun _ h9 => absurd h9 List.not_mem_nil), (fun _ h9 => absurd h9 List.not_mem_nil)⟩
  have hG_3518 : Gs h (gs_3456 ++ [(5, [q_3458])]) S_3464 := Gs.snoc hG_3511 (by decide) hGt_3517 (fun _ h9 => absurd h9 List.not_mem_nil)
  obtain ⟨gs_3519, eG_3520⟩ : ∃ G9 : List (Nat × List Nat), G9 = gs_3456 ++ [(5, [q_3458])] := ⟨_, rfl⟩
  rw [← eG_3520] at hG_3518
  refine j_aast (j := 2) (ci := 5) C 19  (by decide) rfl dX9_init_219 hm_3489 hk_3490 (inr_of (n := 4) hn_3491 (vp_lit (by decide))) (by decide) hm_3484 hk_3485 rfl ?_
  have hf_3523 : Fm (fun _ _ => False) (fun f9 b9 => b9 = h) (fun _ => False) S (tR S_3464 q_565 2 (some q_3458)) := (hf_3509.tR _ _ (fun h9 => absurd h9 hz_567))
  obtain ⟨S_3521, eS_3522⟩ : ∃ S9 : Hp, S9 = (tR S_3464 q_565 2 (some q_3458)) := ⟨_, rfl⟩
  refine J.eq (S' := S_3521) eS_3522.symm rfl rfl ?_
  have hm_3524 : h ∈ hL S_3521 := by rw [eS_3522]; exact hm_3473
  have hk_3525 : Kd S_3521 h 9 := by rw [eS_3522]; exact hk_3474
  have hm_3526 : q_161 ∈ hL S_3521 := by rw [eS_3522]; exact hm_3475
  have hk_3527 : Kd S_3521 q_161 20 := by rw [eS_3522]; exact hk_3476
  have hn_3528 : Ln S_3521 q_161 16 := by rw [eS_3522]; exact hn_3477
  have hz_3529 : ∀ j, aI S_3521 q_161 j = 0 := by rw [eS_3522]; exact hz_3467
  have hm_3530 : q_266 ∈ hL S_3521 := by rw [eS_3522]; exact hm_3478
  have hk_3531 : Kd S_3521 q_266 13 := by rw [eS_3522]; exact hk_3479
  have hn_3532 : Ln S_3521 q_266 24000 := by rw [eS_3522]; exact hn_3480
  have hz_3533 : ∀ j, aI S_3521 q_266 j = 0 := by rw [eS_3522]; exact hz_3468
  have hm_3534 : q_295 ∈ hL S_3521 := by rw [eS_3522]; exact hm_3481
  have hk_3535 : Kd S_3521 q_295 14 := by rw [eS_3522]; exact hk_3482
  have hn_3536 : Ln S_3521 q_295 16 := by rw [eS_3522]; exact hn_3483
  have hz_3537 : ∀ j, aI S_3521 q_295 j = 0 := by rw [eS_3522]; exact hz_3469
  have hm_3538 : q_3458 ∈ hL S_3521 := by rw [eS_3522]; exact hm_3484
  have hk_3539 : Kd S_3521 q_3458 5 := by rw [eS_3522]; exact hk_3485
  have hm_3540 : q_524 ∈ hL S_3521 := by rw [eS_3522]; exact hm_3486
  have hk_3541 : Kd S_3521 q_524 18 := by rw [eS_3522]; exact hk_3487
  have hn_3542 : Ln S_3521 q_524 3 := by rw [eS_3522]; exact hn_3488
  have hz_3543 : ∀ j, aI S_3521 q_524 j = 0 := by rw [eS_3522]; exact hz_3470
  have hm_3544 : q_565 ∈ hL S_3521 := by rw [eS_3522]; exact hm_3489
  have hk_3545 : Kd S_3521 q_565 19 := by rw [eS_3522]; exact hk_3490
  have hn_3546 : Ln S_3521 q_565 4 := by rw [eS_3522]; exact hn_3491
  have hz_3547 : ∀ j, aI S_3521 q_565 j = 0 := by rw [eS_3522]; exact hz_3471
  have hm_3548 : q_610 ∈ hL S_3521 := by rw [eS_3522]; exact hm_3492
  have hk_3549 : Kd S_3521 q_610 14 := by rw [eS_3522]; exact hk_3493
  have hn_3550 : Ln S_3521 q_610 12 := by rw [eS_3522]; exact hn_3494
  have hz_3551 : ∀ j, aI S_3521 q_610 j = 0 := by rw [eS_3522]; exact hz_3472
  have hv_3552 : hR S_3521 900 h = (some s0) := by rw [eS_3522]; exact hv_3495
  have hv_3553 : hR S_3521 901 h = (some q_1) := by rw [eS_3522]; exact hv_3496
  have hv_3554 : hR S_3521 902 h = (some q_41) := by rw [eS_3522]; exact hv_3497
  have hv_3555 : hR S_3521 903 h = (some q_126) := by rw [eS_3522]; exact hv_3498
  have hv_3556 : hR S_3521 904 h = (some q_161) := by rw [eS_3522]; exact hv_3499
  have hv_3557 : hR S_3521 905 h = (some q_183) := by rw [eS_3522]; exact hv_3500
  have hv_3558 : hR S_3521 906 h = (some q_224) := by rw [eS_3522]; exact hv_3501
  have hv_3559 : hR S_3521 907 h = (some q_266) := by rw [eS_3522]; exact hv_3502
  have hv_3560 : hR S_3521 908 h = (some q_295) := by rw [eS_3522]; exact hv_3503
  have hv_3561 : hR S_3521 909 h = (some q_328) := by rw [eS_3522]; exact hv_3504
  have hv_3562 : hR S_3521 910 h = (some q_425) := by rw [eS_3522]; exact hv_3505
  have hv_3563 : hR S_3521 911 h = (some q_524) := by rw [eS_3522]; exact hv_3506
  have hv_3564 : hR S_3521 912 h = (some q_565) := by rw [eS_3522]; exact hv_3507
  have hv_3565 : hR S_3521 917 h = (some q_610) := by rw [eS_3522]; exact hv_3508
  have hf_3566 : Fm (fun _ _ => False) (fun f9 b9 => b9 = h) (fun _ => False) S S_3521 := by rw [eS_3522]; exact hf_3523
  have hN_3567 : NL S L_3515 S_3521 := by rw [eS_3522]; exact (NL.tR (S := S_3464) hN_3510)
  have hG_3568 : Gs h gs_3519 S_3521 := by rw [eS_3522]; exact (Gs.tR (S := S_3464) hG_3518)
  have hE_3569 : ELs S_3521 q_161 [q_661, q_784, q_914, q_1038, q_1162, q_1292, q_1416, q_1540, q_1670, q_1794, q_1918, q_2048, q_2172, q_2296, q_2426, q_2550] := by rw [eS_3522]; exact (ELs.tRx (S := S_3464) (fun e9 => absurd ((hk_3476).symm.trans ((congrArg (hK _) e9).trans hk_3490)) (by decide)) hE_3512)
  have hE_3570 : ELs S_3521 q_524 [q_2680, q_2857, q_3035] := by rw [eS_3522]; exact (ELs.tRx (S := S_3464) (fun e9 => absurd ((hk_3487).symm.trans ((congrArg (hK _) e9).trans hk_3490)) (by decide)) hE_3513)
  have hE_3571 : ELs S_3521 q_565 [q_3219, q_3338, q_3458] := by rw [eS_3522]; exact (show ELs (tR S_3464 q_565 2 (some q_3458)) q_565 [q_3219, q_3338, q_3458] from ELs.snoc hE_3514 rfl)
  refine j_iinc (q := 0) (v := 3) (lv' := [(2, .int 3), (0, .ref h), (1, .ref s0)]) C dX9_init_220 rfl (by decide) (by rw [hn9]; decide) rfl ?_
  refine j_goto (tgt := 198) C dX9_init_223 (by decide) ?_
  exact x9_t13 (q_1 := q_1) (q_5 := q_5) (q_6 := q_6) (q_41 := q_41) (q_47 := q_47) (q_48 := q_48) (q_49 := q_49) (q_50 := q_50) (q_51 := q_51) (q_52 := q_52) (q_53 := q_53) (q_54 := q_54) (q_126 := q_126) (q_132 := q_132) (q_161 := q_161) (q_183 := q_183) (q_188 := q_188) (q_224 := q_224) (q_230 := q_230) (q_266 := q_266) (q_295 := q_295) (q_328 := q_328) (q_333 := q_333) (q_334 := q_334) (q_335 := q_335) (q_336 := q_336) (q_337 := q_337) (q_338 := q_338) (q_339 := q_339) (q_340 := q_340) (q_425 := q_425) (q_431 := q_431) (q_432 := q_432) (q_433 := q_433) (q_434 := q_434) (q_435 := q_435) (q_436 := q_436) (q_437 := q_437) (q_438 := q_438) (q_524 := q_524) (q_565 := q_565) (q_610 := q_610) (q_661 := q_661) (q_666 := q_666) (q_784 := q_784) (q_789 := q_789) (q_914 := q_914) (q_919 := q_919) (q_1038 := q_1038) (q_1043 := q_1043) (q_1162 := q_1162) (q_1167 := q_1167) (q_1292 := q_1292) (q_1297 := q_1297) (q_1416 := q_1416) (q_1421 := q_1421) (q_1540 := q_1540) (q_1545 := q_1545) (q_1670 := q_1670) (q_1675 := q_1675) (q_1794 := q_1794) (q_1799 := q_1799) (q_1918 := q_1918) (q_1923 := q_1923) (q_2048 := q_2048) (q_2053 := q_2053) (q_2172 := q_2172) (q_2177 := q_2177) (q_2296 := q_2296) (q_2301 := q_2301) (q_2426 := q_2426) (q_2431 := q_2431) (q_2550 := q_2550) (q_2555 := q_2555) (q_2680 := q_2680) (q_2685 := q_2685) (q_2686 := q_2686) (q_2687 := q_2687) (q_2688 := q_2688) (q_2689 := q_2689) (q_2690 := q_2690) (q_2691 := q_2691) (q_2692 := q_2692) (q_2857 := q_2857) (q_2862 := q_2862) (q_2863 := q_2863) (q_2864 := q_2864) (q_2865 := q_2865) (q_2866 := q_2866) (q_2867 := q_2867) (q_2868 := q_2868) (q_2869 := q_2869) (q_3035 := q_3035) (q_3040 := q_3040) (q_3041 := q_3041) (q_3042 := q_3042) (q_3043 := q_3043) (q_3044 := q_3044) (q_3045 := q_3045) (q_3046 := q_3046) (q_3047 := q_3047) (q_3219 := q_3219) (q_3338 := q_3338) (q_3458 := q_3458) hn9 C M hm9 hm0_9 hz_164 hz_269 hz_297 hz_527 hz_567 hz_612 hm_3524 hk_3525 hm_3526 hk_3527 hn_3528 hz_3529 hm_3530 hk_3531 hn_3532 hz_3533 hm_3534 hk_3535 hn_3536 hz_3537 hm_3540 hk_3541 hn_3542 hz_3543 hm_3544 hk_3545 hn_3546 hz_3547 hm_3548 hk_3549 hn_3550 hz_3551 hv_3552 hv_3553 hv_3554 hv_3555 hv_3556 hv_3557 hv_3558 hv_3559 hv_3560 hv_3561 hv_3562 hv_3563 hv_3564 hv_3565 (by have h9 := hN_3567; rw [eL_3516, eL_3455] at h9; simpa only [List.nil_append, List.cons_append, List.append_assoc] using h9) (by have h9 := hG_3568; rw [eG_3520, eG_3457] at h9; simpa only [List.nil_append, List.cons_append, List.append_assoc] using h9) hE_3569 hE_3570 hE_3571 hf_3566

set_option maxRecDepth 100000 in
set_option maxHeartbeats 8000000 in
theorem x9_t11 {x : JX} {S S_3281 : Hp} {h s0 q_1 q_5 q_6 q_41 q_47 q_48 q_49 q_50 q_51 q_52 q_53 q_54 q_126 q_132 q_161 q_183 q_188 q_224 q_230 q_266 q_295 q_328 q_333 q_334 q_335 q_336 q_337 q_338 q_339 q_340 q_425 q_431 q_432 q_433 q_434 q_435 q_436 q_437 q_438 q_524 q_565 q_610 q_661 q_666 q_784 q_789 q_914 q_919 q_1038 q_1043 q_1162 q_1167 q_1292 q_1297 q_1416 q_1421 q_1540 q_1545 q_1670 q_1675 q_1794 q_1799 q_1918 q_1923 q_2048 q_2053 q_2172 q_2177 q_2296 q_2301 q_2426 q_2431 q_2550 q_2555 q_2680 q_2685 q_2686 q_2687 q_2688 q_2689 q_2690 q_2691 q_2692 q_2857 q_2862 q_2863 q_2864 q_2865 q_2866 q_2867 q_2868 q_2869 q_3035 q_3040 q_3041 q_3042 q_3043 q_3044 q_3045 q_3046 q_3047 q_3219 : Nat} (hn9 : x_n x = 3) (C : CB x RX9 cX9_init) (M : CM x 4 113 68424 none S (fun r S' => r = none ∧ Fm (fun _ _ => False) (fun f9 b9 => b9 = h) (fun _ => False) S S' ∧ hR S' 900 h = some s0 ∧ ∃ l : List Nat, Wt s9K s9N s9P s9Q (fun i => (h :: l).getD i 0) S' ∧ l.length = 105 ∧ NL S l S' ∧ (∀ j, aI S' ((h :: l).getD 6 0) j = 0) ∧ (∀ j, aI S' ((h :: l).getD 9 0) j = 0) ∧ (∀ j, aI S' ((h :: l).getD 14 0) j = 0) ∧ (∀ j, aI S' ((h :: l).getD 19 0) j = 0))) (hm9 : (x_meth x).name = yX9_init.name) (hm0_9 : h ∈ hL S) (hz_164 : q_161 ∉ hL S) (hz_269 : q_266 ∉ hL S) (hz_297 : q_295 ∉ hL S) (hz_527 : q_524 ∉ hL S) (hz_567 : q_565 ∉ hL S) (hz_612 : q_610 ∉ hL S) (hm_3284 : h ∈ hL S_3281) (hk_3285 : Kd S_3281 h 9) (hm_3286 : q_161 ∈ hL S_3281) (hk_3287 : Kd S_3281 q_161 20) (hn_3288 : Ln S_3281 q_161 16) (hz_3289 : ∀ j, aI S_3281 q_161 j = 0) (hm_3290 : q_266 ∈ hL S_3281) (hk_3291 : Kd S_3281 q_266 13) (hn_3292 : Ln S_3281 q_266 24000) (hz_3293 : ∀ j, aI S_3281 q_266 j = 0) (hm_3294 : q_295 ∈ hL S_3281) (hk_3295 : Kd S_3281 q_295 14) (hn_3296 : Ln S_3281 q_295 16) (hz_3297 : ∀ j, aI S_3281 q_295 j = 0) (hm_3300 : q_524 ∈ hL S_3281) (hk_3301 : Kd S_3281 q_524 18) (hn_3302 : Ln S_3281 q_524 3) (hz_3303 : ∀ j, aI S_3281 q_524 j = 0) (hm_3304 : q_565 ∈ hL S_3281) (hk_3305 : Kd S_3281 q_565 19) (hn_3306 : Ln S_3281 q_565 4) (hz_3307 : ∀ j, aI S_3281 q_565 j = 0) (hm_3308 : q_610 ∈ hL S_3281) (hk_3309 : Kd S_3281 q_610 14) (hn_3310 : Ln S_3281 q_610 12) (hz_3311 : ∀ j, aI S_3281 q_610 j = 0) (hv_3312 : hR S_3281 900 h = (some s0)) (hv_3313 : hR S_3281 901 h = (some q_1)) (hv_3314 : hR S_3281 902 h = (some q_41)) (hv_3315 : hR S_3281 903 h = (some q_126)) (hv_3316 : hR S_3281 904 h = (some q_161)) (hv_3317 : hR S_3281 905 h = (some q_183)) (hv_3318 : hR S_3281 906 h = (some q_224)) (hv_3319 : hR S_3281 907 h = (some q_266)) (hv_3320 : hR S_3281 908 h = (some q_295)) (hv_3321 : hR S_3281 909 h = (some q_328)) (hv_3322 : hR S_3281 910 h = (some q_425)) (hv_3323 : hR S_3281 911 h = (some q_524)) (hv_3324 : hR S_3281 912 h = (some q_565)) (hv_3325 : hR S_3281 917 h = (some q_610)) (hN_3332 : NL S [q_1, q_5, q_6, q_41, q_47, q_48, q_49, q_50, q_51, q_52, q_53, q_54, q_126, q_132, q_161, q_183, q_188, q_224, q_230, q_266, q_295, q_328, q_333, q_334, q_335, q_336, q_337, q_338, q_339, q_340, q_425, q_431, q_432, q_433, q_434, q_435, q_436, q_437, q_438, q_524, q_565, q_610, q_661, q_666, q_784, q_789, q_914, q_919, q_1038, q_1043, q_1162, q_1167, q_1292, q_1297, q_1416, q_1421, q_1540, q_1545, q_1670, q_1675, q_1794, q_1799, q_1918, q_1923, q_2048, q_2053, q_2172, q_2177, q_2296, q_2301, q_2426, q_2431, q_2550, q_2555, q_2680, q_2685, q_2686, q_2687, q_2688, q_2689, q_2690, q_2691, q_2692, q_2857, q_2862, q_2863, q_2864, q_2865, q_2866, q_2867, q_2868, q_2869, q_3035, q_3040, q_3041, q_3042, q_3043, q_3044, q_3045, q_3046, q_3047, q_3219] S_3281) (hG_3333 : Gs h [(3, [q_1, q_5, q_6]), (4, [q_41, q_47, q_48, q_49, q_50, q_51, q_52, q_53, q_54]), (0, [q_126, q_132]), (1, [q_183, q_188]), (0, [q_224, q_230]), (2, [q_328, q_333, q_334, q_335, q_336, q_337, q_338, q_339, q_340]), (2, [q_425, q_431, q_432, q_433, q_434, q_435, q_436, q_437, q_438]), (1, [q_661, q_666]), (1, [q_784, q_789]), (1, [q_914, q_919]), (1, [q_1038, q_1043]), (1, [q_1162, q_1167]), (1, [q_1292, q_1297]), (1, [q_1416, q_1421]), (1, [q_1540, q_1545]), (1, [q_1670, q_1675]), (1, [q_1794, q_1799]), (1, [q_1918, q_1923]), (1, [q_2048, q_2053]), (1, [q_2172, q_2177]), (1, [q_2296, q_2301]), (1, [q_2426, q_2431]), (1, [q_2550, q_2555]), (2, [q_2680, q_2685, q_2686, q_2687, q_2688, q_2689, q_2690, q_2691, q_2692]), (2, [q_2857, q_2862, q_2863, q_2864, q_2865, q_2866, q_2867, q_2868, q_2869]), (2, [q_3035, q_3040, q_3041, q_3042, q_3043, q_3044, q_3045, q_3046, q_3047]), (5, [q_3219])] S_3281) (hE_3329 : ELs S_3281 q_161 [q_661, q_784, q_914, q_1038, q_1162, q_1292, q_1416, q_1540, q_1670, q_1794, q_1918, q_2048, q_2172, q_2296, q_2426, q_2550]) (hE_3330 : ELs S_3281 q_524 [q_2680, q_2857, q_3035]) (hE_3331 : ELs S_3281 q_565 [q_3219]) (hf_3326 : Fm (fun _ _ => False) (fun f9 b9 => b9 = h) (fun _ => False) S S_3281) : J x (0 + 1 + 4 + 1 + 8 + 1 + 1 + 1 + 1 + 1 + 1 + 1 + 1 + 1 + 1 + 8 + 1 + 8 + 1 + 1 + 1 + 1 + 1 + 1 + 1 + 1 + 1 + 1 + 1 + 1 + 1 + 1 + 1 + 1 + 1 + 1 + 1 + 1 + 1 + 1 + 1 + 1 + 1 + 1 + 1 + 1 + 1 + 1 + 1 + 1 + 1 + 1 + 1 + 1 + 8 + 1 + 8 + 1 + 8 + 1 + 1) (0 + 15 + 20045 + 10 + 23174 + 1 + 16 + 16 + 4 + 16 + 1 + 16 + 24000 + 16 + 21 + 117 + 21 + 117 + 3 + 4 + 12 + 4 + 16 + 4 + 16 + 4 + 16 + 4 + 16 + 4 + 16 + 4 + 16 + 4 + 16 + 4 + 16 + 4 + 16 + 4 + 16 + 4 + 16 + 4 + 16 + 4 + 16 + 4 + 16 + 4 + 16 + 4 + 16 + 21 + 117 + 21 + 117 + 21 + 117 + 13 + 0) S_3281 [(2, .int 1), (0, .ref h), (1, .ref s0)] 198 [] := by
  obtain ⟨L_3334, eL_3335⟩ : ∃ L9 : List Nat, L9 = [q_1, q_5, q_6, q_41, q_47, q_48, q_49, q_50, q_51, q_52, q_53, q_54, q_126, q_132, q_161, q_183, q_188, q_224, q_230, q_266, q_295, q_328, q_333, q_334, q_335, q_336, q_337, q_338, q_339, q_340, q_425, q_431, q_432, q_433, q_434, q_435, q_436, q_437, q_438, q_524, q_565, q_610, q_661, q_666, q_784, q_789, q_914, q_919, q_1038, q_1043, q_1162, q_1167, q_1292, q_1297, q_1416, q_1421, q_1540, q_1545, q_1670, q_1675, q_1794, q_1799, q_1918, q_1923, q_2048, q_2053, q_2172, q_2177, q_2296, q_2301, q_2426, q_2431, q_2550, q_2555, q_2680, q_2685, q_2686, q_2687, q_2688, q_2689, q_2690, q_2691, q_2692, q_2857, q_2862, q_2863, q_2864, q_2865, q_2866, q_2867, q_2868, q_2869, q_3035, q_3040, q_3041, q_3042, q_3043, q_3044, q_3045, q_3046, q_3047, q_3219] := ⟨_, rfl⟩
  rw [← eL_3335] at hN_3332
  obtain ⟨gs_3336, eG_3337⟩ : ∃ G9 : List (Nat × List Nat), G9 = [(3, [q_1, q_5, q_6]), (4, [q_41, q_47, q_48, q_49, q_50, q_51, q_52, q_53, q_54]), (0, [q_126, q_132]), (1, [q_183, q_188]), (0, [q_224, q_230]), (2, [q_328, q_333, q_334, q_335, q_336, q_337, q_338, q_339, q_340]), (2, [q_425, q_431, q_432, q_433, q_434, q_435, q_436, q_437, q_438]), (1, [q_661, q_666]), (1, [q_784, q_789]), (1, [q_914, q_919]), (1, [q_1038, q_1043]), (1, [q_1162, q_1167]), (1, [q_1292, q_1297]), (1, [q_1416, q_1421]), (1, [q_1540, q_1545]), (1, [q_1670, q_1675]), (1, [q_1794, q_1799]), (1, [q_1918, q_1923]), (1, [q_2048, q_2053]), (1, [q_2172, q_2177]), (1, [q_2296, q_2301]), (1, [q_2426, q_2431]), (1, [q_2550, q_2555]), (2, [q_2680, q_2685, q_2686, q_2687, q_2688, q_2689, q_2690, q_2691, q_2692]), (2, [q_2857, q_2862, q_2863, q_2864, q_2865, q_2866, q_2867, q_2868, q_2869]), (2, [q_3035, q_3040, q_3041, q_3042, q_3043, q_3044, q_3045, q_3046, q_3047]), (5, [q_3219])] := ⟨_, rfl⟩
  rw [← eG_3337] at hG_3333
  refine j_iload_n C dX9_init_198 rfl 0 rfl ?_
  refine j_aload_n C dX9_init_199 rfl 1 rfl ?_
  refine j_getr (f := 912) (v := q_565) C flX9_70 dX9_init_200 hm_3284 hk_3285 (by decide) rfl hv_3324 ?_
  refine j_alen (v := 4) C dX9_init_203 hm_3304 hk_3305 (by decide) (by decide) (len_of (n := 4) hn_3306 (by decide)) ?_
  refine j_ic_ge (tgt := 226) C dX9_init_204 (by decide) (fun c9 => absurd c9 (by decide)) (fun c9 => ?_)
  refine j_aload_n C dX9_init_207 rfl 1 rfl ?_
  refine j_getr (f := 912) (v := q_565) C flX9_70 dX9_init_208 hm_3284 hk_3285 (by decide) rfl hv_3324 ?_
  refine j_iload_n C dX9_init_211 rfl 0 rfl ?_
  show J _ _ _ _ _ 212 _
  refine j_new (N := 13) C (ci := 5) rfl rfl klX9_68 knX5 kiX5 (M.cells (by decide)) (M.slots (by decide)) dX9_init_212 (fun q_3338 hq_3339 => ?_)
  have hz_3340 : q_3338 ∉ hL S := fun h9 => hq_3339 (hf_3326.mem h9)
  have gn_3341 : ∀ g9 ∈ gs_3336, ∀ p9 ∈ (gT g9.1).2.2, g9.2.getD p9.2.1 0 ≠ q_3338 := Gs.ne hG_3333 hq_3339
  refine j_dup C dX9_init_215 rfl ?_
  have hf_3342 : Fm (fun _ _ => False) (fun f9 b9 => b9 = h) (fun _ => False) S (nO S_3281 q_3338 5) := (hf_3326.nO _ hq_3339)
  refine j_callI C [] [.ref q_3338, .int 1, .ref q_565] mlX9_81 mcX5_init (c_X5_init (nO S_3281 q_3338 5) q_3338 mem_new (kd_nO' (k := 5))) (M.rm (by decide) (by decide) (Nat.le_of_ble_eq_true rfl) (Nat.le_of_ble_eq_true rfl)) rfl rfl (Nat.le_of_ble_eq_true rfl) dX9_init_216 (fun r_3343 S_3344 hp_3345 => ?_)
  obtain ⟨rfl, hf_3346⟩ := hp_3345
  refine J.eq (st' := [.ref q_3338, .int 1, .ref q_565]) rfl rfl rfl ?_
  have hz_3347 : ∀ j, aI S_3344 q_161 j = 0 := fun j9 => (hf_3346.ai (mem_old hm_3286) (fun h9 => h9) j9).trans (hz_3289 j9)
  have hz_3348 : ∀ j, aI S_3344 q_266 j = 0 := fun j9 => (hf_3346.ai (mem_old hm_3290) (fun h9 => h9) j9).trans (hz_3293 j9)
  have hz_3349 : ∀ j, aI S_3344 q_295 j = 0 := fun j9 => (hf_3346.ai (mem_old hm_3294) (fun h9 => h9) j9).trans (hz_3297 j9)
  have hz_3350 : ∀ j, aI S_3344 q_524 j = 0 := fun j9 => (hf_3346.ai (mem_old hm_3300) (fun h9 => h9) j9).trans (hz_3303 j9)
  have hz_3351 : ∀ j, aI S_3344 q_565 j = 0 := fun j9 => (hf_3346.ai (mem_old hm_3304) (fun h9 => h9) j9).trans (hz_3307 j9)
  have hz_3352 : ∀ j, aI S_3344 q_610 j = 0 := fun j9 => (hf_3346.ai (mem_old hm_3308) (fun h9 => h9) j9).trans (hz_3311 j9)
  have hm_3353 : h ∈ hL S_3344 := hf_3346.mem (mem_old hm_3284)
  have hk_3354 : Kd S_3344 h 9 := hf_3346.kd (mem_old hm_3284) (kd_nO (k := 5) hq_3339 hm_3284 hk_3285)
  have hm_3355 : q_161 ∈ hL S_3344 := hf_3346.mem (mem_old hm_3286)
  have hk_3356 : Kd S_3344 q_161 20 := hf_3346.kd (mem_old hm_3286) (kd_nO (k := 5) hq_3339 hm_3286 hk_3287)
  have hn_3357 : Ln S_3344 q_161 16 := hf_3346.ln (mem_old hm_3286) hn_3288
  have hm_3358 : q_266 ∈ hL S_3344 := hf_3346.mem (mem_old hm_3290)
  have hk_3359 : Kd S_3344 q_266 13 := hf_3346.kd (mem_old hm_3290) (kd_nO (k := 5) hq_3339 hm_3290 hk_3291)
  have hn_3360 : Ln S_3344 q_266 24000 := hf_3346.ln (mem_old hm_3290) hn_3292
  have hm_3361 : q_295 ∈ hL S_3344 := hf_3346.mem (mem_old hm_3294)
  have hk_3362 : Kd S_3344 q_295 14 := hf_3346.kd (mem_old hm_3294) (kd_nO (k := 5) hq_3339 hm_3294 hk_3295)
  have hn_3363 : Ln S_3344 q_295 16 := hf_3346.ln (mem_old hm_3294) hn_3296
  have hm_3364 : q_3338 ∈ hL S_3344 := hf_3346.mem mem_new
  have hk_3365 : Kd S_3344 q_3338 5 := hf_3346.kd mem_new (kd_nO' (k := 5))
  have hm_3366 : q_524 ∈ hL S_3344 := hf_3346.mem (mem_old hm_3300)
  have hk_3367 : Kd S_3344 q_524 18 := hf_3346.kd (mem_old hm_3300) (kd_nO (k := 5) hq_3339 hm_3300 hk_3301)
  have hn_3368 : Ln S_3344 q_524 3 := hf_3346.ln (mem_old hm_3300) hn_3302
  have hm_3369 : q_565 ∈ hL S_3344 := hf_3346.mem (mem_old hm_3304)
  have hk_3370 : Kd S_3344 q_565 19 := hf_3346.kd (mem_old hm_3304) (kd_nO (k := 5) hq_3339 hm_3304 hk_3305)
  have hn_3371 : Ln S_3344 q_565 4 := hf_3346.ln (mem_old hm_3304) hn_3306
  have hm_3372 : q_610 ∈ hL S_3344 := hf_3346.mem (mem_old hm_3308)
  have hk_3373 : Kd S_3344 q_610 14 := hf_3346.kd (mem_old hm_3308) (kd_nO (k := 5) hq_3339 hm_3308 hk_3309)
  have hn_3374 : Ln S_3344 q_610 12 := hf_3346.ln (mem_old hm_3308) hn_3310
  have hv_3375 : hR S_3344 900 h = (some s0) := hf_3346.fr (mem_old hm_3284) (fun q9 => (fun e9 => absurd (((kd_nO (k := 5) hq_3339 hm_3284 hk_3285)).symm.trans ((congrArg (hK _) e9).trans (kd_nO' (k := 5)))) (by decide)) q9) (rd_nOR (k := 5) hq_3339 hm_3284 hv_3312)
  have hv_3376 : hR S_3344 901 h = (some q_1) := hf_3346.fr (mem_old hm_3284) (fun q9 => (fun e9 => absurd (((kd_nO (k := 5) hq_3339 hm_3284 hk_3285)).symm.trans ((congrArg (hK _) e9).trans (kd_nO' (k := 5)))) (by decide)) q9) (rd_nOR (k := 5) hq_3339 hm_3284 hv_3313)
  have hv_3377 : hR S_3344 902 h = (some q_41) := hf_3346.fr (mem_old hm_3284) (fun q9 => (fun e9 => absurd (((kd_nO (k := 5) hq_3339 hm_3284 hk_3285)).symm.trans ((congrArg (hK _) e9).trans (kd_nO' (k := 5)))) (by decide)) q9) (rd_nOR (k := 5) hq_3339 hm_3284 hv_3314)
  have hv_3378 : hR S_3344 903 h = (some q_126) := hf_3346.fr (mem_old hm_3284) (fun q9 => (fun e9 => absurd (((kd_nO (k := 5) hq_3339 hm_3284 hk_3285)).symm.trans ((congrArg (hK _) e9).trans (kd_nO' (k := 5)))) (by decide)) q9) (rd_nOR (k := 5) hq_3339 hm_3284 hv_3315)
  have hv_3379 : hR S_3344 904 h = (some q_161) := hf_3346.fr (mem_old hm_3284) (fun q9 => (fun e9 => absurd (((kd_nO (k := 5) hq_3339 hm_3284 hk_3285)).symm.trans ((congrArg (hK _) e9).trans (kd_nO' (k := 5)))) (by decide)) q9) (rd_nOR (k := 5) hq_3339 hm_3284 hv_3316)
  have hv_3380 : hR S_3344 905 h = (some q_183) := hf_3346.fr (mem_old hm_3284) (fun q9 => (fun e9 => absurd (((kd_nO (k := 5) hq_3339 hm_3284 hk_3285)).symm.trans ((congrArg (hK _) e9).trans (kd_nO' (k := 5)))) (by decide)) q9) (rd_nOR (k := 5) hq_3339 hm_3284 hv_3317)
  have hv_3381 : hR S_3344 906 h = (some q_224) := hf_3346.fr (mem_old hm_3284) (fun q9 => (fun e9 => absurd (((kd_nO (k := 5) hq_3339 hm_3284 hk_3285)).symm.trans ((congrArg (hK _) e9).trans (kd_nO' (k := 5)))) (by decide)) q9) (rd_nOR (k := 5) hq_3339 hm_3284 hv_3318)
  have hv_3382 : hR S_3344 907 h = (some q_266) := hf_3346.fr (mem_old hm_3284) (fun q9 => (fun e9 => absurd (((kd_nO (k := 5) hq_3339 hm_3284 hk_3285)).symm.trans ((congrArg (hK _) e9).trans (kd_nO' (k := 5)))) (by decide)) q9) (rd_nOR (k := 5) hq_3339 hm_3284 hv_3319)
  have hv_3383 : hR S_3344 908 h = (some q_295) := hf_3346.fr (mem_old hm_3284) (fun q9 => (fun e9 => absurd (((kd_nO (k := 5) hq_3339 hm_3284 hk_3285)).symm.trans ((congrArg (hK _) e9).trans (kd_nO' (k := 5)))) (by decide)) q9) (rd_nOR (k := 5) hq_3339 hm_3284 hv_3320)
  have hv_3384 : hR S_3344 909 h = (some q_328) := hf_3346.fr (mem_old hm_3284) (fun q9 => (fun e9 => absurd (((kd_nO (k := 5) hq_3339 hm_3284 hk_3285)).symm.trans ((congrArg (hK _) e9).trans (kd_nO' (k := 5)))) (by decide)) q9) (rd_nOR (k := 5) hq_3339 hm_3284 hv_3321)
  have hv_3385 : hR S_3344 910 h = (some q_425) := hf_3346.fr (mem_old hm_3284) (fun q9 => (fun e9 => absurd (((kd_nO (k := 5) hq_3339 hm_3284 hk_3285)).symm.trans ((congrArg (hK _) e9).trans (kd_nO' (k := 5)))) (by decide)) q9) (rd_nOR (k := 5) hq_3339 hm_3284 hv_3322)
  have hv_3386 : hR S_3344 911 h = (some q_524) := hf_3346.fr (mem_old hm_3284) (fun q9 => (fun e9 => absurd (((kd_nO (k := 5) hq_3339 hm_3284 hk_3285)).symm.trans ((congrArg (hK _) e9).trans (kd_nO' (k := 5)))) (by decide)) q9) (rd_nOR (k := 5) hq_3339 hm_3284 hv_3323)
  have hv_3387 : hR S_3344 912 h = (some q_565) := hf_3346.fr (mem_old hm_3284) (fun q9 => (fun e9 => absurd (((kd_nO (k := 5) hq_3339 hm_3284 hk_3285)).symm.trans ((congrArg (hK _) e9).trans (kd_nO' (k := 5)))) (by decide)) q9) (rd_nOR (k := 5) hq_3339 hm_3284 hv_3324)
  have hv_3388 : hR S_3344 917 h = (some q_610) := hf_3346.fr (mem_old hm_3284) (fun q9 => (fun e9 => absurd (((kd_nO (k := 5) hq_3339 hm_3284 hk_3285)).symm.trans ((congrArg (hK _) e9).trans (kd_nO' (k := 5)))) (by decide)) q9) (rd_nOR (k := 5) hq_3339 hm_3284 hv_3325)
  have hf_3389 : Fm (fun _ _ => False) (fun f9 b9 => b9 = h) (fun _ => False) S S_3344 := hf_3342.then hf_3346 (fun a9 ha9 => ⟨(fun f9 h9 => h9.elim), (fun f9 h9 => (fun h8 => absurd (h8 ▸ ha9) hz_3340) h9), (fun h9 => h9.elim)⟩)
  have hN_3390 : NL S (L_3334 ++ [q_3338]) S_3344 := NL.mono (show NL S (L_3334 ++ [q_3338]) (nO S_3281 q_3338 5) from NL.nO hN_3332 hq_3339 hz_3340) (fun a9 h9 => hf_3346.mem h9)
  have hG_3391 : Gs h gs_3336 S_3344 := Gs.fm (show Gs h gs_3336 (nO S_3281 q_3338 5) from Gs.nO hG_3333 hq_3339) hf_3346 (fun g9 hg9 p9 hp9 => gn_3341 g9 hg9 p9 hp9)
  have hE_3392 : ELs S_3344 q_161 [q_661, q_784, q_914, q_1038, q_1162, q_1292, q_1416, q_1540, q_1670, q_1794, q_1918, q_2048, q_2172, q_2296, q_2426, q_2550] := ELs.fm (ELs.nO (S := S_3281) hE_3329) hf_3346 (mem_old hm_3286) (fun h9 => h9)
  have hE_3393 : ELs S_3344 q_524 [q_2680, q_2857, q_3035] := ELs.fm (ELs.nO (S := S_3281) hE_3330) hf_3346 (mem_old hm_3300) (fun h9 => h9)
  have hE_3394 : ELs S_3344 q_565 [q_3219] := ELs.fm (ELs.nO (S := S_3281) hE_3331) hf_3346 (mem_old hm_3304) (fun h9 => h9)
  obtain ⟨L_3395, eL_3396⟩ : ∃ L9 : List Nat, L9 = (L_3334 ++ [q_3338]) := ⟨_, rfl⟩
  rw [← eL_3396] at hN_3390
  have hGt_3397 : Gt 5 [q_3338] S_3344 := ⟨fun i9 k9 h9 => (match i9, h9 with | 0, h9 => (by have e9 : (5 : Nat) = k9 := Option.some.inj h9; subst e9; exact ⟨hm_3364, hk_3365⟩) | i9 + 1, h9 => absurd h9 (by simp [gT])), (fun _ h9 => absurd h9 List.not_mem_nil), (fun _ h9 => absurd h9 List.not_mem_nil), (fun _ h9 => absurd h9 List.not_mem_nil)⟩
  have hG_3398 : Gs h (gs_3336 ++ [(5, [q_3338])]) S_3344 := Gs.snoc hG_3391 (by decide) hGt_3397 (fun _ h9 => absurd h9 List.not_mem_nil)
  obtain ⟨gs_3399, eG_3400⟩ : ∃ G9 : List (Nat × List Nat), G9 = gs_3336 ++ [(5, [q_3338])] := ⟨_, rfl⟩
  rw [← eG_3400] at hG_3398
  refine j_aast (j := 1) (ci := 5) C 19  (by decide) rfl dX9_init_219 hm_3369 hk_3370 (inr_of (n := 4) hn_3371 (vp_lit (by decide))) (by decide) hm_3364 hk_3365 rfl ?_
  have hf_3403 : Fm (fun _ _ => False) (fun f9 b9 => b9 = h) (fun _ => False) S (tR S_3344 q_565 1 (some q_3338)) := (hf_3389.tR _ _ (fun h9 => absurd h9 hz_567))
  obtain ⟨S_3401, eS_3402⟩ : ∃ S9 : Hp, S9 = (tR S_3344 q_565 1 (some q_3338)) := ⟨_, rfl⟩
  refine J.eq (S' := S_3401) eS_3402.symm rfl rfl ?_
  have hm_3404 : h ∈ hL S_3401 := by rw [eS_3402]; exact hm_3353
  have hk_3405 : Kd S_3401 h 9 := by rw [eS_3402]; exact hk_3354
  have hm_3406 : q_161 ∈ hL S_3401 := by rw [eS_3402]; exact hm_3355
  have hk_3407 : Kd S_3401 q_161 20 := by rw [eS_3402]; exact hk_3356
  have hn_3408 : Ln S_3401 q_161 16 := by rw [eS_3402]; exact hn_3357
  have hz_3409 : ∀ j, aI S_3401 q_161 j = 0 := by rw [eS_3402]; exact hz_3347
  have hm_3410 : q_266 ∈ hL S_3401 := by rw [eS_3402]; exact hm_3358
  have hk_3411 : Kd S_3401 q_266 13 := by rw [eS_3402]; exact hk_3359
  have hn_3412 : Ln S_3401 q_266 24000 := by rw [eS_3402]; exact hn_3360
  have hz_3413 : ∀ j, aI S_3401 q_266 j = 0 := by rw [eS_3402]; exact hz_3348
  have hm_3414 : q_295 ∈ hL S_3401 := by rw [eS_3402]; exact hm_3361
  have hk_3415 : Kd S_3401 q_295 14 := by rw [eS_3402]; exact hk_3362
  have hn_3416 : Ln S_3401 q_295 16 := by rw [eS_3402]; exact hn_3363
  have hz_3417 : ∀ j, aI S_3401 q_295 j = 0 := by rw [eS_3402]; exact hz_3349
  have hm_3418 : q_3338 ∈ hL S_3401 := by rw [eS_3402]; exact hm_3364
  have hk_3419 : Kd S_3401 q_3338 5 := by rw [eS_3402]; exact hk_3365
  have hm_3420 : q_524 ∈ hL S_3401 := by rw [eS_3402]; exact hm_3366
  have hk_3421 : Kd S_3401 q_524 18 := by rw [eS_3402]; exact hk_3367
  have hn_3422 : Ln S_3401 q_524 3 := by rw [eS_3402]; exact hn_3368
  have hz_3423 : ∀ j, aI S_3401 q_524 j = 0 := by rw [eS_3402]; exact hz_3350
  have hm_3424 : q_565 ∈ hL S_3401 := by rw [eS_3402]; exact hm_3369
  have hk_3425 : Kd S_3401 q_565 19 := by rw [eS_3402]; exact hk_3370
  have hn_3426 : Ln S_3401 q_565 4 := by rw [eS_3402]; exact hn_3371
  have hz_3427 : ∀ j, aI S_3401 q_565 j = 0 := by rw [eS_3402]; exact hz_3351
  have hm_3428 : q_610 ∈ hL S_3401 := by rw [eS_3402]; exact hm_3372
  have hk_3429 : Kd S_3401 q_610 14 := by rw [eS_3402]; exact hk_3373
  have hn_3430 : Ln S_3401 q_610 12 := by rw [eS_3402]; exact hn_3374
  have hz_3431 : ∀ j, aI S_3401 q_610 j = 0 := by rw [eS_3402]; exact hz_3352
  have hv_3432 : hR S_3401 900 h = (some s0) := by rw [eS_3402]; exact hv_3375
  have hv_3433 : hR S_3401 901 h = (some q_1) := by rw [eS_3402]; exact hv_3376
  have hv_3434 : hR S_3401 902 h = (some q_41) := by rw [eS_3402]; exact hv_3377
  have hv_3435 : hR S_3401 903 h = (some q_126) := by rw [eS_3402]; exact hv_3378
  have hv_3436 : hR S_3401 904 h = (some q_161) := by rw [eS_3402]; exact hv_3379
  have hv_3437 : hR S_3401 905 h = (some q_183) := by rw [eS_3402]; exact hv_3380
  have hv_3438 : hR S_3401 906 h = (some q_224) := by rw [eS_3402]; exact hv_3381
  have hv_3439 : hR S_3401 907 h = (some q_266) := by rw [eS_3402]; exact hv_3382
  have hv_3440 : hR S_3401 908 h = (some q_295) := by rw [eS_3402]; exact hv_3383
  have hv_3441 : hR S_3401 909 h = (some q_328) := by rw [eS_3402]; exact hv_3384
  have hv_3442 : hR S_3401 910 h = (some q_425) := by rw [eS_3402]; exact hv_3385
  have hv_3443 : hR S_3401 911 h = (some q_524) := by rw [eS_3402]; exact hv_3386
  have hv_3444 : hR S_3401 912 h = (some q_565) := by rw [eS_3402]; exact hv_3387
  have hv_3445 : hR S_3401 917 h = (some q_610) := by rw [eS_3402]; exact hv_3388
  have hf_3446 : Fm (fun _ _ => False) (fun f9 b9 => b9 = h) (fun _ => False) S S_3401 := by rw [eS_3402]; exact hf_3403
  have hN_3447 : NL S L_3395 S_3401 := by rw [eS_3402]; exact (NL.tR (S := S_3344) hN_3390)
  have hG_3448 : Gs h gs_3399 S_3401 := by rw [eS_3402]; exact (Gs.tR (S := S_3344) hG_3398)
  have hE_3449 : ELs S_3401 q_161 [q_661, q_784, q_914, q_1038, q_1162, q_1292, q_1416, q_1540, q_1670, q_1794, q_1918, q_2048, q_2172, q_2296, q_2426, q_2550] := by rw [eS_3402]; exact (ELs.tRx (S := S_3344) (fun e9 => absurd ((hk_3356).symm.trans ((congrArg (hK _) e9).trans hk_3370)) (by decide)) hE_3392)
  have hE_3450 : ELs S_3401 q_524 [q_2680, q_2857, q_3035] := by rw [eS_3402]; exact (ELs.tRx (S := S_3344) (fun e9 => absurd ((hk_3367).symm.trans ((congrArg (hK _) e9).trans hk_3370)) (by decide)) hE_3393)
  have hE_3451 : ELs S_3401 q_565 [q_3219, q_3338] := by rw [eS_3402]; exact (show ELs (tR S_3344 q_565 1 (some q_3338)) q_565 [q_3219, q_3338] from ELs.snoc hE_3394 rfl)
  refine j_iinc (q := 0) (v := 2) (lv' := [(2, .int 2), (0, .ref h), (1, .ref s0)]) C dX9_init_220 rfl (by decide) (by rw [hn9]; decide) rfl ?_
  refine j_goto (tgt := 198) C dX9_init_223 (by decide) ?_
  exact x9_t12 (q_1 := q_1) (q_5 := q_5) (q_6 := q_6) (q_41 := q_41) (q_47 := q_47) (q_48 := q_48) (q_49 := q_49) (q_50 := q_50) (q_51 := q_51) (q_52 := q_52) (q_53 := q_53) (q_54 := q_54) (q_126 := q_126) (q_132 := q_132) (q_161 := q_161) (q_183 := q_183) (q_188 := q_188) (q_224 := q_224) (q_230 := q_230) (q_266 := q_266) (q_295 := q_295) (q_328 := q_328) (q_333 := q_333) (q_334 := q_334) (q_335 := q_335) (q_336 := q_336) (q_337 := q_337) (q_338 := q_338) (q_339 := q_339) (q_340 := q_340) (q_425 := q_425) (q_431 := q_431) (q_432 := q_432) (q_433 := q_433) (q_434 := q_434) (q_435 := q_435) (q_436 := q_436) (q_437 := q_437) (q_438 := q_438) (q_524 := q_524) (q_565 := q_565) (q_610 := q_610) (q_661 := q_661) (q_666 := q_666) (q_784 := q_784) (q_789 := q_789) (q_914 := q_914) (q_919 := q_919) (q_1038 := q_1038) (q_1043 := q_1043) (q_1162 := q_1162) (q_1167 := q_1167) (q_1292 := q_1292) (q_1297 := q_1297) (q_1416 := q_1416) (q_1421 := q_1421) (q_1540 := q_1540) (q_1545 := q_1545) (q_1670 := q_1670) (q_1675 := q_1675) (q_1794 := q_1794) (q_1799 := q_1799) (q_1918 := q_1918) (q_1923 := q_1923) (q_2048 := q_2048) (q_2053 := q_2053) (q_2172 := q_2172) (q_2177 := q_2177) (q_2296 := q_2296) (q_2301 := q_2301) (q_2426 := q_2426) (q_2431 := q_2431) (q_2550 := q_2550) (q_2555 := q_2555) (q_2680 := q_2680) (q_2685 := q_2685) (q_2686 := q_2686) (q_2687 := q_2687) (q_2688 := q_2688) (q_2689 := q_2689) (q_2690 := q_2690) (q_2691 := q_2691) (q_2692 := q_2692) (q_2857 := q_2857) (q_2862 := q_2862) (q_2863 := q_2863) (q_2864 := q_2864) (q_2865 := q_2865) (q_2866 := q_2866) (q_2867 := q_2867) (q_2868 := q_2868) (q_2869 := q_2869) (q_3035 := q_3035) (q_3040 := q_3040) (q_3041 := q_3041) (q_3042 := q_3042) (q_3043 := q_3043) (q_3044 := q_3044) (q_3045 := q_3045) (q_3046 := q_3046) (q_3047 := q_3047) (q_3219 := q_3219) (q_3338 := q_3338) hn9 C M hm9 hm0_9 hz_164 hz_269 hz_297 hz_527 hz_567 hz_612 hm_3404 hk_3405 hm_3406 hk_3407 hn_3408 hz_3409 hm_3410 hk_3411 hn_3412 hz_3413 hm_3414 hk_3415 hn_3416 hz_3417 hm_3420 hk_3421 hn_3422 hz_3423 hm_3424 hk_3425 hn_3426 hz_3427 hm_3428 hk_3429 hn_3430 hz_3431 hv_3432 hv_3433 hv_3434 hv_3435 hv_3436 hv_3437 hv_3438 hv_3439 hv_3440 hv_3441 hv_3442 hv_3443 hv_3444 hv_3445 (by have h9 := hN_3447; rw [eL_3396, eL_3335] at h9; simpa only [List.nil_append, List.cons_append, List.append_assoc] using h9) (by have h9 := hG_3448; rw [eG_3400, eG_3337] at h9; simpa only [List.nil_append, List.cons_append, List.append_assoc] using h9) hE_3449 hE_3450 hE_3451 hf_3446

set_option maxRecDepth 100000 in
set_option maxHeartbeats 8000000 in
theorem x9_t10 {x : JX} {S S_3152 : Hp} {h s0 q_1 q_5 q_6 q_41 q_47 q_48 q_49 q_50 q_51 q_52 q_53 q_54 q_126 q_132 q_161 q_183 q_188 q_224 q_230 q_266 q_295 q_328 q_333 q_334 q_335 q_336 q_337 q_338 q_339 q_340 q_425 q_431 q_432 q_433 q_434 q_435 q_436 q_437 q_438 q_524 q_565 q_610 q_661 q_666 q_784 q_789 q_914 q_919 q_1038 q_1043 q_1162 q_1167 q_1292 q_1297 q_1416 q_1421 q_1540 q_1545 q_1670 q_1675 q_1794 q_1799 q_1918 q_1923 q_2048 q_2053 q_2172 q_2177 q_2296 q_2301 q_2426 q_2431 q_2550 q_2555 q_2680 q_2685 q_2686 q_2687 q_2688 q_2689 q_2690 q_2691 q_2692 q_2857 q_2862 q_2863 q_2864 q_2865 q_2866 q_2867 q_2868 q_2869 q_3035 q_3040 q_3041 q_3042 q_3043 q_3044 q_3045 q_3046 q_3047 : Nat} (hn9 : x_n x = 3) (C : CB x RX9 cX9_init) (M : CM x 4 113 68424 none S (fun r S' => r = none ∧ Fm (fun _ _ => False) (fun f9 b9 => b9 = h) (fun _ => False) S S' ∧ hR S' 900 h = some s0 ∧ ∃ l : List Nat, Wt s9K s9N s9P s9Q (fun i => (h :: l).getD i 0) S' ∧ l.length = 105 ∧ NL S l S' ∧ (∀ j, aI S' ((h :: l).getD 6 0) j = 0) ∧ (∀ j, aI S' ((h :: l).getD 9 0) j = 0) ∧ (∀ j, aI S' ((h :: l).getD 14 0) j = 0) ∧ (∀ j, aI S' ((h :: l).getD 19 0) j = 0))) (hm9 : (x_meth x).name = yX9_init.name) (hm0_9 : h ∈ hL S) (hz_164 : q_161 ∉ hL S) (hz_269 : q_266 ∉ hL S) (hz_297 : q_295 ∉ hL S) (hz_527 : q_524 ∉ hL S) (hz_567 : q_565 ∉ hL S) (hz_612 : q_610 ∉ hL S) (hm_3155 : h ∈ hL S_3152) (hk_3156 : Kd S_3152 h 9) (hm_3157 : q_161 ∈ hL S_3152) (hk_3158 : Kd S_3152 q_161 20) (hn_3159 : Ln S_3152 q_161 16) (hz_3160 : ∀ j, aI S_3152 q_161 j = 0) (hm_3161 : q_266 ∈ hL S_3152) (hk_3162 : Kd S_3152 q_266 13) (hn_3163 : Ln S_3152 q_266 24000) (hz_3164 : ∀ j, aI S_3152 q_266 j = 0) (hm_3165 : q_295 ∈ hL S_3152) (hk_3166 : Kd S_3152 q_295 14) (hn_3167 : Ln S_3152 q_295 16) (hz_3168 : ∀ j, aI S_3152 q_295 j = 0) (hm_3171 : q_524 ∈ hL S_3152) (hk_3172 : Kd S_3152 q_524 18) (hn_3173 : Ln S_3152 q_524 3) (hz_3174 : ∀ j, aI S_3152 q_524 j = 0) (hm_3175 : q_565 ∈ hL S_3152) (hk_3176 : Kd S_3152 q_565 19) (hn_3177 : Ln S_3152 q_565 4) (hz_3178 : ∀ j, aI S_3152 q_565 j = 0) (hm_3179 : q_610 ∈ hL S_3152) (hk_3180 : Kd S_3152 q_610 14) (hn_3181 : Ln S_3152 q_610 12) (hz_3182 : ∀ j, aI S_3152 q_610 j = 0) (hv_3188 : hR S_3152 900 h = (some s0)) (hv_3189 : hR S_3152 901 h = (some q_1)) (hv_3190 : hR S_3152 902 h = (some q_41)) (hv_3191 : hR S_3152 903 h = (some q_126)) (hv_3192 : hR S_3152 904 h = (some q_161)) (hv_3193 : hR S_3152 905 h = (some q_183)) (hv_3194 : hR S_3152 906 h = (some q_224)) (hv_3195 : hR S_3152 907 h = (some q_266)) (hv_3196 : hR S_3152 908 h = (some q_295)) (hv_3197 : hR S_3152 909 h = (some q_328)) (hv_3198 : hR S_3152 910 h = (some q_425)) (hv_3199 : hR S_3152 911 h = (some q_524)) (hv_3200 : hR S_3152 912 h = (some q_565)) (hv_3201 : hR S_3152 917 h = (some q_610)) (hN_3213 : NL S [q_1, q_5, q_6, q_41, q_47, q_48, q_49, q_50, q_51, q_52, q_53, q_54, q_126, q_132, q_161, q_183, q_188, q_224, q_230, q_266, q_295, q_328, q_333, q_334, q_335, q_336, q_337, q_338, q_339, q_340, q_425, q_431, q_432, q_433, q_434, q_435, q_436, q_437, q_438, q_524, q_565, q_610, q_661, q_666, q_784, q_789, q_914, q_919, q_1038, q_1043, q_1162, q_1167, q_1292, q_1297, q_1416, q_1421, q_1540, q_1545, q_1670, q_1675, q_1794, q_1799, q_1918, q_1923, q_2048, q_2053, q_2172, q_2177, q_2296, q_2301, q_2426, q_2431, q_2550, q_2555, q_2680, q_2685, q_2686, q_2687, q_2688, q_2689, q_2690, q_2691, q_2692, q_2857, q_2862, q_2863, q_2864, q_2865, q_2866, q_2867, q_2868, q_2869, q_3035, q_3040, q_3041, q_3042, q_3043, q_3044, q_3045, q_3046, q_3047] S_3152) (hG_3214 : Gs h [(3, [q_1, q_5, q_6]), (4, [q_41, q_47, q_48, q_49, q_50, q_51, q_52, q_53, q_54]), (0, [q_126, q_132]), (1, [q_183, q_188]), (0, [q_224, q_230]), (2, [q_328, q_333, q_334, q_335, q_336, q_337, q_338, q_339, q_340]), (2, [q_425, q_431, q_432, q_433, q_434, q_435, q_436, q_437, q_438]), (1, [q_661, q_666]), (1, [q_784, q_789]), (1, [q_914, q_919]), (1, [q_1038, q_1043]), (1, [q_1162, q_1167]), (1, [q_1292, q_1297]), (1, [q_1416, q_1421]), (1, [q_1540, q_1545]), (1, [q_1670, q_1675]), (1, [q_1794, q_1799]), (1, [q_1918, q_1923]), (1, [q_2048, q_2053]), (1, [q_2172, q_2177]), (1, [q_2296, q_2301]), (1, [q_2426, q_2431]), (1, [q_2550, q_2555]), (2, [q_2680, q_2685, q_2686, q_2687, q_2688, q_2689, q_2690, q_2691, q_2692]), (2, [q_2857, q_2862, q_2863, q_2864, q_2865, q_2866, q_2867, q_2868, q_2869]), (2, [q_3035, q_3040, q_3041, q_3042, q_3043, q_3044, q_3045, q_3046, q_3047])] S_3152) (hE_3205 : ELs S_3152 q_161 [q_661, q_784, q_914, q_1038, q_1162, q_1292, q_1416, q_1540, q_1670, q_1794, q_1918, q_2048, q_2172, q_2296, q_2426, q_2550]) (hE_3206 : ELs S_3152 q_524 [q_2680, q_2857, q_3035]) (hf_3202 : Fm (fun _ _ => False) (fun f9 b9 => b9 = h) (fun _ => False) S S_3152) : J x (0 + 1 + 4 + 1 + 8 + 1 + 1 + 1 + 1 + 1 + 1 + 1 + 1 + 1 + 1 + 8 + 1 + 8 + 1 + 1 + 1 + 1 + 1 + 1 + 1 + 1 + 1 + 1 + 1 + 1 + 1 + 1 + 1 + 1 + 1 + 1 + 1 + 1 + 1 + 1 + 1 + 1 + 1 + 1 + 1 + 1 + 1 + 1 + 1 + 1 + 1 + 1 + 1 + 1 + 8 + 1 + 8 + 1 + 8) (0 + 15 + 20045 + 10 + 23174 + 1 + 16 + 16 + 4 + 16 + 1 + 16 + 24000 + 16 + 21 + 117 + 21 + 117 + 3 + 4 + 12 + 4 + 16 + 4 + 16 + 4 + 16 + 4 + 16 + 4 + 16 + 4 + 16 + 4 + 16 + 4 + 16 + 4 + 16 + 4 + 16 + 4 + 16 + 4 + 16 + 4 + 16 + 4 + 16 + 4 + 16 + 4 + 16 + 21 + 117 + 21 + 117 + 21 + 117) S_3152 [(2, .int 0), (0, .ref h), (1, .ref s0)] 198 [] := by
  obtain ⟨L_3215, eL_3216⟩ : ∃ L9 : List Nat, L9 = [q_1, q_5, q_6, q_41, q_47, q_48, q_49, q_50, q_51, q_52, q_53, q_54, q_126, q_132, q_161, q_183, q_188, q_224, q_230, q_266, q_295, q_328, q_333, q_334, q_335, q_336, q_337, q_338, q_339, q_340, q_425, q_431, q_432, q_433, q_434, q_435, q_436, q_437, q_438, q_524, q_565, q_610, q_661, q_666, q_784, q_789, q_914, q_919, q_1038, q_1043, q_1162, q_1167, q_1292, q_1297, q_1416, q_1421, q_1540, q_1545, q_1670, q_1675, q_1794, q_1799, q_1918, q_1923, q_2048, q_2053, q_2172, q_2177, q_2296, q_2301, q_2426, q_2431, q_2550, q_2555, q_2680, q_2685, q_2686, q_2687, q_2688, q_2689, q_2690, q_2691, q_2692, q_2857, q_2862, q_2863, q_2864, q_2865, q_2866, q_2867, q_2868, q_2869, q_3035, q_3040, q_3041, q_3042, q_3043, q_3044, q_3045, q_3046, q_3047] := ⟨_, rfl⟩
  rw [← eL_3216] at hN_3213
  obtain ⟨gs_3217, eG_3218⟩ : ∃ G9 : List (Nat × List Nat), G9 = [(3, [q_1, q_5, q_6]), (4, [q_41, q_47, q_48, q_49, q_50, q_51, q_52, q_53, q_54]), (0, [q_126, q_132]), (1, [q_183, q_188]), (0, [q_224, q_230]), (2, [q_328, q_333, q_334, q_335, q_336, q_337, q_338, q_339, q_340]), (2, [q_425, q_431, q_432, q_433, q_434, q_435, q_436, q_437, q_438]), (1, [q_661, q_666]), (1, [q_784, q_789]), (1, [q_914, q_919]), (1, [q_1038, q_1043]), (1, [q_1162, q_1167]), (1, [q_1292, q_1297]), (1, [q_1416, q_1421]), (1, [q_1540, q_1545]), (1, [q_1670, q_1675]), (1, [q_1794, q_1799]), (1, [q_1918, q_1923]), (1, [q_2048, q_2053]), (1, [q_2172, q_2177]), (1, [q_2296, q_2301]), (1, [q_2426, q_2431]), (1, [q_2550, q_2555]), (2, [q_2680, q_2685, q_2686, q_2687, q_2688, q_2689, q_2690, q_2691, q_2692]), (2, [q_2857, q_2862, q_2863, q_2864, q_2865, q_2866, q_2867, q_2868, q_2869]), (2, [q_3035, q_3040, q_3041, q_3042, q_3043, q_3044, q_3045, q_3046, q_3047])] := ⟨_, rfl⟩
  rw [← eG_3218] at hG_3214
  refine j_iload_n C dX9_init_198 rfl 0 rfl ?_
  refine j_aload_n C dX9_init_199 rfl 1 rfl ?_
  refine j_getr (f := 912) (v := q_565) C flX9_70 dX9_init_200 hm_3155 hk_3156 (by decide) rfl hv_3200 ?_
  refine j_alen (v := 4) C dX9_init_203 hm_3175 hk_3176 (by decide) (by decide) (len_of (n := 4) hn_3177 (by decide)) ?_
  refine j_ic_ge (tgt := 226) C dX9_init_204 (by decide) (fun c9 => absurd c9 (by decide)) (fun c9 => ?_)
  refine j_aload_n C dX9_init_207 rfl 1 rfl ?_
  show J _ _ _ _ _ 208 _
  refine j_getr (f := 912) (v := q_565) C flX9_70 dX9_init_208 hm_3155 hk_3156 (by decide) rfl hv_3200 ?_
  refine j_iload_n C dX9_init_211 rfl 0 rfl ?_
  refine j_new (N := 13) C (ci := 5) rfl rfl klX9_68 knX5 kiX5 (M.cells (by decide)) (M.slots (by decide)) dX9_init_212 (fun q_3219 hq_3220 => ?_)
  have hz_3221 : q_3219 ∉ hL S := fun h9 => hq_3220 (hf_3202.mem h9)
  have gn_3222 : ∀ g9 ∈ gs_3217, ∀ p9 ∈ (gT g9.1).2.2, g9.2.getD p9.2.1 0 ≠ q_3219 := Gs.ne hG_3214 hq_3220
  refine j_dup C dX9_init_215 rfl ?_
  have hf_3223 : Fm (fun _ _ => False) (fun f9 b9 => b9 = h) (fun _ => False) S (nO S_3152 q_3219 5) := (hf_3202.nO _ hq_3220)
  refine j_callI C [] [.ref q_3219, .int 0, .ref q_565] mlX9_81 mcX5_init (c_X5_init (nO S_3152 q_3219 5) q_3219 mem_new (kd_nO' (k := 5))) (M.rm (by decide) (by decide) (Nat.le_of_ble_eq_true rfl) (Nat.le_of_ble_eq_true rfl)) rfl rfl (Nat.le_of_ble_eq_true rfl) dX9_init_216 (fun r_3224 S_3225 hp_3226 => ?_)
  obtain ⟨rfl, hf_3227⟩ := hp_3226
  refine J.eq (st' := [.ref q_3219, .int 0, .ref q_565]) rfl rfl rfl ?_
  have hz_3228 : ∀ j, aI S_3225 q_161 j = 0 := fun j9 => (hf_3227.ai (mem_old hm_3157) (fun h9 => h9) j9).trans (hz_3160 j9)
  have hz_3229 : ∀ j, aI S_3225 q_266 j = 0 := fun j9 => (hf_3227.ai (mem_old hm_3161) (fun h9 => h9) j9).trans (hz_3164 j9)
  have hz_3230 : ∀ j, aI S_3225 q_295 j = 0 := fun j9 => (hf_3227.ai (mem_old hm_3165) (fun h9 => h9) j9).trans (hz_3168 j9)
  have hz_3231 : ∀ j, aI S_3225 q_524 j = 0 := fun j9 => (hf_3227.ai (mem_old hm_3171) (fun h9 => h9) j9).trans (hz_3174 j9)
  have hz_3232 : ∀ j, aI S_3225 q_565 j = 0 := fun j9 => (hf_3227.ai (mem_old hm_3175) (fun h9 => h9) j9).trans (hz_3178 j9)
  have hz_3233 : ∀ j, aI S_3225 q_610 j = 0 := fun j9 => (hf_3227.ai (mem_old hm_3179) (fun h9 => h9) j9).trans (hz_3182 j9)
  have hm_3234 : h ∈ hL S_3225 := hf_3227.mem (mem_old hm_3155)
  have hk_3235 : Kd S_3225 h 9 := hf_3227.kd (mem_old hm_3155) (kd_nO (k := 5) hq_3220 hm_3155 hk_3156)
  have hm_3236 : q_161 ∈ hL S_3225 := hf_3227.mem (mem_old hm_3157)
  have hk_3237 : Kd S_3225 q_161 20 := hf_3227.kd (mem_old hm_3157) (kd_nO (k := 5) hq_3220 hm_3157 hk_3158)
  have hn_3238 : Ln S_3225 q_161 16 := hf_3227.ln (mem_old hm_3157) hn_3159
  have hm_3239 : q_266 ∈ hL S_3225 := hf_3227.mem (mem_old hm_3161)
  have hk_3240 : Kd S_3225 q_266 13 := hf_3227.kd (mem_old hm_3161) (kd_nO (k := 5) hq_3220 hm_3161 hk_3162)
  have hn_3241 : Ln S_3225 q_266 24000 := hf_3227.ln (mem_old hm_3161) hn_3163
  have hm_3242 : q_295 ∈ hL S_3225 := hf_3227.mem (mem_old hm_3165)
  have hk_3243 : Kd S_3225 q_295 14 := hf_3227.kd (mem_old hm_3165) (kd_nO (k := 5) hq_3220 hm_3165 hk_3166)
  have hn_3244 : Ln S_3225 q_295 16 := hf_3227.ln (mem_old hm_3165) hn_3167
  have hm_3245 : q_3219 ∈ hL S_3225 := hf_3227.mem mem_new
  have hk_3246 : Kd S_3225 q_3219 5 := hf_3227.kd mem_new (kd_nO' (k := 5))
  have hm_3247 : q_524 ∈ hL S_3225 := hf_3227.mem (mem_old hm_3171)
  have hk_3248 : Kd S_3225 q_524 18 := hf_3227.kd (mem_old hm_3171) (kd_nO (k := 5) hq_3220 hm_3171 hk_3172)
  have hn_3249 : Ln S_3225 q_524 3 := hf_3227.ln (mem_old hm_3171) hn_3173
  have hm_3250 : q_565 ∈ hL S_3225 := hf_3227.mem (mem_old hm_3175)
  have hk_3251 : Kd S_3225 q_565 19 := hf_3227.kd (mem_old hm_3175) (kd_nO (k := 5) hq_3220 hm_3175 hk_3176)
  have hn_3252 : Ln S_3225 q_565 4 := hf_3227.ln (mem_old hm_3175) hn_3177
  have hm_3253 : q_610 ∈ hL S_3225 := hf_3227.mem (mem_old hm_3179)
  have hk_3254 : Kd S_3225 q_610 14 := hf_3227.kd (mem_old hm_3179) (kd_nO (k := 5) hq_3220 hm_3179 hk_3180)
  have hn_3255 : Ln S_3225 q_610 12 := hf_3227.ln (mem_old hm_3179) hn_3181
  have hv_3256 : hR S_3225 900 h = (some s0) := hf_3227.fr (mem_old hm_3155) (fun q9 => (fun e9 => absurd (((kd_nO (k := 5) hq_3220 hm_3155 hk_3156)).symm.trans ((congrArg (hK _) e9).trans (kd_nO' (k := 5)))) (by decide)) q9) (rd_nOR (k := 5) hq_3220 hm_3155 hv_3188)
  have hv_3257 : hR S_3225 901 h = (some q_1) := hf_3227.fr (mem_old hm_3155) (fun q9 => (fun e9 => absurd (((kd_nO (k := 5) hq_3220 hm_3155 hk_3156)).symm.trans ((congrArg (hK _) e9).trans (kd_nO' (k := 5)))) (by decide)) q9) (rd_nOR (k := 5) hq_3220 hm_3155 hv_3189)
  have hv_3258 : hR S_3225 902 h = (some q_41) := hf_3227.fr (mem_old hm_3155) (fun q9 => (fun e9 => absurd (((kd_nO (k := 5) hq_3220 hm_3155 hk_3156)).symm.trans ((congrArg (hK _) e9).trans (kd_nO' (k := 5)))) (by decide)) q9) (rd_nOR (k := 5) hq_3220 hm_3155 hv_3190)
  have hv_3259 : hR S_3225 903 h = (some q_126) := hf_3227.fr (mem_old hm_3155) (fun q9 => (fun e9 => absurd (((kd_nO (k := 5) hq_3220 hm_3155 hk_3156)).symm.trans ((congrArg (hK _) e9).trans (kd_nO' (k := 5)))) (by decide)) q9) (rd_nOR (k := 5) hq_3220 hm_3155 hv_3191)
  have hv_3260 : hR S_3225 904 h = (some q_161) := hf_3227.fr (mem_old hm_3155) (fun q9 => (fun e9 => absurd (((kd_nO (k := 5) hq_3220 hm_3155 hk_3156)).symm.trans ((congrArg (hK _) e9).trans (kd_nO' (k := 5)))) (by decide)) q9) (rd_nOR (k := 5) hq_3220 hm_3155 hv_3192)
  have hv_3261 : hR S_3225 905 h = (some q_183) := hf_3227.fr (mem_old hm_3155) (fun q9 => (fun e9 => absurd (((kd_nO (k := 5) hq_3220 hm_3155 hk_3156)).symm.trans ((congrArg (hK _) e9).trans (kd_nO' (k := 5)))) (by decide)) q9) (rd_nOR (k := 5) hq_3220 hm_3155 hv_3193)
  have hv_3262 : hR S_3225 906 h = (some q_224) := hf_3227.fr (mem_old hm_3155) (fun q9 => (fun e9 => absurd (((kd_nO (k := 5) hq_3220 hm_3155 hk_3156)).symm.trans ((congrArg (hK _) e9).trans (kd_nO' (k := 5)))) (by decide)) q9) (rd_nOR (k := 5) hq_3220 hm_3155 hv_3194)
  have hv_3263 : hR S_3225 907 h = (some q_266) := hf_3227.fr (mem_old hm_3155) (fun q9 => (fun e9 => absurd (((kd_nO (k := 5) hq_3220 hm_3155 hk_3156)).symm.trans ((congrArg (hK _) e9).trans (kd_nO' (k := 5)))) (by decide)) q9) (rd_nOR (k := 5) hq_3220 hm_3155 hv_3195)
  have hv_3264 : hR S_3225 908 h = (some q_295) := hf_3227.fr (mem_old hm_3155) (fun q9 => (fun e9 => absurd (((kd_nO (k := 5) hq_3220 hm_3155 hk_3156)).symm.trans ((congrArg (hK _) e9).trans (kd_nO' (k := 5)))) (by decide)) q9) (rd_nOR (k := 5) hq_3220 hm_3155 hv_3196)
  have hv_3265 : hR S_3225 909 h = (some q_328) := hf_3227.fr (mem_old hm_3155) (fun q9 => (fun e9 => absurd (((kd_nO (k := 5) hq_3220 hm_3155 hk_3156)).symm.trans ((congrArg (hK _) e9).trans (kd_nO' (k := 5)))) (by decide)) q9) (rd_nOR (k := 5) hq_3220 hm_3155 hv_3197)
  have hv_3266 : hR S_3225 910 h = (some q_425) := hf_3227.fr (mem_old hm_3155) (fun q9 => (fun e9 => absurd (((kd_nO (k := 5) hq_3220 hm_3155 hk_3156)).symm.trans ((congrArg (hK _) e9).trans (kd_nO' (k := 5)))) (by decide)) q9) (rd_nOR (k := 5) hq_3220 hm_3155 hv_3198)
  have hv_3267 : hR S_3225 911 h = (some q_524) := hf_3227.fr (mem_old hm_3155) (fun q9 => (fun e9 => absurd (((kd_nO (k := 5) hq_3220 hm_3155 hk_3156)).symm.trans ((congrArg (hK _) e9).trans (kd_nO' (k := 5)))) (by decide)) q9) (rd_nOR (k := 5) hq_3220 hm_3155 hv_3199)
  have hv_3268 : hR S_3225 912 h = (some q_565) := hf_3227.fr (mem_old hm_3155) (fun q9 => (fun e9 => absurd (((kd_nO (k := 5) hq_3220 hm_3155 hk_3156)).symm.trans ((congrArg (hK _) e9).trans (kd_nO' (k := 5)))) (by decide)) q9) (rd_nOR (k := 5) hq_3220 hm_3155 hv_3200)
  have hv_3269 : hR S_3225 917 h = (some q_610) := hf_3227.fr (mem_old hm_3155) (fun q9 => (fun e9 => absurd (((kd_nO (k := 5) hq_3220 hm_3155 hk_3156)).symm.trans ((congrArg (hK _) e9).trans (kd_nO' (k := 5)))) (by decide)) q9) (rd_nOR (k := 5) hq_3220 hm_3155 hv_3201)
  have hf_3270 : Fm (fun _ _ => False) (fun f9 b9 => b9 = h) (fun _ => False) S S_3225 := hf_3223.then hf_3227 (fun a9 ha9 => ⟨(fun f9 h9 => h9.elim), (fun f9 h9 => (fun h8 => absurd (h8 ▸ ha9) hz_3221) h9), (fun h9 => h9.elim)⟩)
  have hN_3271 : NL S (L_3215 ++ [q_3219]) S_3225 := NL.mono (show NL S (L_3215 ++ [q_3219]) (nO S_3152 q_3219 5) from NL.nO hN_3213 hq_3220 hz_3221) (fun a9 h9 => hf_3227.mem h9)
  have hG_3272 : Gs h gs_3217 S_3225 := Gs.fm (show Gs h gs_3217 (nO S_3152 q_3219 5) from Gs.nO hG_3214 hq_3220) hf_3227 (fun g9 hg9 p9 hp9 => gn_3222 g9 hg9 p9 hp9)
  have hE_3273 : ELs S_3225 q_161 [q_661, q_784, q_914, q_1038, q_1162, q_1292, q_1416, q_1540, q_1670, q_1794, q_1918, q_2048, q_2172, q_2296, q_2426, q_2550] := ELs.fm (ELs.nO (S := S_3152) hE_3205) hf_3227 (mem_old hm_3157) (fun h9 => h9)
  have hE_3274 : ELs S_3225 q_524 [q_2680, q_2857, q_3035] := ELs.fm (ELs.nO (S := S_3152) hE_3206) hf_3227 (mem_old hm_3171) (fun h9 => h9)
  obtain ⟨L_3275, eL_3276⟩ : ∃ L9 : List Nat, L9 = (L_3215 ++ [q_3219]) := ⟨_, rfl⟩
  rw [← eL_3276] at hN_3271
  have hGt_3277 : Gt 5 [q_3219] S_3225 := ⟨fun i9 k9 h9 => (match i9, h9 with | 0, h9 => (by have e9 : (5 : Nat) = k9 := Option.some.inj h9; subst e9; exact ⟨hm_3245, hk_3246⟩) | i9 + 1, h9 => absurd h9 (by simp [gT])), (fun _ h9 => absurd h9 List.not_mem_nil), (fun _ h9 => absurd h9 List.not_mem_nil), (fun _ h9 => absurd h9 List.not_mem_nil)⟩
  have hG_3278 : Gs h (gs_3217 ++ [(5, [q_3219])]) S_3225 := Gs.snoc hG_3272 (by decide) hGt_3277 (fun _ h9 => absurd h9 List.not_mem_nil)
  obtain ⟨gs_3279, eG_3280⟩ : ∃ G9 : List (Nat × List Nat), G9 = gs_3217 ++ [(5, [q_3219])] := ⟨_, rfl⟩
  rw [← eG_3280] at hG_3278
  refine j_aast (j := 0) (ci := 5) C 19  (by decide) rfl dX9_init_219 hm_3250 hk_3251 (inr_of (n := 4) hn_3252 (vp_lit (by decide))) (by decide) hm_3245 hk_3246 rfl ?_
  have hf_3283 : Fm (fun _ _ => False) (fun f9 b9 => b9 = h) (fun _ => False) S (tR S_3225 q_565 0 (some q_3219)) := (hf_3270.tR _ _ (fun h9 => absurd h9 hz_567))
  obtain ⟨S_3281, eS_3282⟩ : ∃ S9 : Hp, S9 = (tR S_3225 q_565 0 (some q_3219)) := ⟨_, rfl⟩
  refine J.eq (S' := S_3281) eS_3282.symm rfl rfl ?_
  have hm_3284 : h ∈ hL S_3281 := by rw [eS_3282]; exact hm_3234
  have hk_3285 : Kd S_3281 h 9 := by rw [eS_3282]; exact hk_3235
  have hm_3286 : q_161 ∈ hL S_3281 := by rw [eS_3282]; exact hm_3236
  have hk_3287 : Kd S_3281 q_161 20 := by rw [eS_3282]; exact hk_3237
  have hn_3288 : Ln S_3281 q_161 16 := by rw [eS_3282]; exact hn_3238
  have hz_3289 : ∀ j, aI S_3281 q_161 j = 0 := by rw [eS_3282]; exact hz_3228
  have hm_3290 : q_266 ∈ hL S_3281 := by rw [eS_3282]; exact hm_3239
  have hk_3291 : Kd S_3281 q_266 13 := by rw [eS_3282]; exact hk_3240
  have hn_3292 : Ln S_3281 q_266 24000 := by rw [eS_3282]; exact hn_3241
  have hz_3293 : ∀ j, aI S_3281 q_266 j = 0 := by rw [eS_3282]; exact hz_3229
  have hm_3294 : q_295 ∈ hL S_3281 := by rw [eS_3282]; exact hm_3242
  have hk_3295 : Kd S_3281 q_295 14 := by rw [eS_3282]; exact hk_3243
  have hn_3296 : Ln S_3281 q_295 16 := by rw [eS_3282]; exact hn_3244
  have hz_3297 : ∀ j, aI S_3281 q_295 j = 0 := by rw [eS_3282]; exact hz_3230
  have hm_3298 : q_3219 ∈ hL S_3281 := by rw [eS_3282]; exact hm_3245
  have hk_3299 : Kd S_3281 q_3219 5 := by rw [eS_3282]; exact hk_3246
  have hm_3300 : q_524 ∈ hL S_3281 := by rw [eS_3282]; exact hm_3247
  have hk_3301 : Kd S_3281 q_524 18 := by rw [eS_3282]; exact hk_3248
  have hn_3302 : Ln S_3281 q_524 3 := by rw [eS_3282]; exact hn_3249
  have hz_3303 : ∀ j, aI S_3281 q_524 j = 0 := by rw [eS_3282]; exact hz_3231
  have hm_3304 : q_565 ∈ hL S_3281 := by rw [eS_3282]; exact hm_3250
  have hk_3305 : Kd S_3281 q_565 19 := by rw [eS_3282]; exact hk_3251
  have hn_3306 : Ln S_3281 q_565 4 := by rw [eS_3282]; exact hn_3252
  have hz_3307 : ∀ j, aI S_3281 q_565 j = 0 := by rw [eS_3282]; exact hz_3232
  have hm_3308 : q_610 ∈ hL S_3281 := by rw [eS_3282]; exact hm_3253
  have hk_3309 : Kd S_3281 q_610 14 := by rw [eS_3282]; exact hk_3254
  have hn_3310 : Ln S_3281 q_610 12 := by rw [eS_3282]; exact hn_3255
  have hz_3311 : ∀ j, aI S_3281 q_610 j = 0 := by rw [eS_3282]; exact hz_3233
  have hv_3312 : hR S_3281 900 h = (some s0) := by rw [eS_3282]; exact hv_3256
  have hv_3313 : hR S_3281 901 h = (some q_1) := by rw [eS_3282]; exact hv_3257
  have hv_3314 : hR S_3281 902 h = (some q_41) := by rw [eS_3282]; exact hv_3258
  have hv_3315 : hR S_3281 903 h = (some q_126) := by rw [eS_3282]; exact hv_3259
  have hv_3316 : hR S_3281 904 h = (some q_161) := by rw [eS_3282]; exact hv_3260
  have hv_3317 : hR S_3281 905 h = (some q_183) := by rw [eS_3282]; exact hv_3261
  have hv_3318 : hR S_3281 906 h = (some q_224) := by rw [eS_3282]; exact hv_3262
  have hv_3319 : hR S_3281 907 h = (some q_266) := by rw [eS_3282]; exact hv_3263
  have hv_3320 : hR S_3281 908 h = (some q_295) := by rw [eS_3282]; exact hv_3264
  have hv_3321 : hR S_3281 909 h = (some q_328) := by rw [eS_3282]; exact hv_3265
  have hv_3322 : hR S_3281 910 h = (some q_425) := by rw [eS_3282]; exact hv_3266
  have hv_3323 : hR S_3281 911 h = (some q_524) := by rw [eS_3282]; exact hv_3267
  have hv_3324 : hR S_3281 912 h = (some q_565) := by rw [eS_3282]; exact hv_3268
  have hv_3325 : hR S_3281 917 h = (some q_610) := by rw [eS_3282]; exact hv_3269
  have hf_3326 : Fm (fun _ _ => False) (fun f9 b9 => b9 = h) (fun _ => False) S S_3281 := by rw [eS_3282]; exact hf_3283
  have hN_3327 : NL S L_3275 S_3281 := by rw [eS_3282]; exact (NL.tR (S := S_3225) hN_3271)
  have hG_3328 : Gs h gs_3279 S_3281 := by rw [eS_3282]; exact (Gs.tR (S := S_3225) hG_3278)
  have hE_3329 : ELs S_3281 q_161 [q_661, q_784, q_914, q_1038, q_1162, q_1292, q_1416, q_1540, q_1670, q_1794, q_1918, q_2048, q_2172, q_2296, q_2426, q_2550] := by rw [eS_3282]; exact (ELs.tRx (S := S_3225) (fun e9 => absurd ((hk_3237).symm.trans ((congrArg (hK _) e9).trans hk_3251)) (by decide)) hE_3273)
  have hE_3330 : ELs S_3281 q_524 [q_2680, q_2857, q_3035] := by rw [eS_3282]; exact (ELs.tRx (S := S_3225) (fun e9 => absurd ((hk_3248).symm.trans ((congrArg (hK _) e9).trans hk_3251)) (by decide)) hE_3274)
  have hE_3331 : ELs S_3281 q_565 [q_3219] := by rw [eS_3282]; exact (show ELs (tR S_3225 q_565 0 (some q_3219)) q_565 [q_3219] from ELs.snoc (ELs.nil (S := S_3225) (a := q_565)) rfl)
  refine j_iinc (q := 0) (v := 1) (lv' := [(2, .int 1), (0, .ref h), (1, .ref s0)]) C dX9_init_220 rfl (by decide) (by rw [hn9]; decide) rfl ?_
  refine j_goto (tgt := 198) C dX9_init_223 (by decide) ?_
  show J _ _ _ _ _ 198 _
  exact x9_t11 (q_1 := q_1) (q_5 := q_5) (q_6 := q_6) (q_41 := q_41) (q_47 := q_47) (q_48 := q_48) (q_49 := q_49) (q_50 := q_50) (q_51 := q_51) (q_52 := q_52) (q_53 := q_53) (q_54 := q_54) (q_126 := q_126) (q_132 := q_132) (q_161 := q_161) (q_183 := q_183) (q_188 := q_188) (q_224 := q_224) (q_230 := q_230) (q_266 := q_266) (q_295 := q_295) (q_328 := q_328) (q_333 := q_333) (q_334 := q_334) (q_335 := q_335) (q_336 := q_336) (q_337 := q_337) (q_338 := q_338) (q_339 := q_339) (q_340 := q_340) (q_425 := q_425) (q_431 := q_431) (q_432 := q_432) (q_433 := q_433) (q_434 := q_434) (q_435 := q_435) (q_436 := q_436) (q_437 := q_437) (q_438 := q_438) (q_524 := q_524) (q_565 := q_565) (q_610 := q_610) (q_661 := q_661) (q_666 := q_666) (q_784 := q_784) (q_789 := q_789) (q_914 := q_914) (q_919 := q_919) (q_1038 := q_1038) (q_1043 := q_1043) (q_1162 := q_1162) (q_1167 := q_1167) (q_1292 := q_1292) (q_1297 := q_1297) (q_1416 := q_1416) (q_1421 := q_1421) (q_1540 := q_1540) (q_1545 := q_1545) (q_1670 := q_1670) (q_1675 := q_1675) (q_1794 := q_1794) (q_1799 := q_1799) (q_1918 := q_1918) (q_1923 := q_1923) (q_2048 := q_2048) (q_2053 := q_2053) (q_2172 := q_2172) (q_2177 := q_2177) (q_2296 := q_2296) (q_2301 := q_2301) (q_2426 := q_2426) (q_2431 := q_2431) (q_2550 := q_2550) (q_2555 := q_2555) (q_2680 := q_2680) (q_2685 := q_2685) (q_2686 := q_2686) (q_2687 := q_2687) (q_2688 := q_2688) (q_2689 := q_2689) (q_2690 := q_2690) (q_2691 := q_2691) (q_2692 := q_2692) (q_2857 := q_2857) (q_2862 := q_2862) (q_2863 := q_2863) (q_2864 := q_2864) (q_2865 := q_2865) (q_2866 := q_2866) (q_2867 := q_2867) (q_2868 := q_2868) (q_2869 := q_2869) (q_3035 := q_3035) (q_3040 := q_3040) (q_3041 := q_3041) (q_3042 := q_3042) (q_3043 := q_3043) (q_3044 := q_3044) (q_3045 := q_3045) (q_3046 := q_3046) (q_3047 := q_3047) (q_3219 := q_3219) hn9 C M hm9 hm0_9 hz_164 hz_269 hz_297 hz_527 hz_567 hz_612 hm_3284 hk_3285 hm_3286 hk_3287 hn_3288 hz_3289 hm_3290 hk_3291 hn_3292 hz_3293 hm_3294 hk_3295 hn_3296 hz_3297 hm_3300 hk_3301 hn_3302 hz_3303 hm_3304 hk_3305 hn_3306 hz_3307 hm_3308 hk_3309 hn_3310 hz_3311 hv_3312 hv_3313 hv_3314 hv_3315 hv_3316 hv_3317 hv_3318 hv_3319 hv_3320 hv_3321 hv_3322 hv_3323 hv_3324 hv_3325 (by have h9 := hN_3327; rw [eL_3276, eL_3216] at h9; simpa only [List.nil_append, List.cons_append, List.append_assoc] using h9) (by have h9 := hG_3328; rw [eG_3280, eG_3218] at h9; simpa only [List.nil_append, List.cons_append, List.append_assoc] using h9) hE_3329 hE_3330 hE_3331 hf_3326

set_option maxRecDepth 100000 in
set_option maxHeartbeats 8000000 in
theorem x9_t9 {x : JX} {S S_3152 : Hp} {h s0 q_1 q_5 q_6 q_41 q_47 q_48 q_49 q_50 q_51 q_52 q_53 q_54 q_126 q_132 q_161 q_183 q_188 q_224 q_230 q_266 q_295 q_328 q_333 q_334 q_335 q_336 q_337 q_338 q_339 q_340 q_425 q_431 q_432 q_433 q_434 q_435 q_436 q_437 q_438 q_524 q_565 q_610 q_661 q_666 q_784 q_789 q_914 q_919 q_1038 q_1043 q_1162 q_1167 q_1292 q_1297 q_1416 q_1421 q_1540 q_1545 q_1670 q_1675 q_1794 q_1799 q_1918 q_1923 q_2048 q_2053 q_2172 q_2177 q_2296 q_2301 q_2426 q_2431 q_2550 q_2555 q_2680 q_2685 q_2686 q_2687 q_2688 q_2689 q_2690 q_2691 q_2692 q_2857 q_2862 q_2863 q_2864 q_2865 q_2866 q_2867 q_2868 q_2869 q_3035 q_3040 q_3041 q_3042 q_3043 q_3044 q_3045 q_3046 q_3047 : Nat} (hn9 : x_n x = 3) (C : CB x RX9 cX9_init) (M : CM x 4 113 68424 none S (fun r S' => r = none ∧ Fm (fun _ _ => False) (fun f9 b9 => b9 = h) (fun _ => False) S S' ∧ hR S' 900 h = some s0 ∧ ∃ l : List Nat, Wt s9K s9N s9P s9Q (fun i => (h :: l).getD i 0) S' ∧ l.length = 105 ∧ NL S l S' ∧ (∀ j, aI S' ((h :: l).getD 6 0) j = 0) ∧ (∀ j, aI S' ((h :: l).getD 9 0) j = 0) ∧ (∀ j, aI S' ((h :: l).getD 14 0) j = 0) ∧ (∀ j, aI S' ((h :: l).getD 19 0) j = 0))) (hm9 : (x_meth x).name = yX9_init.name) (hm0_9 : h ∈ hL S) (hz_164 : q_161 ∉ hL S) (hz_269 : q_266 ∉ hL S) (hz_297 : q_295 ∉ hL S) (hz_527 : q_524 ∉ hL S) (hz_567 : q_565 ∉ hL S) (hz_612 : q_610 ∉ hL S) (hm_3155 : h ∈ hL S_3152) (hk_3156 : Kd S_3152 h 9) (hm_3157 : q_161 ∈ hL S_3152) (hk_3158 : Kd S_3152 q_161 20) (hn_3159 : Ln S_3152 q_161 16) (hz_3160 : ∀ j, aI S_3152 q_161 j = 0) (hm_3161 : q_266 ∈ hL S_3152) (hk_3162 : Kd S_3152 q_266 13) (hn_3163 : Ln S_3152 q_266 24000) (hz_3164 : ∀ j, aI S_3152 q_266 j = 0) (hm_3165 : q_295 ∈ hL S_3152) (hk_3166 : Kd S_3152 q_295 14) (hn_3167 : Ln S_3152 q_295 16) (hz_3168 : ∀ j, aI S_3152 q_295 j = 0) (hm_3171 : q_524 ∈ hL S_3152) (hk_3172 : Kd S_3152 q_524 18) (hn_3173 : Ln S_3152 q_524 3) (hz_3174 : ∀ j, aI S_3152 q_524 j = 0) (hm_3175 : q_565 ∈ hL S_3152) (hk_3176 : Kd S_3152 q_565 19) (hn_3177 : Ln S_3152 q_565 4) (hz_3178 : ∀ j, aI S_3152 q_565 j = 0) (hm_3179 : q_610 ∈ hL S_3152) (hk_3180 : Kd S_3152 q_610 14) (hn_3181 : Ln S_3152 q_610 12) (hz_3182 : ∀ j, aI S_3152 q_610 j = 0) (hv_3188 : hR S_3152 900 h = (some s0)) (hv_3189 : hR S_3152 901 h = (some q_1)) (hv_3190 : hR S_3152 902 h = (some q_41)) (hv_3191 : hR S_3152 903 h = (some q_126)) (hv_3192 : hR S_3152 904 h = (some q_161)) (hv_3193 : hR S_3152 905 h = (some q_183)) (hv_3194 : hR S_3152 906 h = (some q_224)) (hv_3195 : hR S_3152 907 h = (some q_266)) (hv_3196 : hR S_3152 908 h = (some q_295)) (hv_3197 : hR S_3152 909 h = (some q_328)) (hv_3198 : hR S_3152 910 h = (some q_425)) (hv_3199 : hR S_3152 911 h = (some q_524)) (hv_3200 : hR S_3152 912 h = (some q_565)) (hv_3201 : hR S_3152 917 h = (some q_610)) (hN_3207 : NL S [q_1, q_5, q_6, q_41, q_47, q_48, q_49, q_50, q_51, q_52, q_53, q_54, q_126, q_132, q_161, q_183, q_188, q_224, q_230, q_266, q_295, q_328, q_333, q_334, q_335, q_336, q_337, q_338, q_339, q_340, q_425, q_431, q_432, q_433, q_434, q_435, q_436, q_437, q_438, q_524, q_565, q_610, q_661, q_666, q_784, q_789, q_914, q_919, q_1038, q_1043, q_1162, q_1167, q_1292, q_1297, q_1416, q_1421, q_1540, q_1545, q_1670, q_1675, q_1794, q_1799, q_1918, q_1923, q_2048, q_2053, q_2172, q_2177, q_2296, q_2301, q_2426, q_2431, q_2550, q_2555, q_2680, q_2685, q_2686, q_2687, q_2688, q_2689, q_2690, q_2691, q_2692, q_2857, q_2862, q_2863, q_2864, q_2865, q_2866, q_2867, q_2868, q_2869, q_3035, q_3040, q_3041, q_3042, q_3043, q_3044, q_3045, q_3046, q_3047] S_3152) (hG_3208 : Gs h [(3, [q_1, q_5, q_6]), (4, [q_41, q_47, q_48, q_49, q_50, q_51, q_52, q_53, q_54]), (0, [q_126, q_132]), (1, [q_183, q_188]), (0, [q_224, q_230]), (2, [q_328, q_333, q_334, q_335, q_336, q_337, q_338, q_339, q_340]), (2, [q_425, q_431, q_432, q_433, q_434, q_435, q_436, q_437, q_438]), (1, [q_661, q_666]), (1, [q_784, q_789]), (1, [q_914, q_919]), (1, [q_1038, q_1043]), (1, [q_1162, q_1167]), (1, [q_1292, q_1297]), (1, [q_1416, q_1421]), (1, [q_1540, q_1545]), (1, [q_1670, q_1675]), (1, [q_1794, q_1799]), (1, [q_1918, q_1923]), (1, [q_2048, q_2053]), (1, [q_2172, q_2177]), (1, [q_2296, q_2301]), (1, [q_2426, q_2431]), (1, [q_2550, q_2555]), (2, [q_2680, q_2685, q_2686, q_2687, q_2688, q_2689, q_2690, q_2691, q_2692]), (2, [q_2857, q_2862, q_2863, q_2864, q_2865, q_2866, q_2867, q_2868, q_2869]), (2, [q_3035, q_3040, q_3041, q_3042, q_3043, q_3044, q_3045, q_3046, q_3047])] S_3152) (hE_3205 : ELs S_3152 q_161 [q_661, q_784, q_914, q_1038, q_1162, q_1292, q_1416, q_1540, q_1670, q_1794, q_1918, q_2048, q_2172, q_2296, q_2426, q_2550]) (hE_3206 : ELs S_3152 q_524 [q_2680, q_2857, q_3035]) (hf_3202 : Fm (fun _ _ => False) (fun f9 b9 => b9 = h) (fun _ => False) S S_3152) : J x (0 + 1 + 4 + 1 + 8 + 1 + 1 + 1 + 1 + 1 + 1 + 1 + 1 + 1 + 1 + 8 + 1 + 8 + 1 + 1 + 1 + 1 + 1 + 1 + 1 + 1 + 1 + 1 + 1 + 1 + 1 + 1 + 1 + 1 + 1 + 1 + 1 + 1 + 1 + 1 + 1 + 1 + 1 + 1 + 1 + 1 + 1 + 1 + 1 + 1 + 1 + 1 + 1 + 1 + 8 + 1 + 8 + 1 + 8) (0 + 15 + 20045 + 10 + 23174 + 1 + 16 + 16 + 4 + 16 + 1 + 16 + 24000 + 16 + 21 + 117 + 21 + 117 + 3 + 4 + 12 + 4 + 16 + 4 + 16 + 4 + 16 + 4 + 16 + 4 + 16 + 4 + 16 + 4 + 16 + 4 + 16 + 4 + 16 + 4 + 16 + 4 + 16 + 4 + 16 + 4 + 16 + 4 + 16 + 4 + 16 + 4 + 16 + 21 + 117 + 21 + 117 + 21 + 117) S_3152 [(2, .int 3), (0, .ref h), (1, .ref s0)] 168 [] := by
  obtain ⟨L_3209, eL_3210⟩ : ∃ L9 : List Nat, L9 = [q_1, q_5, q_6, q_41, q_47, q_48, q_49, q_50, q_51, q_52, q_53, q_54, q_126, q_132, q_161, q_183, q_188, q_224, q_230, q_266, q_295, q_328, q_333, q_334, q_335, q_336, q_337, q_338, q_339, q_340, q_425, q_431, q_432, q_433, q_434, q_435, q_436, q_437, q_438, q_524, q_565, q_610, q_661, q_666, q_784, q_789, q_914, q_919, q_1038, q_1043, q_1162, q_1167, q_1292, q_1297, q_1416, q_1421, q_1540, q_1545, q_1670, q_1675, q_1794, q_1799, q_1918, q_1923, q_2048, q_2053, q_2172, q_2177, q_2296, q_2301, q_2426, q_2431, q_2550, q_2555, q_2680, q_2685, q_2686, q_2687, q_2688, q_2689, q_2690, q_2691, q_2692, q_2857, q_2862, q_2863, q_2864, q_2865, q_2866, q_2867, q_2868, q_2869, q_3035, q_3040, q_3041, q_3042, q_3043, q_3044, q_3045, q_3046, q_3047] := ⟨_, rfl⟩
  rw [← eL_3210] at hN_3207
  obtain ⟨gs_3211, eG_3212⟩ : ∃ G9 : List (Nat × List Nat), G9 = [(3, [q_1, q_5, q_6]), (4, [q_41, q_47, q_48, q_49, q_50, q_51, q_52, q_53, q_54]), (0, [q_126, q_132]), (1, [q_183, q_188]), (0, [q_224, q_230]), (2, [q_328, q_333, q_334, q_335, q_336, q_337, q_338, q_339, q_340]), (2, [q_425, q_431, q_432, q_433, q_434, q_435, q_436, q_437, q_438]), (1, [q_661, q_666]), (1, [q_784, q_789]), (1, [q_914, q_919]), (1, [q_1038, q_1043]), (1, [q_1162, q_1167]), (1, [q_1292, q_1297]), (1, [q_1416, q_1421]), (1, [q_1540, q_1545]), (1, [q_1670, q_1675]), (1, [q_1794, q_1799]), (1, [q_1918, q_1923]), (1, [q_2048, q_2053]), (1, [q_2172, q_2177]), (1, [q_2296, q_2301]), (1, [q_2426, q_2431]), (1, [q_2550, q_2555]), (2, [q_2680, q_2685, q_2686, q_2687, q_2688, q_2689, q_2690, q_2691, q_2692]), (2, [q_2857, q_2862, q_2863, q_2864, q_2865, q_2866, q_2867, q_2868, q_2869]), (2, [q_3035, q_3040, q_3041, q_3042, q_3043, q_3044, q_3045, q_3046, q_3047])] := ⟨_, rfl⟩
  rw [← eG_3212] at hG_3208
  refine j_iload_n C dX9_init_168 rfl 0 rfl ?_
  refine j_aload_n C dX9_init_169 rfl 1 rfl ?_
  refine j_getr (f := 911) (v := q_524) C flX9_64 dX9_init_170 hm_3155 hk_3156 (by decide) rfl hv_3199 ?_
  refine j_alen (v := 3) C dX9_init_173 hm_3171 hk_3172 (by decide) (by decide) (len_of (n := 3) hn_3173 (by decide)) ?_
  refine j_ic_ge (tgt := 196) C dX9_init_174 (by decide) (fun c9 => ?_) (fun c9 => absurd (by decide) c9)
  show J _ _ _ _ _ 196 _
  refine j_iconst (v := 0) C dX9_init_196 (by decide) ?_
  refine j_istore_n (lv' := [(2, .int 0), (0, .ref h), (1, .ref s0)]) C dX9_init_197 rfl (by rw [hn9]; decide) rfl ?_
  exact x9_t10 (q_1 := q_1) (q_5 := q_5) (q_6 := q_6) (q_41 := q_41) (q_47 := q_47) (q_48 := q_48) (q_49 := q_49) (q_50 := q_50) (q_51 := q_51) (q_52 := q_52) (q_53 := q_53) (q_54 := q_54) (q_126 := q_126) (q_132 := q_132) (q_161 := q_161) (q_183 := q_183) (q_188 := q_188) (q_224 := q_224) (q_230 := q_230) (q_266 := q_266) (q_295 := q_295) (q_328 := q_328) (q_333 := q_333) (q_334 := q_334) (q_335 := q_335) (q_336 := q_336) (q_337 := q_337) (q_338 := q_338) (q_339 := q_339) (q_340 := q_340) (q_425 := q_425) (q_431 := q_431) (q_432 := q_432) (q_433 := q_433) (q_434 := q_434) (q_435 := q_435) (q_436 := q_436) (q_437 := q_437) (q_438 := q_438) (q_524 := q_524) (q_565 := q_565) (q_610 := q_610) (q_661 := q_661) (q_666 := q_666) (q_784 := q_784) (q_789 := q_789) (q_914 := q_914) (q_919 := q_919) (q_1038 := q_1038) (q_1043 := q_1043) (q_1162 := q_1162) (q_1167 := q_1167) (q_1292 := q_1292) (q_1297 := q_1297) (q_1416 := q_1416) (q_1421 := q_1421) (q_1540 := q_1540) (q_1545 := q_1545) (q_1670 := q_1670) (q_1675 := q_1675) (q_1794 := q_1794) (q_1799 := q_1799) (q_1918 := q_1918) (q_1923 := q_1923) (q_2048 := q_2048) (q_2053 := q_2053) (q_2172 := q_2172) (q_2177 := q_2177) (q_2296 := q_2296) (q_2301 := q_2301) (q_2426 := q_2426) (q_2431 := q_2431) (q_2550 := q_2550) (q_2555 := q_2555) (q_2680 := q_2680) (q_2685 := q_2685) (q_2686 := q_2686) (q_2687 := q_2687) (q_2688 := q_2688) (q_2689 := q_2689) (q_2690 := q_2690) (q_2691 := q_2691) (q_2692 := q_2692) (q_2857 := q_2857) (q_2862 := q_2862) (q_2863 := q_2863) (q_2864 := q_2864) (q_2865 := q_2865) (q_2866 := q_2866) (q_2867 := q_2867) (q_2868 := q_2868) (q_2869 := q_2869) (q_3035 := q_3035) (q_3040 := q_3040) (q_3041 := q_3041) (q_3042 := q_3042) (q_3043 := q_3043) (q_3044 := q_3044) (q_3045 := q_3045) (q_3046 := q_3046) (q_3047 := q_3047) hn9 C M hm9 hm0_9 hz_164 hz_269 hz_297 hz_527 hz_567 hz_612 hm_3155 hk_3156 hm_3157 hk_3158 hn_3159 hz_3160 hm_3161 hk_3162 hn_3163 hz_3164 hm_3165 hk_3166 hn_3167 hz_3168 hm_3171 hk_3172 hn_3173 hz_3174 hm_3175 hk_3176 hn_3177 hz_3178 hm_3179 hk_3180 hn_3181 hz_3182 hv_3188 hv_3189 hv_3190 hv_3191 hv_3192 hv_3193 hv_3194 hv_3195 hv_3196 hv_3197 hv_3198 hv_3199 hv_3200 hv_3201 (by have h9 := hN_3207; rw [eL_3210] at h9; simpa only [List.nil_append, List.cons_append, List.append_assoc] using h9) (by have h9 := hG_3208; rw [eG_3212] at h9; simpa only [List.nil_append, List.cons_append, List.append_assoc] using h9) hE_3205 hE_3206 hf_3202

set_option maxRecDepth 100000 in
set_option maxHeartbeats 8000000 in
theorem x9_t8 {x : JX} {S S_2974 : Hp} {h s0 q_1 q_5 q_6 q_41 q_47 q_48 q_49 q_50 q_51 q_52 q_53 q_54 q_126 q_132 q_161 q_183 q_188 q_224 q_230 q_266 q_295 q_328 q_333 q_334 q_335 q_336 q_337 q_338 q_339 q_340 q_425 q_431 q_432 q_433 q_434 q_435 q_436 q_437 q_438 q_524 q_565 q_610 q_661 q_666 q_784 q_789 q_914 q_919 q_1038 q_1043 q_1162 q_1167 q_1292 q_1297 q_1416 q_1421 q_1540 q_1545 q_1670 q_1675 q_1794 q_1799 q_1918 q_1923 q_2048 q_2053 q_2172 q_2177 q_2296 q_2301 q_2426 q_2431 q_2550 q_2555 q_2680 q_2685 q_2686 q_2687 q_2688 q_2689 q_2690 q_2691 q_2692 q_2857 q_2862 q_2863 q_2864 q_2865 q_2866 q_2867 q_2868 q_2869 : Nat} (hn9 : x_n x = 3) (C : CB x RX9 cX9_init) (M : CM x 4 113 68424 none S (fun r S' => r = none ∧ Fm (fun _ _ => False) (fun f9 b9 => b9 = h) (fun _ => False) S S' ∧ hR S' 900 h = some s0 ∧ ∃ l : List Nat, Wt s9K s9N s9P s9Q (fun i => (h :: l).getD i 0) S' ∧ l.length = 105 ∧ NL S l S' ∧ (∀ j, aI S' ((h :: l).getD 6 0) j = 0) ∧ (∀ j, aI S' ((h :: l).getD 9 0) j = 0) ∧ (∀ j, aI S' ((h :: l).getD 14 0) j = 0) ∧ (∀ j, aI S' ((h :: l).getD 19 0) j = 0))) (hm9 : (x_meth x).name = yX9_init.name) (hm0_9 : h ∈ hL S) (hz_164 : q_161 ∉ hL S) (hz_269 : q_266 ∉ hL S) (hz_297 : q_295 ∉ hL S) (hz_527 : q_524 ∉ hL S) (hz_567 : q_565 ∉ hL S) (hz_612 : q_610 ∉ hL S) (hm_2977 : h ∈ hL S_2974) (hk_2978 : Kd S_2974 h 9) (hm_2979 : q_161 ∈ hL S_2974) (hk_2980 : Kd S_2974 q_161 20) (hn_2981 : Ln S_2974 q_161 16) (hz_2982 : ∀ j, aI S_2974 q_161 j = 0) (hm_2983 : q_266 ∈ hL S_2974) (hk_2984 : Kd S_2974 q_266 13) (hn_2985 : Ln S_2974 q_266 24000) (hz_2986 : ∀ j, aI S_2974 q_266 j = 0) (hm_2989 : q_295 ∈ hL S_2974) (hk_2990 : Kd S_2974 q_295 14) (hn_2991 : Ln S_2974 q_295 16) (hz_2992 : ∀ j, aI S_2974 q_295 j = 0) (hm_2993 : q_524 ∈ hL S_2974) (hk_2994 : Kd S_2974 q_524 18) (hn_2995 : Ln S_2974 q_524 3) (hz_2996 : ∀ j, aI S_2974 q_524 j = 0) (hm_2997 : q_565 ∈ hL S_2974) (hk_2998 : Kd S_2974 q_565 19) (hn_2999 : Ln S_2974 q_565 4) (hz_3000 : ∀ j, aI S_2974 q_565 j = 0) (hm_3001 : q_610 ∈ hL S_2974) (hk_3002 : Kd S_2974 q_610 14) (hn_3003 : Ln S_2974 q_610 12) (hz_3004 : ∀ j, aI S_2974 q_610 j = 0) (hv_3010 : hR S_2974 900 h = (some s0)) (hv_3011 : hR S_2974 901 h = (some q_1)) (hv_3012 : hR S_2974 902 h = (some q_41)) (hv_3013 : hR S_2974 903 h = (some q_126)) (hv_3014 : hR S_2974 904 h = (some q_161)) (hv_3015 : hR S_2974 905 h = (some q_183)) (hv_3016 : hR S_2974 906 h = (some q_224)) (hv_3017 : hR S_2974 907 h = (some q_266)) (hv_3018 : hR S_2974 908 h = (some q_295)) (hv_3019 : hR S_2974 909 h = (some q_328)) (hv_3020 : hR S_2974 910 h = (some q_425)) (hv_3021 : hR S_2974 911 h = (some q_524)) (hv_3022 : hR S_2974 912 h = (some q_565)) (hv_3023 : hR S_2974 917 h = (some q_610)) (hN_3029 : NL S [q_1, q_5, q_6, q_41, q_47, q_48, q_49, q_50, q_51, q_52, q_53, q_54, q_126, q_132, q_161, q_183, q_188, q_224, q_230, q_266, q_295, q_328, q_333, q_334, q_335, q_336, q_337, q_338, q_339, q_340, q_425, q_431, q_432, q_433, q_434, q_435, q_436, q_437, q_438, q_524, q_565, q_610, q_661, q_666, q_784, q_789, q_914, q_919, q_1038, q_1043, q_1162, q_1167, q_1292, q_1297, q_1416, q_1421, q_1540, q_1545, q_1670, q_1675, q_1794, q_1799, q_1918, q_1923, q_2048, q_2053, q_2172, q_2177, q_2296, q_2301, q_2426, q_2431, q_2550, q_2555, q_2680, q_2685, q_2686, q_2687, q_2688, q_2689, q_2690, q_2691, q_2692, q_2857, q_2862, q_2863, q_2864, q_2865, q_2866, q_2867, q_2868, q_2869] S_2974) (hG_3030 : Gs h [(3, [q_1, q_5, q_6]), (4, [q_41, q_47, q_48, q_49, q_50, q_51, q_52, q_53, q_54]), (0, [q_126, q_132]), (1, [q_183, q_188]), (0, [q_224, q_230]), (2, [q_328, q_333, q_334, q_335, q_336, q_337, q_338, q_339, q_340]), (2, [q_425, q_431, q_432, q_433, q_434, q_435, q_436, q_437, q_438]), (1, [q_661, q_666]), (1, [q_784, q_789]), (1, [q_914, q_919]), (1, [q_1038, q_1043]), (1, [q_1162, q_1167]), (1, [q_1292, q_1297]), (1, [q_1416, q_1421]), (1, [q_1540, q_1545]), (1, [q_1670, q_1675]), (1, [q_1794, q_1799]), (1, [q_1918, q_1923]), (1, [q_2048, q_2053]), (1, [q_2172, q_2177]), (1, [q_2296, q_2301]), (1, [q_2426, q_2431]), (1, [q_2550, q_2555]), (2, [q_2680, q_2685, q_2686, q_2687, q_2688, q_2689, q_2690, q_2691, q_2692]), (2, [q_2857, q_2862, q_2863, q_2864, q_2865, q_2866, q_2867, q_2868, q_2869])] S_2974) (hE_3027 : ELs S_2974 q_161 [q_661, q_784, q_914, q_1038, q_1162, q_1292, q_1416, q_1540, q_1670, q_1794, q_1918, q_2048, q_2172, q_2296, q_2426, q_2550]) (hE_3028 : ELs S_2974 q_524 [q_2680, q_2857]) (hf_3024 : Fm (fun _ _ => False) (fun f9 b9 => b9 = h) (fun _ => False) S S_2974) : J x (0 + 1 + 4 + 1 + 8 + 1 + 1 + 1 + 1 + 1 + 1 + 1 + 1 + 1 + 1 + 8 + 1 + 8 + 1 + 1 + 1 + 1 + 1 + 1 + 1 + 1 + 1 + 1 + 1 + 1 + 1 + 1 + 1 + 1 + 1 + 1 + 1 + 1 + 1 + 1 + 1 + 1 + 1 + 1 + 1 + 1 + 1 + 1 + 1 + 1 + 1 + 1 + 1 + 1 + 8 + 1 + 8) (0 + 15 + 20045 + 10 + 23174 + 1 + 16 + 16 + 4 + 16 + 1 + 16 + 24000 + 16 + 21 + 117 + 21 + 117 + 3 + 4 + 12 + 4 + 16 + 4 + 16 + 4 + 16 + 4 + 16 + 4 + 16 + 4 + 16 + 4 + 16 + 4 + 16 + 4 + 16 + 4 + 16 + 4 + 16 + 4 + 16 + 4 + 16 + 4 + 16 + 4 + 16 + 4 + 16 + 21 + 117 + 21 + 117) S_2974 [(2, .int 2), (0, .ref h), (1, .ref s0)] 168 [] := by
  obtain ⟨L_3031, eL_3032⟩ : ∃ L9 : List Nat, L9 = [q_1, q_5, q_6, q_41, q_47, q_48, q_49, q_50, q_51, q_52, q_53, q_54, q_126, q_132, q_161, q_183, q_188, q_224, q_230, q_266, q_295, q_328, q_333, q_334, q_335, q_336, q_337, q_338, q_339, q_340, q_425, q_431, q_432, q_433, q_434, q_435, q_436, q_437, q_438, q_524, q_565, q_610, q_661, q_666, q_784, q_789, q_914, q_919, q_1038, q_1043, q_1162, q_1167, q_1292, q_1297, q_1416, q_1421, q_1540, q_1545, q_1670, q_1675, q_1794, q_1799, q_1918, q_1923, q_2048, q_2053, q_2172, q_2177, q_2296, q_2301, q_2426, q_2431, q_2550, q_2555, q_2680, q_2685, q_2686, q_2687, q_2688, q_2689, q_2690, q_2691, q_2692, q_2857, q_2862, q_2863, q_2864, q_2865, q_2866, q_2867, q_2868, q_2869] := ⟨_, rfl⟩
  rw [← eL_3032] at hN_3029
  obtain ⟨gs_3033, eG_3034⟩ : ∃ G9 : List (Nat × List Nat), G9 = [(3, [q_1, q_5, q_6]), (4, [q_41, q_47, q_48, q_49, q_50, q_51, q_52, q_53, q_54]), (0, [q_126, q_132]), (1, [q_183, q_188]), (0, [q_224, q_230]), (2, [q_328, q_333, q_334, q_335, q_336, q_337, q_338, q_339, q_340]), (2, [q_425, q_431, q_432, q_433, q_434, q_435, q_436, q_437, q_438]), (1, [q_661, q_666]), (1, [q_784, q_789]), (1, [q_914, q_919]), (1, [q_1038, q_1043]), (1, [q_1162, q_1167]), (1, [q_1292, q_1297]), (1, [q_1416, q_1421]), (1, [q_1540, q_1545]), (1, [q_1670, q_1675]), (1, [q_1794, q_1799]), (1, [q_1918, q_1923]), (1, [q_2048, q_2053]), (1, [q_2172, q_2177]), (1, [q_2296, q_2301]), (1, [q_2426, q_2431]), (1, [q_2550, q_2555]), (2, [q_2680, q_2685, q_2686, q_2687, q_2688, q_2689, q_2690, q_2691, q_2692]), (2, [q_2857, q_2862, q_2863, q_2864, q_2865, q_2866, q_2867, q_2868, q_2869])] := ⟨_, rfl⟩
  rw [← eG_3034] at hG_3030
  refine j_iload_n C dX9_init_168 rfl 0 rfl ?_
  refine j_aload_n C dX9_init_169 rfl 1 rfl ?_
  refine j_getr (f := 911) (v := q_524) C flX9_64 dX9_init_170 hm_2977 hk_2978 (by decide) rfl hv_3021 ?_
  show J _ _ _ _ _ 173 _
  refine j_alen (v := 3) C dX9_init_173 hm_2993 hk_2994 (by decide) (by decide) (len_of (n := 3) hn_2995 (by decide)) ?_
  refine j_ic_ge (tgt := 196) C dX9_init_174 (by decide) (fun c9 => absurd c9 (by decide)) (fun c9 => ?_)
  refine j_aload_n C dX9_init_177 rfl 1 rfl ?_
  refine j_getr (f := 911) (v := q_524) C flX9_64 dX9_init_178 hm_2977 hk_2978 (by decide) rfl hv_3021 ?_
  refine j_iload_n C dX9_init_181 rfl 0 rfl ?_
  refine j_new (N := 21) C (ci := 1) rfl rfl klX9_54 knX1 kiX1 (M.cells (by decide)) (M.slots (by decide)) dX9_init_182 (fun q_3035 hq_3036 => ?_)
  have hz_3037 : q_3035 ∉ hL S := fun h9 => hq_3036 (hf_3024.mem h9)
  have gn_3038 : ∀ g9 ∈ gs_3033, ∀ p9 ∈ (gT g9.1).2.2, g9.2.getD p9.2.1 0 ≠ q_3035 := Gs.ne hG_3030 hq_3036
  refine j_dup C dX9_init_185 rfl ?_
  have hf_3039 : Fm (fun _ _ => False) (fun f9 b9 => b9 = h) (fun _ => False) S (nO S_2974 q_3035 1) := (hf_3024.nO _ hq_3036)
  refine j_callI C [] [.ref q_3035, .int 2, .ref q_524] mlX9_56 mcX1_init (c_X1_init (nO S_2974 q_3035 1) q_3035 mem_new (kd_nO' (k := 1))) (M.rm (by decide) (by decide) (Nat.le_of_ble_eq_true rfl) (Nat.le_of_ble_eq_true rfl)) rfl rfl (Nat.le_of_ble_eq_true rfl) dX9_init_186 (fun r_3086 S_3087 hp_3088 => ?_)
  obtain ⟨rfl, hf_3089, q_3040, q_3041, q_3042, q_3043, q_3044, q_3045, q_3046, q_3047, e_3048, e_3049, e_3050, e_3051, e_3052, e_3053, e_3054, e_3055, e_3056, e_3057, e_3058, e_3059, e_3060, e_3061, e_3062, e_3063, e_3064, e_3065, e_3066, e_3067, e_3068, e_3069, e_3070, e_3071, e_3072, e_3073, e_3074, e_3075, e_3076, e_3077, e_3078, e_3079, e_3080, e_3081, e_3082, e_3083, e_3084, hNl_3085⟩ := hp_3088
  refine J.eq (st' := [.ref q_3035, .int 2, .ref q_524]) rfl rfl rfl ?_
  have hz_3090 : ∀ j, aI S_3087 q_161 j = 0 := fun j9 => (hf_3089.ai (mem_old hm_2979) (fun h9 => h9) j9).trans (hz_2982 j9)
  have hz_3091 : ∀ j, aI S_3087 q_266 j = 0 := fun j9 => (hf_3089.ai (mem_old hm_2983) (fun h9 => h9) j9).trans (hz_2986 j9)
  have hz_3092 : ∀ j, aI S_3087 q_295 j = 0 := fun j9 => (hf_3089.ai (mem_old hm_2989) (fun h9 => h9) j9).trans (hz_2992 j9)
  have hz_3093 : ∀ j, aI S_3087 q_524 j = 0 := fun j9 => (hf_3089.ai (mem_old hm_2993) (fun h9 => h9) j9).trans (hz_2996 j9)
  have hz_3094 : ∀ j, aI S_3087 q_565 j = 0 := fun j9 => (hf_3089.ai (mem_old hm_2997) (fun h9 => h9) j9).trans (hz_3000 j9)
  have hz_3095 : ∀ j, aI S_3087 q_610 j = 0 := fun j9 => (hf_3089.ai (mem_old hm_3001) (fun h9 => h9) j9).trans (hz_3004 j9)
  have hm_3096 : h ∈ hL S_3087 := hf_3089.mem (mem_old hm_2977)
  have hk_3097 : Kd S_3087 h 9 := hf_3089.kd (mem_old hm_2977) (kd_nO (k := 1) hq_3036 hm_2977 hk_2978)
  have hm_3098 : q_161 ∈ hL S_3087 := hf_3089.mem (mem_old hm_2979)
  have hk_3099 : Kd S_3087 q_161 20 := hf_3089.kd (mem_old hm_2979) (kd_nO (k := 1) hq_3036 hm_2979 hk_2980)
  have hn_3100 : Ln S_3087 q_161 16 := hf_3089.ln (mem_old hm_2979) hn_2981
  have hm_3101 : q_266 ∈ hL S_3087 := hf_3089.mem (mem_old hm_2983)
  have hk_3102 : Kd S_3087 q_266 13 := hf_3089.kd (mem_old hm_2983) (kd_nO (k := 1) hq_3036 hm_2983 hk_2984)
  have hn_3103 : Ln S_3087 q_266 24000 := hf_3089.ln (mem_old hm_2983) hn_2985
  have hm_3104 : q_295 ∈ hL S_3087 := hf_3089.mem (mem_old hm_2989)
  have hk_3105 : Kd S_3087 q_295 14 := hf_3089.kd (mem_old hm_2989) (kd_nO (k := 1) hq_3036 hm_2989 hk_2990)
  have hn_3106 : Ln S_3087 q_295 16 := hf_3089.ln (mem_old hm_2989) hn_2991
  have hm_3107 : q_3035 ∈ hL S_3087 := hf_3089.mem mem_new
  have hk_3108 : Kd S_3087 q_3035 1 := hf_3089.kd mem_new (kd_nO' (k := 1))
  have hm_3109 : q_524 ∈ hL S_3087 := hf_3089.mem (mem_old hm_2993)
  have hk_3110 : Kd S_3087 q_524 18 := hf_3089.kd (mem_old hm_2993) (kd_nO (k := 1) hq_3036 hm_2993 hk_2994)
  have hn_3111 : Ln S_3087 q_524 3 := hf_3089.ln (mem_old hm_2993) hn_2995
  have hm_3112 : q_565 ∈ hL S_3087 := hf_3089.mem (mem_old hm_2997)
  have hk_3113 : Kd S_3087 q_565 19 := hf_3089.kd (mem_old hm_2997) (kd_nO (k := 1) hq_3036 hm_2997 hk_2998)
  have hn_3114 : Ln S_3087 q_565 4 := hf_3089.ln (mem_old hm_2997) hn_2999
  have hm_3115 : q_610 ∈ hL S_3087 := hf_3089.mem (mem_old hm_3001)
  have hk_3116 : Kd S_3087 q_610 14 := hf_3089.kd (mem_old hm_3001) (kd_nO (k := 1) hq_3036 hm_3001 hk_3002)
  have hn_3117 : Ln S_3087 q_610 12 := hf_3089.ln (mem_old hm_3001) hn_3003
  have hv_3118 : hR S_3087 900 h = (some s0) := hf_3089.fr (mem_old hm_2977) (fun q9 => (fun e9 => absurd (((kd_nO (k := 1) hq_3036 hm_2977 hk_2978)).symm.trans ((congrArg (hK _) e9).trans (kd_nO' (k := 1)))) (by decide)) q9) (rd_nOR (k := 1) hq_3036 hm_2977 hv_3010)
  have hv_3119 : hR S_3087 901 h = (some q_1) := hf_3089.fr (mem_old hm_2977) (fun q9 => (fun e9 => absurd (((kd_nO (k := 1) hq_3036 hm_2977 hk_2978)).symm.trans ((congrArg (hK _) e9).trans (kd_nO' (k := 1)))) (by decide)) q9) (rd_nOR (k := 1) hq_3036 hm_2977 hv_3011)
  have hv_3120 : hR S_3087 902 h = (some q_41) := hf_3089.fr (mem_old hm_2977) (fun q9 => (fun e9 => absurd (((kd_nO (k := 1) hq_3036 hm_2977 hk_2978)).symm.trans ((congrArg (hK _) e9).trans (kd_nO' (k := 1)))) (by decide)) q9) (rd_nOR (k := 1) hq_3036 hm_2977 hv_3012)
  have hv_3121 : hR S_3087 903 h = (some q_126) := hf_3089.fr (mem_old hm_2977) (fun q9 => (fun e9 => absurd (((kd_nO (k := 1) hq_3036 hm_2977 hk_2978)).symm.trans ((congrArg (hK _) e9).trans (kd_nO' (k := 1)))) (by decide)) q9) (rd_nOR (k := 1) hq_3036 hm_2977 hv_3013)
  have hv_3122 : hR S_3087 904 h = (some q_161) := hf_3089.fr (mem_old hm_2977) (fun q9 => (fun e9 => absurd (((kd_nO (k := 1) hq_3036 hm_2977 hk_2978)).symm.trans ((congrArg (hK _) e9).trans (kd_nO' (k := 1)))) (by decide)) q9) (rd_nOR (k := 1) hq_3036 hm_2977 hv_3014)
  have hv_3123 : hR S_3087 905 h = (some q_183) := hf_3089.fr (mem_old hm_2977) (fun q9 => (fun e9 => absurd (((kd_nO (k := 1) hq_3036 hm_2977 hk_2978)).symm.trans ((congrArg (hK _) e9).trans (kd_nO' (k := 1)))) (by decide)) q9) (rd_nOR (k := 1) hq_3036 hm_2977 hv_3015)
  have hv_3124 : hR S_3087 906 h = (some q_224) := hf_3089.fr (mem_old hm_2977) (fun q9 => (fun e9 => absurd (((kd_nO (k := 1) hq_3036 hm_2977 hk_2978)).symm.trans ((congrArg (hK _) e9).trans (kd_nO' (k := 1)))) (by decide)) q9) (rd_nOR (k := 1) hq_3036 hm_2977 hv_3016)
  have hv_3125 : hR S_3087 907 h = (some q_266) := hf_3089.fr (mem_old hm_2977) (fun q9 => (fun e9 => absurd (((kd_nO (k := 1) hq_3036 hm_2977 hk_2978)).symm.trans ((congrArg (hK _) e9).trans (kd_nO' (k := 1)))) (by decide)) q9) (rd_nOR (k := 1) hq_3036 hm_2977 hv_3017)
  have hv_3126 : hR S_3087 908 h = (some q_295) := hf_3089.fr (mem_old hm_2977) (fun q9 => (fun e9 => absurd (((kd_nO (k := 1) hq_3036 hm_2977 hk_2978)).symm.trans ((congrArg (hK _) e9).trans (kd_nO' (k := 1)))) (by decide)) q9) (rd_nOR (k := 1) hq_3036 hm_2977 hv_3018)
  have hv_3127 : hR S_3087 909 h = (some q_328) := hf_3089.fr (mem_old hm_2977) (fun q9 => (fun e9 => absurd (((kd_nO (k := 1) hq_3036 hm_2977 hk_2978)).symm.trans ((congrArg (hK _) e9).trans (kd_nO' (k := 1)))) (by decide)) q9) (rd_nOR (k := 1) hq_3036 hm_2977 hv_3019)
  have hv_3128 : hR S_3087 910 h = (some q_425) := hf_3089.fr (mem_old hm_2977) (fun q9 => (fun e9 => absurd (((kd_nO (k := 1) hq_3036 hm_2977 hk_2978)).symm.trans ((congrArg (hK _) e9).trans (kd_nO' (k := 1)))) (by decide)) q9) (rd_nOR (k := 1) hq_3036 hm_2977 hv_3020)
  have hv_3129 : hR S_3087 911 h = (some q_524) := hf_3089.fr (mem_old hm_2977) (fun q9 => (fun e9 => absurd (((kd_nO (k := 1) hq_3036 hm_2977 hk_2978)).symm.trans ((congrArg (hK _) e9).trans (kd_nO' (k := 1)))) (by decide)) q9) (rd_nOR (k := 1) hq_3036 hm_2977 hv_3021)
  have hv_3130 : hR S_3087 912 h = (some q_565) := hf_3089.fr (mem_old hm_2977) (fun q9 => (fun e9 => absurd (((kd_nO (k := 1) hq_3036 hm_2977 hk_2978)).symm.trans ((congrArg (hK _) e9).trans (kd_nO' (k := 1)))) (by decide)) q9) (rd_nOR (k := 1) hq_3036 hm_2977 hv_3022)
  have hv_3131 : hR S_3087 917 h = (some q_610) := hf_3089.fr (mem_old hm_2977) (fun q9 => (fun e9 => absurd (((kd_nO (k := 1) hq_3036 hm_2977 hk_2978)).symm.trans ((congrArg (hK _) e9).trans (kd_nO' (k := 1)))) (by decide)) q9) (rd_nOR (k := 1) hq_3036 hm_2977 hv_3023)
  have hf_3132 : Fm (fun _ _ => False) (fun f9 b9 => b9 = h) (fun _ => False) S S_3087 := hf_3039.then hf_3089 (fun a9 ha9 => ⟨(fun f9 h9 => h9.elim), (fun f9 h9 => (fun h8 => absurd (h8 ▸ ha9) hz_3037) h9), (fun h9 => h9.elim)⟩)
  have hN_3133 : NL S (L_3031 ++ [q_3035]) S_3087 := NL.mono (show NL S (L_3031 ++ [q_3035]) (nO S_2974 q_3035 1) from NL.nO hN_3029 hq_3036 hz_3037) (fun a9 h9 => hf_3089.mem h9)
  have hG_3134 : Gs h gs_3033 S_3087 := Gs.fm (show Gs h gs_3033 (nO S_2974 q_3035 1) from Gs.nO hG_3030 hq_3036) hf_3089 (fun g9 hg9 p9 hp9 => gn_3038 g9 hg9 p9 hp9)
  have hE_3135 : ELs S_3087 q_161 [q_661, q_784, q_914, q_1038, q_1162, q_1292, q_1416, q_1540, q_1670, q_1794, q_1918, q_2048, q_2172, q_2296, q_2426, q_2550] := ELs.fm (ELs.nO (S := S_2974) hE_3027) hf_3089 (mem_old hm_2979) (fun h9 => h9)
  have hE_3136 : ELs S_3087 q_524 [q_2680, q_2857] := ELs.fm (ELs.nO (S := S_2974) hE_3028) hf_3089 (mem_old hm_2993) (fun h9 => h9)
  have hz_3137 : q_3040 ∉ hL S := fun h9 => e_3048 (hf_3039.mem h9)
  have hz_3138 : q_3041 ∉ hL S := fun h9 => e_3052 (hf_3039.mem h9)
  have hz_3139 : q_3042 ∉ hL S := fun h9 => e_3057 (hf_3039.mem h9)
  have hz_3140 : q_3043 ∉ hL S := fun h9 => e_3061 (hf_3039.mem h9)
  have hz_3141 : q_3044 ∉ hL S := fun h9 => e_3066 (hf_3039.mem h9)
  have hz_3142 : q_3045 ∉ hL S := fun h9 => e_3070 (hf_3039.mem h9)
  have hz_3143 : q_3046 ∉ hL S := fun h9 => e_3075 (hf_3039.mem h9)
  have hz_3144 : q_3047 ∉ hL S := fun h9 => e_3080 (hf_3039.mem h9)
  have hN_3145 : NL S ((L_3031 ++ [q_3035]) ++ [q_3040, q_3041, q_3042, q_3043, q_3044, q_3045, q_3046, q_3047]) S_3087 := NL.app (show NL S (L_3031 ++ [q_3035]) (nO S_2974 q_3035 1) from NL.nO hN_3029 hq_3036 hz_3037) hNl_3085 (fun a9 h9 => hf_3089.mem h9) (fun a9 h9 => hf_3039.mem h9)
  obtain ⟨L_3146, eL_3147⟩ : ∃ L9 : List Nat, L9 = ((L_3031 ++ [q_3035]) ++ [q_3040, q_3041, q_3042, q_3043, q_3044, q_3045, q_3046, q_3047]) := ⟨_, rfl⟩
  rw [← eL_3147] at hN_3145
  have hGt_3148 : Gt 2 [q_3035, q_3040, q_3041, q_3042, q_3043, q_3044, q_3045, q_3046, q_3047] S_3087 := ⟨fun i9 k9 h9 => (match i9, h9 with | 0, h9 => (by have e9 : (1 : Nat) = k9 := Option.some.inj h9; subst e9; exact ⟨hm_3107, hk_3108⟩) | 1, h9 => (by have e9 : (7 : Nat) = k9 := Option.some.inj h9; subst e9; exact ⟨e_3049, e_3050⟩) | 2, h9 => (by have e9 : (14 : Nat) = k9 := Option.some.inj h9; subst e9; exact ⟨e_3053, e_3054⟩) | 3, h9 => (by have e9 : (4 : Nat) = k9 := Option.some.inj h9; subst e9; exact ⟨e_3058, e_3059⟩) | 4, h9 => (by have e9 : (14 : Nat) = k9 := Option.some.inj h9; subst e9; exact ⟨e_3062, e_3063⟩) | 5, h9 => (by have e9 : (10 : Nat) = k9 := Option.some.inj h9; subst e9; exact ⟨e_3067, e_3068⟩) | 6, h9 => (by have e9 : (15 : Nat) = k9 := Option.some.inj h9; subst e9; exact ⟨e_3071, e_3072⟩) | 7, h9 => (by have e9 : (14 : Nat) = k9 := Option.some.inj h9; subst e9; exact ⟨e_3076, e_3077⟩) | 8, h9 => (by have e9 : (14 : Nat) = k9 := Option.some.inj h9; subst e9; exact ⟨e_3081, e_3082⟩) | i9 + 9, h9 => absurd h9 (by simp [gT])), (List.forall_mem_cons.mpr ⟨e_3055, (List.forall_mem_cons.mpr ⟨e_3064, (List.forall_mem_cons.mpr ⟨e_3073, (List.forall_mem_cons.mpr ⟨e_3078, (List.forall_mem_cons.mpr ⟨e_3083, (fun _ h9 => absurd h9 List.not_mem_nil)⟩)⟩)⟩)⟩)⟩), (List.forall_mem_cons.mpr ⟨e_3051, (List.forall_mem_cons.mpr ⟨e_3056, (List.forall_mem_cons.mpr ⟨e_3060, (List.forall_mem_cons.mpr ⟨e_3065, (List.forall_mem_cons.mpr ⟨e_3069, (List.forall_mem_cons.mpr ⟨e_3074, (List.forall_mem_cons.mpr ⟨e_3079, (List.forall_mem_cons.mpr ⟨e_3084, (fun _ h9 => absurd h9 List.not_mem_nil)⟩)⟩)⟩)⟩)⟩)⟩)⟩)⟩), (fun _ h9 => absurd h9 List.not_mem_nil)⟩
  have hG_3149 : Gs h (gs_3033 ++ [(2, [q_3035, q_3040, q_3041, q_3042, q_3043, q_3044, q_3045, q_3046, q_3047])]) S_3087 := Gs.snoc hG_3134 (by decide) hGt_3148 (List.forall_mem_cons.mpr ⟨(own_ne hz_3037 hm0_9), (List.forall_mem_cons.mpr ⟨(own_ne hz_3137 hm0_9), (List.forall_mem_cons.mpr ⟨(own_ne hz_3037 hm0_9), (List.forall_mem_cons.mpr ⟨(own_ne hz_3139 hm0_9), (List.forall_mem_cons.mpr ⟨(own_ne hz_3037 hm0_9), (List.forall_mem_cons.mpr ⟨(own_ne hz_3141 hm0_9), (List.forall_mem_cons.mpr ⟨(own_ne hz_3037 hm0_9), (List.forall_mem_cons.mpr ⟨(own_ne hz_3037 hm0_9), (fun _ h9 => absurd h9 List.not_mem_nil)⟩)⟩)⟩)⟩)⟩)⟩)⟩)⟩)
  obtain ⟨gs_3150, eG_3151⟩ : ∃ G9 : List (Nat × List Nat), G9 = gs_3033 ++ [(2, [q_3035, q_3040, q_3041, q_3042, q_3043, q_3044, q_3045, q_3046, q_3047])] := ⟨_, rfl⟩
  rw [← eG_3151] at hG_3149
  show J _ _ _ _ _ 189 _
  refine j_aast (j := 2) (ci := 1) C 18  (by decide) rfl dX9_init_189 hm_3109 hk_3110 (inr_of (n := 3) hn_3111 (vp_lit (by decide))) (by decide) hm_3107 hk_3108 rfl ?_
  have hf_3154 : Fm (fun _ _ => False) (fun f9 b9 => b9 = h) (fun _ => False) S (tR S_3087 q_524 2 (some q_3035)) := (hf_3132.tR _ _ (fun h9 => absurd h9 hz_527))
  obtain ⟨S_3152, eS_3153⟩ : ∃ S9 : Hp, S9 = (tR S_3087 q_524 2 (some q_3035)) := ⟨_, rfl⟩
  refine J.eq (S' := S_3152) eS_3153.symm rfl rfl ?_
  have hm_3155 : h ∈ hL S_3152 := by rw [eS_3153]; exact hm_3096
  have hk_3156 : Kd S_3152 h 9 := by rw [eS_3153]; exact hk_3097
  have hm_3157 : q_161 ∈ hL S_3152 := by rw [eS_3153]; exact hm_3098
  have hk_3158 : Kd S_3152 q_161 20 := by rw [eS_3153]; exact hk_3099
  have hn_3159 : Ln S_3152 q_161 16 := by rw [eS_3153]; exact hn_3100
  have hz_3160 : ∀ j, aI S_3152 q_161 j = 0 := by rw [eS_3153]; exact hz_3090
  have hm_3161 : q_266 ∈ hL S_3152 := by rw [eS_3153]; exact hm_3101
  have hk_3162 : Kd S_3152 q_266 13 := by rw [eS_3153]; exact hk_3102
  have hn_3163 : Ln S_3152 q_266 24000 := by rw [eS_3153]; exact hn_3103
  have hz_3164 : ∀ j, aI S_3152 q_266 j = 0 := by rw [eS_3153]; exact hz_3091
  have hm_3165 : q_295 ∈ hL S_3152 := by rw [eS_3153]; exact hm_3104
  have hk_3166 : Kd S_3152 q_295 14 := by rw [eS_3153]; exact hk_3105
  have hn_3167 : Ln S_3152 q_295 16 := by rw [eS_3153]; exact hn_3106
  have hz_3168 : ∀ j, aI S_3152 q_295 j = 0 := by rw [eS_3153]; exact hz_3092
  have hm_3169 : q_3035 ∈ hL S_3152 := by rw [eS_3153]; exact hm_3107
  have hk_3170 : Kd S_3152 q_3035 1 := by rw [eS_3153]; exact hk_3108
  have hm_3171 : q_524 ∈ hL S_3152 := by rw [eS_3153]; exact hm_3109
  have hk_3172 : Kd S_3152 q_524 18 := by rw [eS_3153]; exact hk_3110
  have hn_3173 : Ln S_3152 q_524 3 := by rw [eS_3153]; exact hn_3111
  have hz_3174 : ∀ j, aI S_3152 q_524 j = 0 := by rw [eS_3153]; exact hz_3093
  have hm_3175 : q_565 ∈ hL S_3152 := by rw [eS_3153]; exact hm_3112
  have hk_3176 : Kd S_3152 q_565 19 := by rw [eS_3153]; exact hk_3113
  have hn_3177 : Ln S_3152 q_565 4 := by rw [eS_3153]; exact hn_3114
  have hz_3178 : ∀ j, aI S_3152 q_565 j = 0 := by rw [eS_3153]; exact hz_3094
  have hm_3179 : q_610 ∈ hL S_3152 := by rw [eS_3153]; exact hm_3115
  have hk_3180 : Kd S_3152 q_610 14 := by rw [eS_3153]; exact hk_3116
  have hn_3181 : Ln S_3152 q_610 12 := by rw [eS_3153]; exact hn_3117
  have hz_3182 : ∀ j, aI S_3152 q_610 j = 0 := by rw [eS_3153]; exact hz_3095
  have hv_3183 : hR S_3152 100 q_3035 = (some q_3040) := by rw [eS_3153]; exact e_3051
  have hv_3184 : hR S_3152 101 q_3035 = (some q_3042) := by rw [eS_3153]; exact e_3060
  have hv_3185 : hR S_3152 102 q_3035 = (some q_3044) := by rw [eS_3153]; exact e_3069
  have hv_3186 : hR S_3152 103 q_3035 = (some q_3046) := by rw [eS_3153]; exact e_3079
  have hv_3187 : hR S_3152 104 q_3035 = (some q_3047) := by rw [eS_3153]; exact e_3084
  have hv_3188 : hR S_3152 900 h = (some s0) := by rw [eS_3153]; exact hv_3118
  have hv_3189 : hR S_3152 901 h = (some q_1) := by rw [eS_3153]; exact hv_3119
  have hv_3190 : hR S_3152 902 h = (some q_41) := by rw [eS_3153]; exact hv_3120
  have hv_3191 : hR S_3152 903 h = (some q_126) := by rw [eS_3153]; exact hv_3121
  have hv_3192 : hR S_3152 904 h = (some q_161) := by rw [eS_3153]; exact hv_3122
  have hv_3193 : hR S_3152 905 h = (some q_183) := by rw [eS_3153]; exact hv_3123
  have hv_3194 : hR S_3152 906 h = (some q_224) := by rw [eS_3153]; exact hv_3124
  have hv_3195 : hR S_3152 907 h = (some q_266) := by rw [eS_3153]; exact hv_3125
  have hv_3196 : hR S_3152 908 h = (some q_295) := by rw [eS_3153]; exact hv_3126
  have hv_3197 : hR S_3152 909 h = (some q_328) := by rw [eS_3153]; exact hv_3127
  have hv_3198 : hR S_3152 910 h = (some q_425) := by rw [eS_3153]; exact hv_3128
  have hv_3199 : hR S_3152 911 h = (some q_524) := by rw [eS_3153]; exact hv_3129
  have hv_3200 : hR S_3152 912 h = (some q_565) := by rw [eS_3153]; exact hv_3130
  have hv_3201 : hR S_3152 917 h = (some q_610) := by rw [eS_3153]; exact hv_3131
  have hf_3202 : Fm (fun _ _ => False) (fun f9 b9 => b9 = h) (fun _ => False) S S_3152 := by rw [eS_3153]; exact hf_3154
  have hN_3203 : NL S L_3146 S_3152 := by rw [eS_3153]; exact (NL.tR (S := S_3087) hN_3145)
  have hG_3204 : Gs h gs_3150 S_3152 := by rw [eS_3153]; exact (Gs.tR (S := S_3087) hG_3149)
  have hE_3205 : ELs S_3152 q_161 [q_661, q_784, q_914, q_1038, q_1162, q_1292, q_1416, q_1540, q_1670, q_1794, q_1918, q_2048, q_2172, q_2296, q_2426, q_2550] := by rw [eS_3153]; exact (ELs.tRx (S := S_3087) (fun e9 => absurd ((hk_3099).symm.trans ((congrArg (hK _) e9).trans hk_3110)) (by decide)) hE_3135)
  have hE_3206 : ELs S_3152 q_524 [q_2680, q_2857, q_3035] := by rw [eS_3153]; exact (show ELs (tR S_3087 q_524 2 (some q_3035)) q_524 [q_2680, q_2857, q_3035] from ELs.snoc hE_3136 rfl)
  refine j_iinc (q := 0) (v := 3) (lv' := [(2, .int 3), (0, .ref h), (1, .ref s0)]) C dX9_init_190 rfl (by decide) (by rw [hn9]; decide) rfl ?_
  refine j_goto (tgt := 168) C dX9_init_193 (by decide) ?_
  exact x9_t9 (q_1 := q_1) (q_5 := q_5) (q_6 := q_6) (q_41 := q_41) (q_47 := q_47) (q_48 := q_48) (q_49 := q_49) (q_50 := q_50) (q_51 := q_51) (q_52 := q_52) (q_53 := q_53) (q_54 := q_54) (q_126 := q_126) (q_132 := q_132) (q_161 := q_161) (q_183 := q_183) (q_188 := q_188) (q_224 := q_224) (q_230 := q_230) (q_266 := q_266) (q_295 := q_295) (q_328 := q_328) (q_333 := q_333) (q_334 := q_334) (q_335 := q_335) (q_336 := q_336) (q_337 := q_337) (q_338 := q_338) (q_339 := q_339) (q_340 := q_340) (q_425 := q_425) (q_431 := q_431) (q_432 := q_432) (q_433 := q_433) (q_434 := q_434) (q_435 := q_435) (q_436 := q_436) (q_437 := q_437) (q_438 := q_438) (q_524 := q_524) (q_565 := q_565) (q_610 := q_610) (q_661 := q_661) (q_666 := q_666) (q_784 := q_784) (q_789 := q_789) (q_914 := q_914) (q_919 := q_919) (q_1038 := q_1038) (q_1043 := q_1043) (q_1162 := q_1162) (q_1167 := q_1167) (q_1292 := q_1292) (q_1297 := q_1297) (q_1416 := q_1416) (q_1421 := q_1421) (q_1540 := q_1540) (q_1545 := q_1545) (q_1670 := q_1670) (q_1675 := q_1675) (q_1794 := q_1794) (q_1799 := q_1799) (q_1918 := q_1918) (q_1923 := q_1923) (q_2048 := q_2048) (q_2053 := q_2053) (q_2172 := q_2172) (q_2177 := q_2177) (q_2296 := q_2296) (q_2301 := q_2301) (q_2426 := q_2426) (q_2431 := q_2431) (q_2550 := q_2550) (q_2555 := q_2555) (q_2680 := q_2680) (q_2685 := q_2685) (q_2686 := q_2686) (q_2687 := q_2687) (q_2688 := q_2688) (q_2689 := q_2689) (q_2690 := q_2690) (q_2691 := q_2691) (q_2692 := q_2692) (q_2857 := q_2857) (q_2862 := q_2862) (q_2863 := q_2863) (q_2864 := q_2864) (q_2865 := q_2865) (q_2866 := q_2866) (q_2867 := q_2867) (q_2868 := q_2868) (q_2869 := q_2869) (q_3035 := q_3035) (q_3040 := q_3040) (q_3041 := q_3041) (q_3042 := q_3042) (q_3043 := q_3043) (q_3044 := q_3044) (q_3045 := q_3045) (q_3046 := q_3046) (q_3047 := q_3047) hn9 C M hm9 hm0_9 hz_164 hz_269 hz_297 hz_527 hz_567 hz_612 hm_3155 hk_3156 hm_3157 hk_3158 hn_3159 hz_3160 hm_3161 hk_3162 hn_3163 hz_3164 hm_3165 hk_3166 hn_3167 hz_3168 hm_3171 hk_3172 hn_3173 hz_3174 hm_3175 hk_3176 hn_3177 hz_3178 hm_3179 hk_3180 hn_3181 hz_3182 hv_3188 hv_3189 hv_3190 hv_3191 hv_3192 hv_3193 hv_3194 hv_3195 hv_3196 hv_3197 hv_3198 hv_3199 hv_3200 hv_3201 (by have h9 := hN_3203; rw [eL_3147, eL_3032] at h9; simpa only [List.nil_append, List.cons_append, List.append_assoc] using h9) (by have h9 := hG_3204; rw [eG_3151, eG_3034] at h9; simpa only [List.nil_append, List.cons_append, List.append_assoc] using h9) hE_3205 hE_3206 hf_3202

set_option maxRecDepth 100000 in
set_option maxHeartbeats 8000000 in
theorem x9_t7 {x : JX} {S S_2796 : Hp} {h s0 q_1 q_5 q_6 q_41 q_47 q_48 q_49 q_50 q_51 q_52 q_53 q_54 q_126 q_132 q_161 q_183 q_188 q_224 q_230 q_266 q_295 q_328 q_333 q_334 q_335 q_336 q_337 q_338 q_339 q_340 q_425 q_431 q_432 q_433 q_434 q_435 q_436 q_437 q_438 q_524 q_565 q_610 q_661 q_666 q_784 q_789 q_914 q_919 q_1038 q_1043 q_1162 q_1167 q_1292 q_1297 q_1416 q_1421 q_1540 q_1545 q_1670 q_1675 q_1794 q_1799 q_1918 q_1923 q_2048 q_2053 q_2172 q_2177 q_2296 q_2301 q_2426 q_2431 q_2550 q_2555 q_2680 q_2685 q_2686 q_2687 q_2688 q_2689 q_2690 q_2691 q_2692 : Nat} (hn9 : x_n x = 3) (C : CB x RX9 cX9_init) (M : CM x 4 113 68424 none S (fun r S' => r = none ∧ Fm (fun _ _ => False) (fun f9 b9 => b9 = h) (fun _ => False) S S' ∧ hR S' 900 h = some s0 ∧ ∃ l : List Nat, Wt s9K s9N s9P s9Q (fun i => (h :: l).getD i 0) S' ∧ l.length = 105 ∧ NL S l S' ∧ (∀ j, aI S' ((h :: l).getD 6 0) j = 0) ∧ (∀ j, aI S' ((h :: l).getD 9 0) j = 0) ∧ (∀ j, aI S' ((h :: l).getD 14 0) j = 0) ∧ (∀ j, aI S' ((h :: l).getD 19 0) j = 0))) (hm9 : (x_meth x).name = yX9_init.name) (hm0_9 : h ∈ hL S) (hz_164 : q_161 ∉ hL S) (hz_269 : q_266 ∉ hL S) (hz_297 : q_295 ∉ hL S) (hz_527 : q_524 ∉ hL S) (hz_567 : q_565 ∉ hL S) (hz_612 : q_610 ∉ hL S) (hm_2799 : h ∈ hL S_2796) (hk_2800 : Kd S_2796 h 9) (hm_2801 : q_161 ∈ hL S_2796) (hk_2802 : Kd S_2796 q_161 20) (hn_2803 : Ln S_2796 q_161 16) (hz_2804 : ∀ j, aI S_2796 q_161 j = 0) (hm_2805 : q_266 ∈ hL S_2796) (hk_2806 : Kd S_2796 q_266 13) (hn_2807 : Ln S_2796 q_266 24000) (hz_2808 : ∀ j, aI S_2796 q_266 j = 0) (hm_2811 : q_295 ∈ hL S_2796) (hk_2812 : Kd S_2796 q_295 14) (hn_2813 : Ln S_2796 q_295 16) (hz_2814 : ∀ j, aI S_2796 q_295 j = 0) (hm_2815 : q_524 ∈ hL S_2796) (hk_2816 : Kd S_2796 q_524 18) (hn_2817 : Ln S_2796 q_524 3) (hz_2818 : ∀ j, aI S_2796 q_524 j = 0) (hm_2819 : q_565 ∈ hL S_2796) (hk_2820 : Kd S_2796 q_565 19) (hn_2821 : Ln S_2796 q_565 4) (hz_2822 : ∀ j, aI S_2796 q_565 j = 0) (hm_2823 : q_610 ∈ hL S_2796) (hk_2824 : Kd S_2796 q_610 14) (hn_2825 : Ln S_2796 q_610 12) (hz_2826 : ∀ j, aI S_2796 q_610 j = 0) (hv_2832 : hR S_2796 900 h = (some s0)) (hv_2833 : hR S_2796 901 h = (some q_1)) (hv_2834 : hR S_2796 902 h = (some q_41)) (hv_2835 : hR S_2796 903 h = (some q_126)) (hv_2836 : hR S_2796 904 h = (some q_161)) (hv_2837 : hR S_2796 905 h = (some q_183)) (hv_2838 : hR S_2796 906 h = (some q_224)) (hv_2839 : hR S_2796 907 h = (some q_266)) (hv_2840 : hR S_2796 908 h = (some q_295)) (hv_2841 : hR S_2796 909 h = (some q_328)) (hv_2842 : hR S_2796 910 h = (some q_425)) (hv_2843 : hR S_2796 911 h = (some q_524)) (hv_2844 : hR S_2796 912 h = (some q_565)) (hv_2845 : hR S_2796 917 h = (some q_610)) (hN_2851 : NL S [q_1, q_5, q_6, q_41, q_47, q_48, q_49, q_50, q_51, q_52, q_53, q_54, q_126, q_132, q_161, q_183, q_188, q_224, q_230, q_266, q_295, q_328, q_333, q_334, q_335, q_336, q_337, q_338, q_339, q_340, q_425, q_431, q_432, q_433, q_434, q_435, q_436, q_437, q_438, q_524, q_565, q_610, q_661, q_666, q_784, q_789, q_914, q_919, q_1038, q_1043, q_1162, q_1167, q_1292, q_1297, q_1416, q_1421, q_1540, q_1545, q_1670, q_1675, q_1794, q_1799, q_1918, q_1923, q_2048, q_2053, q_2172, q_2177, q_2296, q_2301, q_2426, q_2431, q_2550, q_2555, q_2680, q_2685, q_2686, q_2687, q_2688, q_2689, q_2690, q_2691, q_2692] S_2796) (hG_2852 : Gs h [(3, [q_1, q_5, q_6]), (4, [q_41, q_47, q_48, q_49, q_50, q_51, q_52, q_53, q_54]), (0, [q_126, q_132]), (1, [q_183, q_188]), (0, [q_224, q_230]), (2, [q_328, q_333, q_334, q_335, q_336, q_337, q_338, q_339, q_340]), (2, [q_425, q_431, q_432, q_433, q_434, q_435, q_436, q_437, q_438]), (1, [q_661, q_666]), (1, [q_784, q_789]), (1, [q_914, q_919]), (1, [q_1038, q_1043]), (1, [q_1162, q_1167]), (1, [q_1292, q_1297]), (1, [q_1416, q_1421]), (1, [q_1540, q_1545]), (1, [q_1670, q_1675]), (1, [q_1794, q_1799]), (1, [q_1918, q_1923]), (1, [q_2048, q_2053]), (1, [q_2172, q_2177]), (1, [q_2296, q_2301]), (1, [q_2426, q_2431]), (1, [q_2550, q_2555]), (2, [q_2680, q_2685, q_2686, q_2687, q_2688, q_2689, q_2690, q_2691, q_2692])] S_2796) (hE_2849 : ELs S_2796 q_161 [q_661, q_784, q_914, q_1038, q_1162, q_1292, q_1416, q_1540, q_1670, q_1794, q_1918, q_2048, q_2172, q_2296, q_2426, q_2550]) (hE_2850 : ELs S_2796 q_524 [q_2680]) (hf_2846 : Fm (fun _ _ => False) (fun f9 b9 => b9 = h) (fun _ => False) S S_2796) : J x (0 + 1 + 4 + 1 + 8 + 1 + 1 + 1 + 1 + 1 + 1 + 1 + 1 + 1 + 1 + 8 + 1 + 8 + 1 + 1 + 1 + 1 + 1 + 1 + 1 + 1 + 1 + 1 + 1 + 1 + 1 + 1 + 1 + 1 + 1 + 1 + 1 + 1 + 1 + 1 + 1 + 1 + 1 + 1 + 1 + 1 + 1 + 1 + 1 + 1 + 1 + 1 + 1 + 1 + 8) (0 + 15 + 20045 + 10 + 23174 + 1 + 16 + 16 + 4 + 16 + 1 + 16 + 24000 + 16 + 21 + 117 + 21 + 117 + 3 + 4 + 12 + 4 + 16 + 4 + 16 + 4 + 16 + 4 + 16 + 4 + 16 + 4 + 16 + 4 + 16 + 4 + 16 + 4 + 16 + 4 + 16 + 4 + 16 + 4 + 16 + 4 + 16 + 4 + 16 + 4 + 16 + 4 + 16 + 21 + 117) S_2796 [(2, .int 1), (0, .ref h), (1, .ref s0)] 168 [] := by
  obtain ⟨L_2853, eL_2854⟩ : ∃ L9 : List Nat, L9 = [q_1, q_5, q_6, q_41, q_47, q_48, q_49, q_50, q_51, q_52, q_53, q_54, q_126, q_132, q_161, q_183, q_188, q_224, q_230, q_266, q_295, q_328, q_333, q_334, q_335, q_336, q_337, q_338, q_339, q_340, q_425, q_431, q_432, q_433, q_434, q_435, q_436, q_437, q_438, q_524, q_565, q_610, q_661, q_666, q_784, q_789, q_914, q_919, q_1038, q_1043, q_1162, q_1167, q_1292, q_1297, q_1416, q_1421, q_1540, q_1545, q_1670, q_1675, q_1794, q_1799, q_1918, q_1923, q_2048, q_2053, q_2172, q_2177, q_2296, q_2301, q_2426, q_2431, q_2550, q_2555, q_2680, q_2685, q_2686, q_2687, q_2688, q_2689, q_2690, q_2691, q_2692] := ⟨_, rfl⟩
  rw [← eL_2854] at hN_2851
  obtain ⟨gs_2855, eG_2856⟩ : ∃ G9 : List (Nat × List Nat), G9 = [(3, [q_1, q_5, q_6]), (4, [q_41, q_47, q_48, q_49, q_50, q_51, q_52, q_53, q_54]), (0, [q_126, q_132]), (1, [q_183, q_188]), (0, [q_224, q_230]), (2, [q_328, q_333, q_334, q_335, q_336, q_337, q_338, q_339, q_340]), (2, [q_425, q_431, q_432, q_433, q_434, q_435, q_436, q_437, q_438]), (1, [q_661, q_666]), (1, [q_784, q_789]), (1, [q_914, q_919]), (1, [q_1038, q_1043]), (1, [q_1162, q_1167]), (1, [q_1292, q_1297]), (1, [q_1416, q_1421]), (1, [q_1540, q_1545]), (1, [q_1670, q_1675]), (1, [q_1794, q_1799]), (1, [q_1918, q_1923]), (1, [q_2048, q_2053]), (1, [q_2172, q_2177]), (1, [q_2296, q_2301]), (1, [q_2426, q_2431]), (1, [q_2550, q_2555]), (2, [q_2680, q_2685, q_2686, q_2687, q_2688, q_2689, q_2690, q_2691, q_2692])] := ⟨_, rfl⟩
  rw [← eG_2856] at hG_2852
  refine j_iload_n C dX9_init_168 rfl 0 rfl ?_
  show J _ _ _ _ _ 169 _
  refine j_aload_n C dX9_init_169 rfl 1 rfl ?_
  refine j_getr (f := 911) (v := q_524) C flX9_64 dX9_init_170 hm_2799 hk_2800 (by decide) rfl hv_2843 ?_
  refine j_alen (v := 3) C dX9_init_173 hm_2815 hk_2816 (by decide) (by decide) (len_of (n := 3) hn_2817 (by decide)) ?_
  refine j_ic_ge (tgt := 196) C dX9_init_174 (by decide) (fun c9 => absurd c9 (by decide)) (fun c9 => ?_)
  refine j_aload_n C dX9_init_177 rfl 1 rfl ?_
  refine j_getr (f := 911) (v := q_524) C flX9_64 dX9_init_178 hm_2799 hk_2800 (by decide) rfl hv_2843 ?_
  refine j_iload_n C dX9_init_181 rfl 0 rfl ?_
  refine j_new (N := 21) C (ci := 1) rfl rfl klX9_54 knX1 kiX1 (M.cells (by decide)) (M.slots (by decide)) dX9_init_182 (fun q_2857 hq_2858 => ?_)
  have hz_2859 : q_2857 ∉ hL S := fun h9 => hq_2858 (hf_2846.mem h9)
  have gn_2860 : ∀ g9 ∈ gs_2855, ∀ p9 ∈ (gT g9.1).2.2, g9.2.getD p9.2.1 0 ≠ q_2857 := Gs.ne hG_2852 hq_2858
  show J _ _ _ _ _ 185 _
  refine j_dup C dX9_init_185 rfl ?_
  have hf_2861 : Fm (fun _ _ => False) (fun f9 b9 => b9 = h) (fun _ => False) S (nO S_2796 q_2857 1) := (hf_2846.nO _ hq_2858)
  refine j_callI C [] [.ref q_2857, .int 1, .ref q_524] mlX9_56 mcX1_init (c_X1_init (nO S_2796 q_2857 1) q_2857 mem_new (kd_nO' (k := 1))) (M.rm (by decide) (by decide) (Nat.le_of_ble_eq_true rfl) (Nat.le_of_ble_eq_true rfl)) rfl rfl (Nat.le_of_ble_eq_true rfl) dX9_init_186 (fun r_2908 S_2909 hp_2910 => ?_)
  obtain ⟨rfl, hf_2911, q_2862, q_2863, q_2864, q_2865, q_2866, q_2867, q_2868, q_2869, e_2870, e_2871, e_2872, e_2873, e_2874, e_2875, e_2876, e_2877, e_2878, e_2879, e_2880, e_2881, e_2882, e_2883, e_2884, e_2885, e_2886, e_2887, e_2888, e_2889, e_2890, e_2891, e_2892, e_2893, e_2894, e_2895, e_2896, e_2897, e_2898, e_2899, e_2900, e_2901, e_2902, e_2903, e_2904, e_2905, e_2906, hNl_2907⟩ := hp_2910
  refine J.eq (st' := [.ref q_2857, .int 1, .ref q_524]) rfl rfl rfl ?_
  have hz_2912 : ∀ j, aI S_2909 q_161 j = 0 := fun j9 => (hf_2911.ai (mem_old hm_2801) (fun h9 => h9) j9).trans (hz_2804 j9)
  have hz_2913 : ∀ j, aI S_2909 q_266 j = 0 := fun j9 => (hf_2911.ai (mem_old hm_2805) (fun h9 => h9) j9).trans (hz_2808 j9)
  have hz_2914 : ∀ j, aI S_2909 q_295 j = 0 := fun j9 => (hf_2911.ai (mem_old hm_2811) (fun h9 => h9) j9).trans (hz_2814 j9)
  have hz_2915 : ∀ j, aI S_2909 q_524 j = 0 := fun j9 => (hf_2911.ai (mem_old hm_2815) (fun h9 => h9) j9).trans (hz_2818 j9)
  have hz_2916 : ∀ j, aI S_2909 q_565 j = 0 := fun j9 => (hf_2911.ai (mem_old hm_2819) (fun h9 => h9) j9).trans (hz_2822 j9)
  have hz_2917 : ∀ j, aI S_2909 q_610 j = 0 := fun j9 => (hf_2911.ai (mem_old hm_2823) (fun h9 => h9) j9).trans (hz_2826 j9)
  have hm_2918 : h ∈ hL S_2909 := hf_2911.mem (mem_old hm_2799)
  have hk_2919 : Kd S_2909 h 9 := hf_2911.kd (mem_old hm_2799) (kd_nO (k := 1) hq_2858 hm_2799 hk_2800)
  have hm_2920 : q_161 ∈ hL S_2909 := hf_2911.mem (mem_old hm_2801)
  have hk_2921 : Kd S_2909 q_161 20 := hf_2911.kd (mem_old hm_2801) (kd_nO (k := 1) hq_2858 hm_2801 hk_2802)
  have hn_2922 : Ln S_2909 q_161 16 := hf_2911.ln (mem_old hm_2801) hn_2803
  have hm_2923 : q_266 ∈ hL S_2909 := hf_2911.mem (mem_old hm_2805)
  have hk_2924 : Kd S_2909 q_266 13 := hf_2911.kd (mem_old hm_2805) (kd_nO (k := 1) hq_2858 hm_2805 hk_2806)
  have hn_2925 : Ln S_2909 q_266 24000 := hf_2911.ln (mem_old hm_2805) hn_2807
  have hm_2926 : q_2857 ∈ hL S_2909 := hf_2911.mem mem_new
  have hk_2927 : Kd S_2909 q_2857 1 := hf_2911.kd mem_new (kd_nO' (k := 1))
  have hm_2928 : q_295 ∈ hL S_2909 := hf_2911.mem (mem_old hm_2811)
  have hk_2929 : Kd S_2909 q_295 14 := hf_2911.kd (mem_old hm_2811) (kd_nO (k := 1) hq_2858 hm_2811 hk_2812)
  have hn_2930 : Ln S_2909 q_295 16 := hf_2911.ln (mem_old hm_2811) hn_2813
  have hm_2931 : q_524 ∈ hL S_2909 := hf_2911.mem (mem_old hm_2815)
  have hk_2932 : Kd S_2909 q_524 18 := hf_2911.kd (mem_old hm_2815) (kd_nO (k := 1) hq_2858 hm_2815 hk_2816)
  have hn_2933 : Ln S_2909 q_524 3 := hf_2911.ln (mem_old hm_2815) hn_2817
  have hm_2934 : q_565 ∈ hL S_2909 := hf_2911.mem (mem_old hm_2819)
  have hk_2935 : Kd S_2909 q_565 19 := hf_2911.kd (mem_old hm_2819) (kd_nO (k := 1) hq_2858 hm_2819 hk_2820)
  have hn_2936 : Ln S_2909 q_565 4 := hf_2911.ln (mem_old hm_2819) hn_2821
  have hm_2937 : q_610 ∈ hL S_2909 := hf_2911.mem (mem_old hm_2823)
  have hk_2938 : Kd S_2909 q_610 14 := hf_2911.kd (mem_old hm_2823) (kd_nO (k := 1) hq_2858 hm_2823 hk_2824)
  have hn_2939 : Ln S_2909 q_610 12 := hf_2911.ln (mem_old hm_2823) hn_2825
  have hv_2940 : hR S_2909 900 h = (some s0) := hf_2911.fr (mem_old hm_2799) (fun q9 => (fun e9 => absurd (((kd_nO (k := 1) hq_2858 hm_2799 hk_2800)).symm.trans ((congrArg (hK _) e9).trans (kd_nO' (k := 1)))) (by decide)) q9) (rd_nOR (k := 1) hq_2858 hm_2799 hv_2832)
  have hv_2941 : hR S_2909 901 h = (some q_1) := hf_2911.fr (mem_old hm_2799) (fun q9 => (fun e9 => absurd (((kd_nO (k := 1) hq_2858 hm_2799 hk_2800)).symm.trans ((congrArg (hK _) e9).trans (kd_nO' (k := 1)))) (by decide)) q9) (rd_nOR (k := 1) hq_2858 hm_2799 hv_2833)
  have hv_2942 : hR S_2909 902 h = (some q_41) := hf_2911.fr (mem_old hm_2799) (fun q9 => (fun e9 => absurd (((kd_nO (k := 1) hq_2858 hm_2799 hk_2800)).symm.trans ((congrArg (hK _) e9).trans (kd_nO' (k := 1)))) (by decide)) q9) (rd_nOR (k := 1) hq_2858 hm_2799 hv_2834)
  have hv_2943 : hR S_2909 903 h = (some q_126) := hf_2911.fr (mem_old hm_2799) (fun q9 => (fun e9 => absurd (((kd_nO (k := 1) hq_2858 hm_2799 hk_2800)).symm.trans ((congrArg (hK _) e9).trans (kd_nO' (k := 1)))) (by decide)) q9) (rd_nOR (k := 1) hq_2858 hm_2799 hv_2835)
  have hv_2944 : hR S_2909 904 h = (some q_161) := hf_2911.fr (mem_old hm_2799) (fun q9 => (fun e9 => absurd (((kd_nO (k := 1) hq_2858 hm_2799 hk_2800)).symm.trans ((congrArg (hK _) e9).trans (kd_nO' (k := 1)))) (by decide)) q9) (rd_nOR (k := 1) hq_2858 hm_2799 hv_2836)
  have hv_2945 : hR S_2909 905 h = (some q_183) := hf_2911.fr (mem_old hm_2799) (fun q9 => (fun e9 => absurd (((kd_nO (k := 1) hq_2858 hm_2799 hk_2800)).symm.trans ((congrArg (hK _) e9).trans (kd_nO' (k := 1)))) (by decide)) q9) (rd_nOR (k := 1) hq_2858 hm_2799 hv_2837)
  have hv_2946 : hR S_2909 906 h = (some q_224) := hf_2911.fr (mem_old hm_2799) (fun q9 => (fun e9 => absurd (((kd_nO (k := 1) hq_2858 hm_2799 hk_2800)).symm.trans ((congrArg (hK _) e9).trans (kd_nO' (k := 1)))) (by decide)) q9) (rd_nOR (k := 1) hq_2858 hm_2799 hv_2838)
  have hv_2947 : hR S_2909 907 h = (some q_266) := hf_2911.fr (mem_old hm_2799) (fun q9 => (fun e9 => absurd (((kd_nO (k := 1) hq_2858 hm_2799 hk_2800)).symm.trans ((congrArg (hK _) e9).trans (kd_nO' (k := 1)))) (by decide)) q9) (rd_nOR (k := 1) hq_2858 hm_2799 hv_2839)
  have hv_2948 : hR S_2909 908 h = (some q_295) := hf_2911.fr (mem_old hm_2799) (fun q9 => (fun e9 => absurd (((kd_nO (k := 1) hq_2858 hm_2799 hk_2800)).symm.trans ((congrArg (hK _) e9).trans (kd_nO' (k := 1)))) (by decide)) q9) (rd_nOR (k := 1) hq_2858 hm_2799 hv_2840)
  have hv_2949 : hR S_2909 909 h = (some q_328) := hf_2911.fr (mem_old hm_2799) (fun q9 => (fun e9 => absurd (((kd_nO (k := 1) hq_2858 hm_2799 hk_2800)).symm.trans ((congrArg (hK _) e9).trans (kd_nO' (k := 1)))) (by decide)) q9) (rd_nOR (k := 1) hq_2858 hm_2799 hv_2841)
  have hv_2950 : hR S_2909 910 h = (some q_425) := hf_2911.fr (mem_old hm_2799) (fun q9 => (fun e9 => absurd (((kd_nO (k := 1) hq_2858 hm_2799 hk_2800)).symm.trans ((congrArg (hK _) e9).trans (kd_nO' (k := 1)))) (by decide)) q9) (rd_nOR (k := 1) hq_2858 hm_2799 hv_2842)
  have hv_2951 : hR S_2909 911 h = (some q_524) := hf_2911.fr (mem_old hm_2799) (fun q9 => (fun e9 => absurd (((kd_nO (k := 1) hq_2858 hm_2799 hk_2800)).symm.trans ((congrArg (hK _) e9).trans (kd_nO' (k := 1)))) (by decide)) q9) (rd_nOR (k := 1) hq_2858 hm_2799 hv_2843)
  have hv_2952 : hR S_2909 912 h = (some q_565) := hf_2911.fr (mem_old hm_2799) (fun q9 => (fun e9 => absurd (((kd_nO (k := 1) hq_2858 hm_2799 hk_2800)).symm.trans ((congrArg (hK _) e9).trans (kd_nO' (k := 1)))) (by decide)) q9) (rd_nOR (k := 1) hq_2858 hm_2799 hv_2844)
  have hv_2953 : hR S_2909 917 h = (some q_610) := hf_2911.fr (mem_old hm_2799) (fun q9 => (fun e9 => absurd (((kd_nO (k := 1) hq_2858 hm_2799 hk_2800)).symm.trans ((congrArg (hK _) e9).trans (kd_nO' (k := 1)))) (by decide)) q9) (rd_nOR (k := 1) hq_2858 hm_2799 hv_2845)
  have hf_2954 : Fm (fun _ _ => False) (fun f9 b9 => b9 = h) (fun _ => False) S S_2909 := hf_2861.then hf_2911 (fun a9 ha9 => ⟨(fun f9 h9 => h9.elim), (fun f9 h9 => (fun h8 => absurd (h8 ▸ ha9) hz_2859) h9), (fun h9 => h9.elim)⟩)
  have hN_2955 : NL S (L_2853 ++ [q_2857]) S_2909 := NL.mono (show NL S (L_2853 ++ [q_2857]) (nO S_2796 q_2857 1) from NL.nO hN_2851 hq_2858 hz_2859) (fun a9 h9 => hf_2911.mem h9)
  have hG_2956 : Gs h gs_2855 S_2909 := Gs.fm (show Gs h gs_2855 (nO S_2796 q_2857 1) from Gs.nO hG_2852 hq_2858) hf_2911 (fun g9 hg9 p9 hp9 => gn_2860 g9 hg9 p9 hp9)
  have hE_2957 : ELs S_2909 q_161 [q_661, q_784, q_914, q_1038, q_1162, q_1292, q_1416, q_1540, q_1670, q_1794, q_1918, q_2048, q_2172, q_2296, q_2426, q_2550] := ELs.fm (ELs.nO (S := S_2796) hE_2849) hf_2911 (mem_old hm_2801) (fun h9 => h9)
  have hE_2958 : ELs S_2909 q_524 [q_2680] := ELs.fm (ELs.nO (S := S_2796) hE_2850) hf_2911 (mem_old hm_2815) (fun h9 => h9)
  have hz_2959 : q_2862 ∉ hL S := fun h9 => e_2870 (hf_2861.mem h9)
  have hz_2960 : q_2863 ∉ hL S := fun h9 => e_2874 (hf_2861.mem h9)
  have hz_2961 : q_2864 ∉ hL S := fun h9 => e_2879 (hf_2861.mem h9)
  have hz_2962 : q_2865 ∉ hL S := fun h9 => e_2883 (hf_2861.mem h9)
  have hz_2963 : q_2866 ∉ hL S := fun h9 => e_2888 (hf_2861.mem h9)
  have hz_2964 : q_2867 ∉ hL S := fun h9 => e_2892 (hf_2861.mem h9)
  have hz_2965 : q_2868 ∉ hL S := fun h9 => e_2897 (hf_2861.mem h9)
  have hz_2966 : q_2869 ∉ hL S := fun h9 => e_2902 (hf_2861.mem h9)
  have hN_2967 : NL S ((L_2853 ++ [q_2857]) ++ [q_2862, q_2863, q_2864, q_2865, q_2866, q_2867, q_2868, q_2869]) S_2909 := NL.app (show NL S (L_2853 ++ [q_2857]) (nO S_2796 q_2857 1) from NL.nO hN_2851 hq_2858 hz_2859) hNl_2907 (fun a9 h9 => hf_2911.mem h9) (fun a9 h9 => hf_2861.mem h9)
  obtain ⟨L_2968, eL_2969⟩ : ∃ L9 : List Nat, L9 = ((L_2853 ++ [q_2857]) ++ [q_2862, q_2863, q_2864, q_2865, q_2866, q_2867, q_2868, q_2869]) := ⟨_, rfl⟩
  rw [← eL_2969] at hN_2967
  have hGt_2970 : Gt 2 [q_2857, q_2862, q_2863, q_2864, q_2865, q_2866, q_2867, q_2868, q_2869] S_2909 := ⟨fun i9 k9 h9 => (match i9, h9 with | 0, h9 => (by have e9 : (1 : Nat) = k9 := Option.some.inj h9; subst e9; exact ⟨hm_2926, hk_2927⟩) | 1, h9 => (by have e9 : (7 : Nat) = k9 := Option.some.inj h9; subst e9; exact ⟨e_2871, e_2872⟩) | 2, h9 => (by have e9 : (14 : Nat) = k9 := Option.some.inj h9; subst e9; exact ⟨e_2875, e_2876⟩) | 3, h9 => (by have e9 : (4 : Nat) = k9 := Option.some.inj h9; subst e9; exact ⟨e_2880, e_2881⟩) | 4, h9 => (by have e9 : (14 : Nat) = k9 := Option.some.inj h9; subst e9; exact ⟨e_2884, e_2885⟩) | 5, h9 => (by have e9 : (10 : Nat) = k9 := Option.some.inj h9; subst e9; exact ⟨e_2889, e_2890⟩) | 6, h9 => (by have e9 : (15 : Nat) = k9 := Option.some.inj h9; subst e9; exact ⟨e_2893, e_2894⟩) | 7, h9 => (by have e9 : (14 : Nat) = k9 := Option.some.inj h9; subst e9; exact ⟨e_2898, e_2899⟩) | 8, h9 => (by have e9 : (14 : Nat) = k9 := Option.some.inj h9; subst e9; exact ⟨e_2903, e_2904⟩) | i9 + 9, h9 => absurd h9 (by simp [gT])), (List.forall_mem_cons.mpr ⟨e_2877, (List.forall_mem_cons.mpr ⟨e_2886, (List.forall_mem_cons.mpr ⟨e_2895, (List.forall_mem_cons.mpr ⟨e_2900, (List.forall_mem_cons.mpr ⟨e_2905, (fun _ h9 => absurd h9 List.not_mem_nil)⟩)⟩)⟩)⟩)⟩), (List.forall_mem_cons.mpr ⟨e_2873, (List.forall_mem_cons.mpr ⟨e_2878, (List.forall_mem_cons.mpr ⟨e_2882, (List.forall_mem_cons.mpr ⟨e_2887, (List.forall_mem_cons.mpr ⟨e_2891, (List.forall_mem_cons.mpr ⟨e_2896, (List.forall_mem_cons.mpr ⟨e_2901, (List.forall_mem_cons.mpr ⟨e_2906, (fun _ h9 => absurd h9 List.not_mem_nil)⟩)⟩)⟩)⟩)⟩)⟩)⟩)⟩), (fun _ h9 => absurd h9 List.not_mem_nil)⟩
  have hG_2971 : Gs h (gs_2855 ++ [(2, [q_2857, q_2862, q_2863, q_2864, q_2865, q_2866, q_2867, q_2868, q_2869])]) S_2909 := Gs.snoc hG_2956 (by decide) hGt_2970 (List.forall_mem_cons.mpr ⟨(own_ne hz_2859 hm0_9), (List.forall_mem_cons.mpr ⟨(own_ne hz_2959 hm0_9), (List.forall_mem_cons.mpr ⟨(own_ne hz_2859 hm0_9), (List.forall_mem_cons.mpr ⟨(own_ne hz_2961 hm0_9), (List.forall_mem_cons.mpr ⟨(own_ne hz_2859 hm0_9), (List.forall_mem_cons.mpr ⟨(own_ne hz_2963 hm0_9), (List.forall_mem_cons.mpr ⟨(own_ne hz_2859 hm0_9), (List.forall_mem_cons.mpr ⟨(own_ne hz_2859 hm0_9), (fun _ h9 => absurd h9 List.not_mem_nil)⟩)⟩)⟩)⟩)⟩)⟩)⟩)⟩)
  obtain ⟨gs_2972, eG_2973⟩ : ∃ G9 : List (Nat × List Nat), G9 = gs_2855 ++ [(2, [q_2857, q_2862, q_2863, q_2864, q_2865, q_2866, q_2867, q_2868, q_2869])] := ⟨_, rfl⟩
  rw [← eG_2973] at hG_2971
  refine j_aast (j := 1) (ci := 1) C 18  (by decide) rfl dX9_init_189 hm_2931 hk_2932 (inr_of (n := 3) hn_2933 (vp_lit (by decide))) (by decide) hm_2926 hk_2927 rfl ?_
  have hf_2976 : Fm (fun _ _ => False) (fun f9 b9 => b9 = h) (fun _ => False) S (tR S_2909 q_524 1 (some q_2857)) := (hf_2954.tR _ _ (fun h9 => absurd h9 hz_527))
  obtain ⟨S_2974, eS_2975⟩ : ∃ S9 : Hp, S9 = (tR S_2909 q_524 1 (some q_2857)) := ⟨_, rfl⟩
  refine J.eq (S' := S_2974) eS_2975.symm rfl rfl ?_
  have hm_2977 : h ∈ hL S_2974 := by rw [eS_2975]; exact hm_2918
  have hk_2978 : Kd S_2974 h 9 := by rw [eS_2975]; exact hk_2919
  have hm_2979 : q_161 ∈ hL S_2974 := by rw [eS_2975]; exact hm_2920
  have hk_2980 : Kd S_2974 q_161 20 := by rw [eS_2975]; exact hk_2921
  have hn_2981 : Ln S_2974 q_161 16 := by rw [eS_2975]; exact hn_2922
  have hz_2982 : ∀ j, aI S_2974 q_161 j = 0 := by rw [eS_2975]; exact hz_2912
  have hm_2983 : q_266 ∈ hL S_2974 := by rw [eS_2975]; exact hm_2923
  have hk_2984 : Kd S_2974 q_266 13 := by rw [eS_2975]; exact hk_2924
  have hn_2985 : Ln S_2974 q_266 24000 := by rw [eS_2975]; exact hn_2925
  have hz_2986 : ∀ j, aI S_2974 q_266 j = 0 := by rw [eS_2975]; exact hz_2913
  have hm_2987 : q_2857 ∈ hL S_2974 := by rw [eS_2975]; exact hm_2926
  have hk_2988 : Kd S_2974 q_2857 1 := by rw [eS_2975]; exact hk_2927
  have hm_2989 : q_295 ∈ hL S_2974 := by rw [eS_2975]; exact hm_2928
  have hk_2990 : Kd S_2974 q_295 14 := by rw [eS_2975]; exact hk_2929
  have hn_2991 : Ln S_2974 q_295 16 := by rw [eS_2975]; exact hn_2930
  have hz_2992 : ∀ j, aI S_2974 q_295 j = 0 := by rw [eS_2975]; exact hz_2914
  have hm_2993 : q_524 ∈ hL S_2974 := by rw [eS_2975]; exact hm_2931
  have hk_2994 : Kd S_2974 q_524 18 := by rw [eS_2975]; exact hk_2932
  have hn_2995 : Ln S_2974 q_524 3 := by rw [eS_2975]; exact hn_2933
  have hz_2996 : ∀ j, aI S_2974 q_524 j = 0 := by rw [eS_2975]; exact hz_2915
  have hm_2997 : q_565 ∈ hL S_2974 := by rw [eS_2975]; exact hm_2934
  have hk_2998 : Kd S_2974 q_565 19 := by rw [eS_2975]; exact hk_2935
  have hn_2999 : Ln S_2974 q_565 4 := by rw [eS_2975]; exact hn_2936
  have hz_3000 : ∀ j, aI S_2974 q_565 j = 0 := by rw [eS_2975]; exact hz_2916
  have hm_3001 : q_610 ∈ hL S_2974 := by rw [eS_2975]; exact hm_2937
  have hk_3002 : Kd S_2974 q_610 14 := by rw [eS_2975]; exact hk_2938
  have hn_3003 : Ln S_2974 q_610 12 := by rw [eS_2975]; exact hn_2939
  have hz_3004 : ∀ j, aI S_2974 q_610 j = 0 := by rw [eS_2975]; exact hz_2917
  have hv_3005 : hR S_2974 100 q_2857 = (some q_2862) := by rw [eS_2975]; exact e_2873
  have hv_3006 : hR S_2974 101 q_2857 = (some q_2864) := by rw [eS_2975]; exact e_2882
  have hv_3007 : hR S_2974 102 q_2857 = (some q_2866) := by rw [eS_2975]; exact e_2891
  have hv_3008 : hR S_2974 103 q_2857 = (some q_2868) := by rw [eS_2975]; exact e_2901
  have hv_3009 : hR S_2974 104 q_2857 = (some q_2869) := by rw [eS_2975]; exact e_2906
  have hv_3010 : hR S_2974 900 h = (some s0) := by rw [eS_2975]; exact hv_2940
  have hv_3011 : hR S_2974 901 h = (some q_1) := by rw [eS_2975]; exact hv_2941
  have hv_3012 : hR S_2974 902 h = (some q_41) := by rw [eS_2975]; exact hv_2942
  have hv_3013 : hR S_2974 903 h = (some q_126) := by rw [eS_2975]; exact hv_2943
  have hv_3014 : hR S_2974 904 h = (some q_161) := by rw [eS_2975]; exact hv_2944
  have hv_3015 : hR S_2974 905 h = (some q_183) := by rw [eS_2975]; exact hv_2945
  have hv_3016 : hR S_2974 906 h = (some q_224) := by rw [eS_2975]; exact hv_2946
  have hv_3017 : hR S_2974 907 h = (some q_266) := by rw [eS_2975]; exact hv_2947
  have hv_3018 : hR S_2974 908 h = (some q_295) := by rw [eS_2975]; exact hv_2948
  have hv_3019 : hR S_2974 909 h = (some q_328) := by rw [eS_2975]; exact hv_2949
  have hv_3020 : hR S_2974 910 h = (some q_425) := by rw [eS_2975]; exact hv_2950
  have hv_3021 : hR S_2974 911 h = (some q_524) := by rw [eS_2975]; exact hv_2951
  have hv_3022 : hR S_2974 912 h = (some q_565) := by rw [eS_2975]; exact hv_2952
  have hv_3023 : hR S_2974 917 h = (some q_610) := by rw [eS_2975]; exact hv_2953
  have hf_3024 : Fm (fun _ _ => False) (fun f9 b9 => b9 = h) (fun _ => False) S S_2974 := by rw [eS_2975]; exact hf_2976
  have hN_3025 : NL S L_2968 S_2974 := by rw [eS_2975]; exact (NL.tR (S := S_2909) hN_2967)
  have hG_3026 : Gs h gs_2972 S_2974 := by rw [eS_2975]; exact (Gs.tR (S := S_2909) hG_2971)
  have hE_3027 : ELs S_2974 q_161 [q_661, q_784, q_914, q_1038, q_1162, q_1292, q_1416, q_1540, q_1670, q_1794, q_1918, q_2048, q_2172, q_2296, q_2426, q_2550] := by rw [eS_2975]; exact (ELs.tRx (S := S_2909) (fun e9 => absurd ((hk_2921).symm.trans ((congrArg (hK _) e9).trans hk_2932)) (by decide)) hE_2957)
  have hE_3028 : ELs S_2974 q_524 [q_2680, q_2857] := by rw [eS_2975]; exact (show ELs (tR S_2909 q_524 1 (some q_2857)) q_524 [q_2680, q_2857] from ELs.snoc hE_2958 rfl)
  refine j_iinc (q := 0) (v := 2) (lv' := [(2, .int 2), (0, .ref h), (1, .ref s0)]) C dX9_init_190 rfl (by decide) (by rw [hn9]; decide) rfl ?_
  refine j_goto (tgt := 168) C dX9_init_193 (by decide) ?_
  exact x9_t8 (q_1 := q_1) (q_5 := q_5) (q_6 := q_6) (q_41 := q_41) (q_47 := q_47) (q_48 := q_48) (q_49 := q_49) (q_50 := q_50) (q_51 := q_51) (q_52 := q_52) (q_53 := q_53) (q_54 := q_54) (q_126 := q_126) (q_132 := q_132) (q_161 := q_161) (q_183 := q_183) (q_188 := q_188) (q_224 := q_224) (q_230 := q_230) (q_266 := q_266) (q_295 := q_295) (q_328 := q_328) (q_333 := q_333) (q_334 := q_334) (q_335 := q_335) (q_336 := q_336) (q_337 := q_337) (q_338 := q_338) (q_339 := q_339) (q_340 := q_340) (q_425 := q_425) (q_431 := q_431) (q_432 := q_432) (q_433 := q_433) (q_434 := q_434) (q_435 := q_435) (q_436 := q_436) (q_437 := q_437) (q_438 := q_438) (q_524 := q_524) (q_565 := q_565) (q_610 := q_610) (q_661 := q_661) (q_666 := q_666) (q_784 := q_784) (q_789 := q_789) (q_914 := q_914) (q_919 := q_919) (q_1038 := q_1038) (q_1043 := q_1043) (q_1162 := q_1162) (q_1167 := q_1167) (q_1292 := q_1292) (q_1297 := q_1297) (q_1416 := q_1416) (q_1421 := q_1421) (q_1540 := q_1540) (q_1545 := q_1545) (q_1670 := q_1670) (q_1675 := q_1675) (q_1794 := q_1794) (q_1799 := q_1799) (q_1918 := q_1918) (q_1923 := q_1923) (q_2048 := q_2048) (q_2053 := q_2053) (q_2172 := q_2172) (q_2177 := q_2177) (q_2296 := q_2296) (q_2301 := q_2301) (q_2426 := q_2426) (q_2431 := q_2431) (q_2550 := q_2550) (q_2555 := q_2555) (q_2680 := q_2680) (q_2685 := q_2685) (q_2686 := q_2686) (q_2687 := q_2687) (q_2688 := q_2688) (q_2689 := q_2689) (q_2690 := q_2690) (q_2691 := q_2691) (q_2692 := q_2692) (q_2857 := q_2857) (q_2862 := q_2862) (q_2863 := q_2863) (q_2864 := q_2864) (q_2865 := q_2865) (q_2866 := q_2866) (q_2867 := q_2867) (q_2868 := q_2868) (q_2869 := q_2869) hn9 C M hm9 hm0_9 hz_164 hz_269 hz_297 hz_527 hz_567 hz_612 hm_2977 hk_2978 hm_2979 hk_2980 hn_2981 hz_2982 hm_2983 hk_2984 hn_2985 hz_2986 hm_2989 hk_2990 hn_2991 hz_2992 hm_2993 hk_2994 hn_2995 hz_2996 hm_2997 hk_2998 hn_2999 hz_3000 hm_3001 hk_3002 hn_3003 hz_3004 hv_3010 hv_3011 hv_3012 hv_3013 hv_3014 hv_3015 hv_3016 hv_3017 hv_3018 hv_3019 hv_3020 hv_3021 hv_3022 hv_3023 (by have h9 := hN_3025; rw [eL_2969, eL_2854] at h9; simpa only [List.nil_append, List.cons_append, List.append_assoc] using h9) (by have h9 := hG_3026; rw [eG_2973, eG_2856] at h9; simpa only [List.nil_append, List.cons_append, List.append_assoc] using h9) hE_3027 hE_3028 hf_3024

set_option maxRecDepth 100000 in
set_option maxHeartbeats 8000000 in
theorem x9_t6 {x : JX} {S S_2622 : Hp} {h s0 q_1 q_5 q_6 q_41 q_47 q_48 q_49 q_50 q_51 q_52 q_53 q_54 q_126 q_132 q_161 q_183 q_188 q_224 q_230 q_266 q_295 q_328 q_333 q_334 q_335 q_336 q_337 q_338 q_339 q_340 q_425 q_431 q_432 q_433 q_434 q_435 q_436 q_437 q_438 q_524 q_565 q_610 q_661 q_666 q_784 q_789 q_914 q_919 q_1038 q_1043 q_1162 q_1167 q_1292 q_1297 q_1416 q_1421 q_1540 q_1545 q_1670 q_1675 q_1794 q_1799 q_1918 q_1923 q_2048 q_2053 q_2172 q_2177 q_2296 q_2301 q_2426 q_2431 q_2550 q_2555 : Nat} (hn9 : x_n x = 3) (C : CB x RX9 cX9_init) (M : CM x 4 113 68424 none S (fun r S' => r = none ∧ Fm (fun _ _ => False) (fun f9 b9 => b9 = h) (fun _ => False) S S' ∧ hR S' 900 h = some s0 ∧ ∃ l : List Nat, Wt s9K s9N s9P s9Q (fun i => (h :: l).getD i 0) S' ∧ l.length = 105 ∧ NL S l S' ∧ (∀ j, aI S' ((h :: l).getD 6 0) j = 0) ∧ (∀ j, aI S' ((h :: l).getD 9 0) j = 0) ∧ (∀ j, aI S' ((h :: l).getD 14 0) j = 0) ∧ (∀ j, aI S' ((h :: l).getD 19 0) j = 0))) (hm9 : (x_meth x).name = yX9_init.name) (hm0_9 : h ∈ hL S) (hz_164 : q_161 ∉ hL S) (hz_269 : q_266 ∉ hL S) (hz_297 : q_295 ∉ hL S) (hz_527 : q_524 ∉ hL S) (hz_567 : q_565 ∉ hL S) (hz_612 : q_610 ∉ hL S) (hm_2625 : h ∈ hL S_2622) (hk_2626 : Kd S_2622 h 9) (hm_2627 : q_161 ∈ hL S_2622) (hk_2628 : Kd S_2622 q_161 20) (hn_2629 : Ln S_2622 q_161 16) (hz_2630 : ∀ j, aI S_2622 q_161 j = 0) (hm_2633 : q_266 ∈ hL S_2622) (hk_2634 : Kd S_2622 q_266 13) (hn_2635 : Ln S_2622 q_266 24000) (hz_2636 : ∀ j, aI S_2622 q_266 j = 0) (hm_2637 : q_295 ∈ hL S_2622) (hk_2638 : Kd S_2622 q_295 14) (hn_2639 : Ln S_2622 q_295 16) (hz_2640 : ∀ j, aI S_2622 q_295 j = 0) (hm_2641 : q_524 ∈ hL S_2622) (hk_2642 : Kd S_2622 q_524 18) (hn_2643 : Ln S_2622 q_524 3) (hz_2644 : ∀ j, aI S_2622 q_524 j = 0) (hm_2645 : q_565 ∈ hL S_2622) (hk_2646 : Kd S_2622 q_565 19) (hn_2647 : Ln S_2622 q_565 4) (hz_2648 : ∀ j, aI S_2622 q_565 j = 0) (hm_2649 : q_610 ∈ hL S_2622) (hk_2650 : Kd S_2622 q_610 14) (hn_2651 : Ln S_2622 q_610 12) (hz_2652 : ∀ j, aI S_2622 q_610 j = 0) (hv_2656 : hR S_2622 900 h = (some s0)) (hv_2657 : hR S_2622 901 h = (some q_1)) (hv_2658 : hR S_2622 902 h = (some q_41)) (hv_2659 : hR S_2622 903 h = (some q_126)) (hv_2660 : hR S_2622 904 h = (some q_161)) (hv_2661 : hR S_2622 905 h = (some q_183)) (hv_2662 : hR S_2622 906 h = (some q_224)) (hv_2663 : hR S_2622 907 h = (some q_266)) (hv_2664 : hR S_2622 908 h = (some q_295)) (hv_2665 : hR S_2622 909 h = (some q_328)) (hv_2666 : hR S_2622 910 h = (some q_425)) (hv_2667 : hR S_2622 911 h = (some q_524)) (hv_2668 : hR S_2622 912 h = (some q_565)) (hv_2669 : hR S_2622 917 h = (some q_610)) (hN_2674 : NL S [q_1, q_5, q_6, q_41, q_47, q_48, q_49, q_50, q_51, q_52, q_53, q_54, q_126, q_132, q_161, q_183, q_188, q_224, q_230, q_266, q_295, q_328, q_333, q_334, q_335, q_336, q_337, q_338, q_339, q_340, q_425, q_431, q_432, q_433, q_434, q_435, q_436, q_437, q_438, q_524, q_565, q_610, q_661, q_666, q_784, q_789, q_914, q_919, q_1038, q_1043, q_1162, q_1167, q_1292, q_1297, q_1416, q_1421, q_1540, q_1545, q_1670, q_1675, q_1794, q_1799, q_1918, q_1923, q_2048, q_2053, q_2172, q_2177, q_2296, q_2301, q_2426, q_2431, q_2550, q_2555] S_2622) (hG_2675 : Gs h [(3, [q_1, q_5, q_6]), (4, [q_41, q_47, q_48, q_49, q_50, q_51, q_52, q_53, q_54]), (0, [q_126, q_132]), (1, [q_183, q_188]), (0, [q_224, q_230]), (2, [q_328, q_333, q_334, q_335, q_336, q_337, q_338, q_339, q_340]), (2, [q_425, q_431, q_432, q_433, q_434, q_435, q_436, q_437, q_438]), (1, [q_661, q_666]), (1, [q_784, q_789]), (1, [q_914, q_919]), (1, [q_1038, q_1043]), (1, [q_1162, q_1167]), (1, [q_1292, q_1297]), (1, [q_1416, q_1421]), (1, [q_1540, q_1545]), (1, [q_1670, q_1675]), (1, [q_1794, q_1799]), (1, [q_1918, q_1923]), (1, [q_2048, q_2053]), (1, [q_2172, q_2177]), (1, [q_2296, q_2301]), (1, [q_2426, q_2431]), (1, [q_2550, q_2555])] S_2622) (hE_2673 : ELs S_2622 q_161 [q_661, q_784, q_914, q_1038, q_1162, q_1292, q_1416, q_1540, q_1670, q_1794, q_1918, q_2048, q_2172, q_2296, q_2426, q_2550]) (hf_2670 : Fm (fun _ _ => False) (fun f9 b9 => b9 = h) (fun _ => False) S S_2622) : J x (0 + 1 + 4 + 1 + 8 + 1 + 1 + 1 + 1 + 1 + 1 + 1 + 1 + 1 + 1 + 8 + 1 + 8 + 1 + 1 + 1 + 1 + 1 + 1 + 1 + 1 + 1 + 1 + 1 + 1 + 1 + 1 + 1 + 1 + 1 + 1 + 1 + 1 + 1 + 1 + 1 + 1 + 1 + 1 + 1 + 1 + 1 + 1 + 1 + 1 + 1 + 1 + 1) (0 + 15 + 20045 + 10 + 23174 + 1 + 16 + 16 + 4 + 16 + 1 + 16 + 24000 + 16 + 21 + 117 + 21 + 117 + 3 + 4 + 12 + 4 + 16 + 4 + 16 + 4 + 16 + 4 + 16 + 4 + 16 + 4 + 16 + 4 + 16 + 4 + 16 + 4 + 16 + 4 + 16 + 4 + 16 + 4 + 16 + 4 + 16 + 4 + 16 + 4 + 16 + 4 + 16) S_2622 [(2, .int 0), (0, .ref h), (1, .ref s0)] 168 [] := by
  obtain ⟨L_2676, eL_2677⟩ : ∃ L9 : List Nat, L9 = [q_1, q_5, q_6, q_41, q_47, q_48, q_49, q_50, q_51, q_52, q_53, q_54, q_126, q_132, q_161, q_183, q_188, q_224, q_230, q_266, q_295, q_328, q_333, q_334, q_335, q_336, q_337, q_338, q_339, q_340, q_425, q_431, q_432, q_433, q_434, q_435, q_436, q_437, q_438, q_524, q_565, q_610, q_661, q_666, q_784, q_789, q_914, q_919, q_1038, q_1043, q_1162, q_1167, q_1292, q_1297, q_1416, q_1421, q_1540, q_1545, q_1670, q_1675, q_1794, q_1799, q_1918, q_1923, q_2048, q_2053, q_2172, q_2177, q_2296, q_2301, q_2426, q_2431, q_2550, q_2555] := ⟨_, rfl⟩
  rw [← eL_2677] at hN_2674
  obtain ⟨gs_2678, eG_2679⟩ : ∃ G9 : List (Nat × List Nat), G9 = [(3, [q_1, q_5, q_6]), (4, [q_41, q_47, q_48, q_49, q_50, q_51, q_52, q_53, q_54]), (0, [q_126, q_132]), (1, [q_183, q_188]), (0, [q_224, q_230]), (2, [q_328, q_333, q_334, q_335, q_336, q_337, q_338, q_339, q_340]), (2, [q_425, q_431, q_432, q_433, q_434, q_435, q_436, q_437, q_438]), (1, [q_661, q_666]), (1, [q_784, q_789]), (1, [q_914, q_919]), (1, [q_1038, q_1043]), (1, [q_1162, q_1167]), (1, [q_1292, q_1297]), (1, [q_1416, q_1421]), (1, [q_1540, q_1545]), (1, [q_1670, q_1675]), (1, [q_1794, q_1799]), (1, [q_1918, q_1923]), (1, [q_2048, q_2053]), (1, [q_2172, q_2177]), (1, [q_2296, q_2301]), (1, [q_2426, q_2431]), (1, [q_2550, q_2555])] := ⟨_, rfl⟩
  rw [← eG_2679] at hG_2675
  refine j_iload_n C dX9_init_168 rfl 0 rfl ?_
  refine j_aload_n C dX9_init_169 rfl 1 rfl ?_
  refine j_getr (f := 911) (v := q_524) C flX9_64 dX9_init_170 hm_2625 hk_2626 (by decide) rfl hv_2667 ?_
  refine j_alen (v := 3) C dX9_init_173 hm_2641 hk_2642 (by decide) (by decide) (len_of (n := 3) hn_2643 (by decide)) ?_
  refine j_ic_ge (tgt := 196) C dX9_init_174 (by decide) (fun c9 => absurd c9 (by decide)) (fun c9 => ?_)
  refine j_aload_n C dX9_init_177 rfl 1 rfl ?_
  refine j_getr (f := 911) (v := q_524) C flX9_64 dX9_init_178 hm_2625 hk_2626 (by decide) rfl hv_2667 ?_
  show J _ _ _ _ _ 181 _
  refine j_iload_n C dX9_init_181 rfl 0 rfl ?_
  refine j_new (N := 21) C (ci := 1) rfl rfl klX9_54 knX1 kiX1 (M.cells (by decide)) (M.slots (by decide)) dX9_init_182 (fun q_2680 hq_2681 => ?_)
  have hz_2682 : q_2680 ∉ hL S := fun h9 => hq_2681 (hf_2670.mem h9)
  have gn_2683 : ∀ g9 ∈ gs_2678, ∀ p9 ∈ (gT g9.1).2.2, g9.2.getD p9.2.1 0 ≠ q_2680 := Gs.ne hG_2675 hq_2681
  refine j_dup C dX9_init_185 rfl ?_
  have hf_2684 : Fm (fun _ _ => False) (fun f9 b9 => b9 = h) (fun _ => False) S (nO S_2622 q_2680 1) := (hf_2670.nO _ hq_2681)
  refine j_callI C [] [.ref q_2680, .int 0, .ref q_524] mlX9_56 mcX1_init (c_X1_init (nO S_2622 q_2680 1) q_2680 mem_new (kd_nO' (k := 1))) (M.rm (by decide) (by decide) (Nat.le_of_ble_eq_true rfl) (Nat.le_of_ble_eq_true rfl)) rfl rfl (Nat.le_of_ble_eq_true rfl) dX9_init_186 (fun r_2731 S_2732 hp_2733 => ?_)
  obtain ⟨rfl, hf_2734, q_2685, q_2686, q_2687, q_2688, q_2689, q_2690, q_2691, q_2692, e_2693, e_2694, e_2695, e_2696, e_2697, e_2698, e_2699, e_2700, e_2701, e_2702, e_2703, e_2704, e_2705, e_2706, e_2707, e_2708, e_2709, e_2710, e_2711, e_2712, e_2713, e_2714, e_2715, e_2716, e_2717, e_2718, e_2719, e_2720, e_2721, e_2722, e_2723, e_2724, e_2725, e_2726, e_2727, e_2728, e_2729, hNl_2730⟩ := hp_2733
  refine J.eq (st' := [.ref q_2680, .int 0, .ref q_524]) rfl rfl rfl ?_
  have hz_2735 : ∀ j, aI S_2732 q_161 j = 0 := fun j9 => (hf_2734.ai (mem_old hm_2627) (fun h9 => h9) j9).trans (hz_2630 j9)
  have hz_2736 : ∀ j, aI S_2732 q_266 j = 0 := fun j9 => (hf_2734.ai (mem_old hm_2633) (fun h9 => h9) j9).trans (hz_2636 j9)
  have hz_2737 : ∀ j, aI S_2732 q_295 j = 0 := fun j9 => (hf_2734.ai (mem_old hm_2637) (fun h9 => h9) j9).trans (hz_2640 j9)
  have hz_2738 : ∀ j, aI S_2732 q_524 j = 0 := fun j9 => (hf_2734.ai (mem_old hm_2641) (fun h9 => h9) j9).trans (hz_2644 j9)
  have hz_2739 : ∀ j, aI S_2732 q_565 j = 0 := fun j9 => (hf_2734.ai (mem_old hm_2645) (fun h9 => h9) j9).trans (hz_2648 j9)
  have hz_2740 : ∀ j, aI S_2732 q_610 j = 0 := fun j9 => (hf_2734.ai (mem_old hm_2649) (fun h9 => h9) j9).trans (hz_2652 j9)
  have hm_2741 : h ∈ hL S_2732 := hf_2734.mem (mem_old hm_2625)
  have hk_2742 : Kd S_2732 h 9 := hf_2734.kd (mem_old hm_2625) (kd_nO (k := 1) hq_2681 hm_2625 hk_2626)
  have hm_2743 : q_161 ∈ hL S_2732 := hf_2734.mem (mem_old hm_2627)
  have hk_2744 : Kd S_2732 q_161 20 := hf_2734.kd (mem_old hm_2627) (kd_nO (k := 1) hq_2681 hm_2627 hk_2628)
  have hn_2745 : Ln S_2732 q_161 16 := hf_2734.ln (mem_old hm_2627) hn_2629
  have hm_2746 : q_266 ∈ hL S_2732 := hf_2734.mem (mem_old hm_2633)
  have hk_2747 : Kd S_2732 q_266 13 := hf_2734.kd (mem_old hm_2633) (kd_nO (k := 1) hq_2681 hm_2633 hk_2634)
  have hn_2748 : Ln S_2732 q_266 24000 := hf_2734.ln (mem_old hm_2633) hn_2635
  have hm_2749 : q_2680 ∈ hL S_2732 := hf_2734.mem mem_new
  have hk_2750 : Kd S_2732 q_2680 1 := hf_2734.kd mem_new (kd_nO' (k := 1))
  have hm_2751 : q_295 ∈ hL S_2732 := hf_2734.mem (mem_old hm_2637)
  have hk_2752 : Kd S_2732 q_295 14 := hf_2734.kd (mem_old hm_2637) (kd_nO (k := 1) hq_2681 hm_2637 hk_2638)
  have hn_2753 : Ln S_2732 q_295 16 := hf_2734.ln (mem_old hm_2637) hn_2639
  have hm_2754 : q_524 ∈ hL S_2732 := hf_2734.mem (mem_old hm_2641)
  have hk_2755 : Kd S_2732 q_524 18 := hf_2734.kd (mem_old hm_2641) (kd_nO (k := 1) hq_2681 hm_2641 hk_2642)
  have hn_2756 : Ln S_2732 q_524 3 := hf_2734.ln (mem_old hm_2641) hn_2643
  have hm_2757 : q_565 ∈ hL S_2732 := hf_2734.mem (mem_old hm_2645)
  have hk_2758 : Kd S_2732 q_565 19 := hf_2734.kd (mem_old hm_2645) (kd_nO (k := 1) hq_2681 hm_2645 hk_2646)
  have hn_2759 : Ln S_2732 q_565 4 := hf_2734.ln (mem_old hm_2645) hn_2647
  have hm_2760 : q_610 ∈ hL S_2732 := hf_2734.mem (mem_old hm_2649)
  have hk_2761 : Kd S_2732 q_610 14 := hf_2734.kd (mem_old hm_2649) (kd_nO (k := 1) hq_2681 hm_2649 hk_2650)
  have hn_2762 : Ln S_2732 q_610 12 := hf_2734.ln (mem_old hm_2649) hn_2651
  have hv_2763 : hR S_2732 900 h = (some s0) := hf_2734.fr (mem_old hm_2625) (fun q9 => (fun e9 => absurd (((kd_nO (k := 1) hq_2681 hm_2625 hk_2626)).symm.trans ((congrArg (hK _) e9).trans (kd_nO' (k := 1)))) (by decide)) q9) (rd_nOR (k := 1) hq_2681 hm_2625 hv_2656)
  have hv_2764 : hR S_2732 901 h = (some q_1) := hf_2734.fr (mem_old hm_2625) (fun q9 => (fun e9 => absurd (((kd_nO (k := 1) hq_2681 hm_2625 hk_2626)).symm.trans ((congrArg (hK _) e9).trans (kd_nO' (k := 1)))) (by decide)) q9) (rd_nOR (k := 1) hq_2681 hm_2625 hv_2657)
  have hv_2765 : hR S_2732 902 h = (some q_41) := hf_2734.fr (mem_old hm_2625) (fun q9 => (fun e9 => absurd (((kd_nO (k := 1) hq_2681 hm_2625 hk_2626)).symm.trans ((congrArg (hK _) e9).trans (kd_nO' (k := 1)))) (by decide)) q9) (rd_nOR (k := 1) hq_2681 hm_2625 hv_2658)
  have hv_2766 : hR S_2732 903 h = (some q_126) := hf_2734.fr (mem_old hm_2625) (fun q9 => (fun e9 => absurd (((kd_nO (k := 1) hq_2681 hm_2625 hk_2626)).symm.trans ((congrArg (hK _) e9).trans (kd_nO' (k := 1)))) (by decide)) q9) (rd_nOR (k := 1) hq_2681 hm_2625 hv_2659)
  have hv_2767 : hR S_2732 904 h = (some q_161) := hf_2734.fr (mem_old hm_2625) (fun q9 => (fun e9 => absurd (((kd_nO (k := 1) hq_2681 hm_2625 hk_2626)).symm.trans ((congrArg (hK _) e9).trans (kd_nO' (k := 1)))) (by decide)) q9) (rd_nOR (k := 1) hq_2681 hm_2625 hv_2660)
  have hv_2768 : hR S_2732 905 h = (some q_183) := hf_2734.fr (mem_old hm_2625) (fun q9 => (fun e9 => absurd (((kd_nO (k := 1) hq_2681 hm_2625 hk_2626)).symm.trans ((congrArg (hK _) e9).trans (kd_nO' (k := 1)))) (by decide)) q9) (rd_nOR (k := 1) hq_2681 hm_2625 hv_2661)
  have hv_2769 : hR S_2732 906 h = (some q_224) := hf_2734.fr (mem_old hm_2625) (fun q9 => (fun e9 => absurd (((kd_nO (k := 1) hq_2681 hm_2625 hk_2626)).symm.trans ((congrArg (hK _) e9).trans (kd_nO' (k := 1)))) (by decide)) q9) (rd_nOR (k := 1) hq_2681 hm_2625 hv_2662)
  have hv_2770 : hR S_2732 907 h = (some q_266) := hf_2734.fr (mem_old hm_2625) (fun q9 => (fun e9 => absurd (((kd_nO (k := 1) hq_2681 hm_2625 hk_2626)).symm.trans ((congrArg (hK _) e9).trans (kd_nO' (k := 1)))) (by decide)) q9) (rd_nOR (k := 1) hq_2681 hm_2625 hv_2663)
  have hv_2771 : hR S_2732 908 h = (some q_295) := hf_2734.fr (mem_old hm_2625) (fun q9 => (fun e9 => absurd (((kd_nO (k := 1) hq_2681 hm_2625 hk_2626)).symm.trans ((congrArg (hK _) e9).trans (kd_nO' (k := 1)))) (by decide)) q9) (rd_nOR (k := 1) hq_2681 hm_2625 hv_2664)
  have hv_2772 : hR S_2732 909 h = (some q_328) := hf_2734.fr (mem_old hm_2625) (fun q9 => (fun e9 => absurd (((kd_nO (k := 1) hq_2681 hm_2625 hk_2626)).symm.trans ((congrArg (hK _) e9).trans (kd_nO' (k := 1)))) (by decide)) q9) (rd_nOR (k := 1) hq_2681 hm_2625 hv_2665)
  have hv_2773 : hR S_2732 910 h = (some q_425) := hf_2734.fr (mem_old hm_2625) (fun q9 => (fun e9 => absurd (((kd_nO (k := 1) hq_2681 hm_2625 hk_2626)).symm.trans ((congrArg (hK _) e9).trans (kd_nO' (k := 1)))) (by decide)) q9) (rd_nOR (k := 1) hq_2681 hm_2625 hv_2666)
  have hv_2774 : hR S_2732 911 h = (some q_524) := hf_2734.fr (mem_old hm_2625) (fun q9 => (fun e9 => absurd (((kd_nO (k := 1) hq_2681 hm_2625 hk_2626)).symm.trans ((congrArg (hK _) e9).trans (kd_nO' (k := 1)))) (by decide)) q9) (rd_nOR (k := 1) hq_2681 hm_2625 hv_2667)
  have hv_2775 : hR S_2732 912 h = (some q_565) := hf_2734.fr (mem_old hm_2625) (fun q9 => (fun e9 => absurd (((kd_nO (k := 1) hq_2681 hm_2625 hk_2626)).symm.trans ((congrArg (hK _) e9).trans (kd_nO' (k := 1)))) (by decide)) q9) (rd_nOR (k := 1) hq_2681 hm_2625 hv_2668)
  have hv_2776 : hR S_2732 917 h = (some q_610) := hf_2734.fr (mem_old hm_2625) (fun q9 => (fun e9 => absurd (((kd_nO (k := 1) hq_2681 hm_2625 hk_2626)).symm.trans ((congrArg (hK _) e9).trans (kd_nO' (k := 1)))) (by decide)) q9) (rd_nOR (k := 1) hq_2681 hm_2625 hv_2669)
  have hf_2777 : Fm (fun _ _ => False) (fun f9 b9 => b9 = h) (fun _ => False) S S_2732 := hf_2684.then hf_2734 (fun a9 ha9 => ⟨(fun f9 h9 => h9.elim), (fun f9 h9 => (fun h8 => absurd (h8 ▸ ha9) hz_2682) h9), (fun h9 => h9.elim)⟩)
  have hN_2778 : NL S (L_2676 ++ [q_2680]) S_2732 := NL.mono (show NL S (L_2676 ++ [q_2680]) (nO S_2622 q_2680 1) from NL.nO hN_2674 hq_2681 hz_2682) (fun a9 h9 => hf_2734.mem h9)
  have hG_2779 : Gs h gs_2678 S_2732 := Gs.fm (show Gs h gs_2678 (nO S_2622 q_2680 1) from Gs.nO hG_2675 hq_2681) hf_2734 (fun g9 hg9 p9 hp9 => gn_2683 g9 hg9 p9 hp9)
  have hE_2780 : ELs S_2732 q_161 [q_661, q_784, q_914, q_1038, q_1162, q_1292, q_1416, q_1540, q_1670, q_1794, q_1918, q_2048, q_2172, q_2296, q_2426, q_2550] := ELs.fm (ELs.nO (S := S_2622) hE_2673) hf_2734 (mem_old hm_2627) (fun h9 => h9)
  have hz_2781 : q_2685 ∉ hL S := fun h9 => e_2693 (hf_2684.mem h9)
  have hz_2782 : q_2686 ∉ hL S := fun h9 => e_2697 (hf_2684.mem h9)
  have hz_2783 : q_2687 ∉ hL S := fun h9 => e_2702 (hf_2684.mem h9)
  have hz_2784 : q_2688 ∉ hL S := fun h9 => e_2706 (hf_2684.mem h9)
  have hz_2785 : q_2689 ∉ hL S := fun h9 => e_2711 (hf_2684.mem h9)
  have hz_2786 : q_2690 ∉ hL S := fun h9 => e_2715 (hf_2684.mem h9)
  have hz_2787 : q_2691 ∉ hL S := fun h9 => e_2720 (hf_2684.mem h9)
  have hz_2788 : q_2692 ∉ hL S := fun h9 => e_2725 (hf_2684.mem h9)
  have hN_2789 : NL S ((L_2676 ++ [q_2680]) ++ [q_2685, q_2686, q_2687, q_2688, q_2689, q_2690, q_2691, q_2692]) S_2732 := NL.app (show NL S (L_2676 ++ [q_2680]) (nO S_2622 q_2680 1) from NL.nO hN_2674 hq_2681 hz_2682) hNl_2730 (fun a9 h9 => hf_2734.mem h9) (fun a9 h9 => hf_2684.mem h9)
  obtain ⟨L_2790, eL_2791⟩ : ∃ L9 : List Nat, L9 = ((L_2676 ++ [q_2680]) ++ [q_2685, q_2686, q_2687, q_2688, q_2689, q_2690, q_2691, q_2692]) := ⟨_, rfl⟩
  rw [← eL_2791] at hN_2789
  have hGt_2792 : Gt 2 [q_2680, q_2685, q_2686, q_2687, q_2688, q_2689, q_2690, q_2691, q_2692] S_2732 := ⟨fun i9 k9 h9 => (match i9, h9 with | 0, h9 => (by have e9 : (1 : Nat) = k9 := Option.some.inj h9; subst e9; exact ⟨hm_2749, hk_2750⟩) | 1, h9 => (by have e9 : (7 : Nat) = k9 := Option.some.inj h9; subst e9; exact ⟨e_2694, e_2695⟩) | 2, h9 => (by have e9 : (14 : Nat) = k9 := Option.some.inj h9; subst e9; exact ⟨e_2698, e_2699⟩) | 3, h9 => (by have e9 : (4 : Nat) = k9 := Option.some.inj h9; subst e9; exact ⟨e_2703, e_2704⟩) | 4, h9 => (by have e9 : (14 : Nat) = k9 := Option.some.inj h9; subst e9; exact ⟨e_2707, e_2708⟩) | 5, h9 => (by have e9 : (10 : Nat) = k9 := Option.some.inj h9; subst e9; exact ⟨e_2712, e_2713⟩) | 6, h9 => (by have e9 : (15 : Nat) = k9 := Option.some.inj h9; subst e9; exact ⟨e_2716, e_2717⟩) | 7, h9 => (by have e9 : (14 : Nat) = k9 := Option.some.inj h9; subst e9; exact ⟨e_2721, e_2722⟩) | 8, h9 => (by have e9 : (14 : Nat) = k9 := Option.some.inj h9; subst e9; exact ⟨e_2726, e_2727⟩) | i9 + 9, h9 => absurd h9 (by simp [gT])), (List.forall_mem_cons.mpr ⟨e_2700, (List.forall_mem_cons.mpr ⟨e_2709, (List.forall_mem_cons.mpr ⟨e_2718, (List.forall_mem_cons.mpr ⟨e_2723, (List.forall_mem_cons.mpr ⟨e_2728, (fun _ h9 => absurd h9 List.not_mem_nil)⟩)⟩)⟩)⟩)⟩), (List.forall_mem_cons.mpr ⟨e_2696, (List.forall_mem_cons.mpr ⟨e_2701, (List.forall_mem_cons.mpr ⟨e_2705, (List.forall_mem_cons.mpr ⟨e_2710, (List.forall_mem_cons.mpr ⟨e_2714, (List.forall_mem_cons.mpr ⟨e_2719, (List.forall_mem_cons.mpr ⟨e_2724, (List.forall_mem_cons.mpr ⟨e_2729, (fun _ h9 => absurd h9 List.not_mem_nil)⟩)⟩)⟩)⟩)⟩)⟩)⟩)⟩), (fun _ h9 => absurd h9 List.not_mem_nil)⟩
  have hG_2793 : Gs h (gs_2678 ++ [(2, [q_2680, q_2685, q_2686, q_2687, q_2688, q_2689, q_2690, q_2691, q_2692])]) S_2732 := Gs.snoc hG_2779 (by decide) hGt_2792 (List.forall_mem_cons.mpr ⟨(own_ne hz_2682 hm0_9), (List.forall_mem_cons.mpr ⟨(own_ne hz_2781 hm0_9), (List.forall_mem_cons.mpr ⟨(own_ne hz_2682 hm0_9), (List.forall_mem_cons.mpr ⟨(own_ne hz_2783 hm0_9), (List.forall_mem_cons.mpr ⟨(own_ne hz_2682 hm0_9), (List.forall_mem_cons.mpr ⟨(own_ne hz_2785 hm0_9), (List.forall_mem_cons.mpr ⟨(own_ne hz_2682 hm0_9), (List.forall_mem_cons.mpr ⟨(own_ne hz_2682 hm0_9), (fun _ h9 => absurd h9 List.not_mem_nil)⟩)⟩)⟩)⟩)⟩)⟩)⟩)⟩)
  obtain ⟨gs_2794, eG_2795⟩ : ∃ G9 : List (Nat × List Nat), G9 = gs_2678 ++ [(2, [q_2680, q_2685, q_2686, q_2687, q_2688, q_2689, q_2690, q_2691, q_2692])] := ⟨_, rfl⟩
  rw [← eG_2795] at hG_2793
  refine j_aast (j := 0) (ci := 1) C 18  (by decide) rfl dX9_init_189 hm_2754 hk_2755 (inr_of (n := 3) hn_2756 (vp_lit (by decide))) (by decide) hm_2749 hk_2750 rfl ?_
  have hf_2798 : Fm (fun _ _ => False) (fun f9 b9 => b9 = h) (fun _ => False) S (tR S_2732 q_524 0 (some q_2680)) := (hf_2777.tR _ _ (fun h9 => absurd h9 hz_527))
  obtain ⟨S_2796, eS_2797⟩ : ∃ S9 : Hp, S9 = (tR S_2732 q_524 0 (some q_2680)) := ⟨_, rfl⟩
  refine J.eq (S' := S_2796) eS_2797.symm rfl rfl ?_
  have hm_2799 : h ∈ hL S_2796 := by rw [eS_2797]; exact hm_2741
  have hk_2800 : Kd S_2796 h 9 := by rw [eS_2797]; exact hk_2742
  have hm_2801 : q_161 ∈ hL S_2796 := by rw [eS_2797]; exact hm_2743
  have hk_2802 : Kd S_2796 q_161 20 := by rw [eS_2797]; exact hk_2744
  have hn_2803 : Ln S_2796 q_161 16 := by rw [eS_2797]; exact hn_2745
  have hz_2804 : ∀ j, aI S_2796 q_161 j = 0 := by rw [eS_2797]; exact hz_2735
  have hm_2805 : q_266 ∈ hL S_2796 := by rw [eS_2797]; exact hm_2746
  have hk_2806 : Kd S_2796 q_266 13 := by rw [eS_2797]; exact hk_2747
  have hn_2807 : Ln S_2796 q_266 24000 := by rw [eS_2797]; exact hn_2748
  have hz_2808 : ∀ j, aI S_2796 q_266 j = 0 := by rw [eS_2797]; exact hz_2736
  have hm_2809 : q_2680 ∈ hL S_2796 := by rw [eS_2797]; exact hm_2749
  have hk_2810 : Kd S_2796 q_2680 1 := by rw [eS_2797]; exact hk_2750
  have hm_2811 : q_295 ∈ hL S_2796 := by rw [eS_2797]; exact hm_2751
  have hk_2812 : Kd S_2796 q_295 14 := by rw [eS_2797]; exact hk_2752
  have hn_2813 : Ln S_2796 q_295 16 := by rw [eS_2797]; exact hn_2753
  have hz_2814 : ∀ j, aI S_2796 q_295 j = 0 := by rw [eS_2797]; exact hz_2737
  have hm_2815 : q_524 ∈ hL S_2796 := by rw [eS_2797]; exact hm_2754
  have hk_2816 : Kd S_2796 q_524 18 := by rw [eS_2797]; exact hk_2755
  have hn_2817 : Ln S_2796 q_524 3 := by rw [eS_2797]; exact hn_2756
  have hz_2818 : ∀ j, aI S_2796 q_524 j = 0 := by rw [eS_2797]; exact hz_2738
  have hm_2819 : q_565 ∈ hL S_2796 := by rw [eS_2797]; exact hm_2757
  have hk_2820 : Kd S_2796 q_565 19 := by rw [eS_2797]; exact hk_2758
  have hn_2821 : Ln S_2796 q_565 4 := by rw [eS_2797]; exact hn_2759
  have hz_2822 : ∀ j, aI S_2796 q_565 j = 0 := by rw [eS_2797]; exact hz_2739
  have hm_2823 : q_610 ∈ hL S_2796 := by rw [eS_2797]; exact hm_2760
  have hk_2824 : Kd S_2796 q_610 14 := by rw [eS_2797]; exact hk_2761
  have hn_2825 : Ln S_2796 q_610 12 := by rw [eS_2797]; exact hn_2762
  have hz_2826 : ∀ j, aI S_2796 q_610 j = 0 := by rw [eS_2797]; exact hz_2740
  have hv_2827 : hR S_2796 100 q_2680 = (some q_2685) := by rw [eS_2797]; exact e_2696
  have hv_2828 : hR S_2796 101 q_2680 = (some q_2687) := by rw [eS_2797]; exact e_2705
  have hv_2829 : hR S_2796 102 q_2680 = (some q_2689) := by rw [eS_2797]; exact e_2714
  have hv_2830 : hR S_2796 103 q_2680 = (some q_2691) := by rw [eS_2797]; exact e_2724
  have hv_2831 : hR S_2796 104 q_2680 = (some q_2692) := by rw [eS_2797]; exact e_2729
  have hv_2832 : hR S_2796 900 h = (some s0) := by rw [eS_2797]; exact hv_2763
  have hv_2833 : hR S_2796 901 h = (some q_1) := by rw [eS_2797]; exact hv_2764
  have hv_2834 : hR S_2796 902 h = (some q_41) := by rw [eS_2797]; exact hv_2765
  have hv_2835 : hR S_2796 903 h = (some q_126) := by rw [eS_2797]; exact hv_2766
  have hv_2836 : hR S_2796 904 h = (some q_161) := by rw [eS_2797]; exact hv_2767
  have hv_2837 : hR S_2796 905 h = (some q_183) := by rw [eS_2797]; exact hv_2768
  have hv_2838 : hR S_2796 906 h = (some q_224) := by rw [eS_2797]; exact hv_2769
  have hv_2839 : hR S_2796 907 h = (some q_266) := by rw [eS_2797]; exact hv_2770
  have hv_2840 : hR S_2796 908 h = (some q_295) := by rw [eS_2797]; exact hv_2771
  have hv_2841 : hR S_2796 909 h = (some q_328) := by rw [eS_2797]; exact hv_2772
  have hv_2842 : hR S_2796 910 h = (some q_425) := by rw [eS_2797]; exact hv_2773
  have hv_2843 : hR S_2796 911 h = (some q_524) := by rw [eS_2797]; exact hv_2774
  have hv_2844 : hR S_2796 912 h = (some q_565) := by rw [eS_2797]; exact hv_2775
  have hv_2845 : hR S_2796 917 h = (some q_610) := by rw [eS_2797]; exact hv_2776
  have hf_2846 : Fm (fun _ _ => False) (fun f9 b9 => b9 = h) (fun _ => False) S S_2796 := by rw [eS_2797]; exact hf_2798
  have hN_2847 : NL S L_2790 S_2796 := by rw [eS_2797]; exact (NL.tR (S := S_2732) hN_2789)
  have hG_2848 : Gs h gs_2794 S_2796 := by rw [eS_2797]; exact (Gs.tR (S := S_2732) hG_2793)
  have hE_2849 : ELs S_2796 q_161 [q_661, q_784, q_914, q_1038, q_1162, q_1292, q_1416, q_1540, q_1670, q_1794, q_1918, q_2048, q_2172, q_2296, q_2426, q_2550] := by rw [eS_2797]; exact (ELs.tRx (S := S_2732) (fun e9 => absurd ((hk_2744).symm.trans ((congrArg (hK _) e9).trans hk_2755)) (by decide)) hE_2780)
  have hE_2850 : ELs S_2796 q_524 [q_2680] := by rw [eS_2797]; exact (show ELs (tR S_2732 q_524 0 (some q_2680)) q_524 [q_2680] from ELs.snoc (ELs.nil (S := S_2732) (a := q_524)) rfl)
  refine j_iinc (q := 0) (v := 1) (lv' := [(2, .int 1), (0, .ref h), (1, .ref s0)]) C dX9_init_190 rfl (by decide) (by rw [hn9]; decide) rfl ?_
  refine j_goto (tgt := 168) C dX9_init_193 (by decide) ?_
  exact x9_t7 (q_1 := q_1) (q_5 := q_5) (q_6 := q_6) (q_41 := q_41) (q_47 := q_47) (q_48 := q_48) (q_49 := q_49) (q_50 := q_50) (q_51 := q_51) (q_52 := q_52) (q_53 := q_53) (q_54 := q_54) (q_126 := q_126) (q_132 := q_132) (q_161 := q_161) (q_183 := q_183) (q_188 := q_188) (q_224 := q_224) (q_230 := q_230) (q_266 := q_266) (q_295 := q_295) (q_328 := q_328) (q_333 := q_333) (q_334 := q_334) (q_335 := q_335) (q_336 := q_336) (q_337 := q_337) (q_338 := q_338) (q_339 := q_339) (q_340 := q_340) (q_425 := q_425) (q_431 := q_431) (q_432 := q_432) (q_433 := q_433) (q_434 := q_434) (q_435 := q_435) (q_436 := q_436) (q_437 := q_437) (q_438 := q_438) (q_524 := q_524) (q_565 := q_565) (q_610 := q_610) (q_661 := q_661) (q_666 := q_666) (q_784 := q_784) (q_789 := q_789) (q_914 := q_914) (q_919 := q_919) (q_1038 := q_1038) (q_1043 := q_1043) (q_1162 := q_1162) (q_1167 := q_1167) (q_1292 := q_1292) (q_1297 := q_1297) (q_1416 := q_1416) (q_1421 := q_1421) (q_1540 := q_1540) (q_1545 := q_1545) (q_1670 := q_1670) (q_1675 := q_1675) (q_1794 := q_1794) (q_1799 := q_1799) (q_1918 := q_1918) (q_1923 := q_1923) (q_2048 := q_2048) (q_2053 := q_2053) (q_2172 := q_2172) (q_2177 := q_2177) (q_2296 := q_2296) (q_2301 := q_2301) (q_2426 := q_2426) (q_2431 := q_2431) (q_2550 := q_2550) (q_2555 := q_2555) (q_2680 := q_2680) (q_2685 := q_2685) (q_2686 := q_2686) (q_2687 := q_2687) (q_2688 := q_2688) (q_2689 := q_2689) (q_2690 := q_2690) (q_2691 := q_2691) (q_2692 := q_2692) hn9 C M hm9 hm0_9 hz_164 hz_269 hz_297 hz_527 hz_567 hz_612 hm_2799 hk_2800 hm_2801 hk_2802 hn_2803 hz_2804 hm_2805 hk_2806 hn_2807 hz_2808 hm_2811 hk_2812 hn_2813 hz_2814 hm_2815 hk_2816 hn_2817 hz_2818 hm_2819 hk_2820 hn_2821 hz_2822 hm_2823 hk_2824 hn_2825 hz_2826 hv_2832 hv_2833 hv_2834 hv_2835 hv_2836 hv_2837 hv_2838 hv_2839 hv_2840 hv_2841 hv_2842 hv_2843 hv_2844 hv_2845 (by have h9 := hN_2847; rw [eL_2791, eL_2677] at h9; simpa only [List.nil_append, List.cons_append, List.append_assoc] using h9) (by have h9 := hG_2848; rw [eG_2795, eG_2679] at h9; simpa only [List.nil_append, List.cons_append, List.append_assoc] using h9) hE_2849 hE_2850 hf_2846

set_option maxRecDepth 100000 in
set_option maxHeartbeats 8000000 in
theorem x9_t5 {x : JX} {S S_2368 : Hp} {h s0 q_1 q_5 q_6 q_41 q_47 q_48 q_49 q_50 q_51 q_52 q_53 q_54 q_126 q_132 q_161 q_183 q_188 q_224 q_230 q_266 q_295 q_328 q_333 q_334 q_335 q_336 q_337 q_338 q_339 q_340 q_425 q_431 q_432 q_433 q_434 q_435 q_436 q_437 q_438 q_524 q_565 q_610 q_661 q_666 q_784 q_789 q_914 q_919 q_1038 q_1043 q_1162 q_1167 q_1292 q_1297 q_1416 q_1421 q_1540 q_1545 q_1670 q_1675 q_1794 q_1799 q_1918 q_1923 q_2048 q_2053 q_2172 q_2177 q_2296 q_2301 : Nat} (hn9 : x_n x = 3) (C : CB x RX9 cX9_init) (M : CM x 4 113 68424 none S (fun r S' => r = none ∧ Fm (fun _ _ => False) (fun f9 b9 => b9 = h) (fun _ => False) S S' ∧ hR S' 900 h = some s0 ∧ ∃ l : List Nat, Wt s9K s9N s9P s9Q (fun i => (h :: l).getD i 0) S' ∧ l.length = 105 ∧ NL S l S' ∧ (∀ j, aI S' ((h :: l).getD 6 0) j = 0) ∧ (∀ j, aI S' ((h :: l).getD 9 0) j = 0) ∧ (∀ j, aI S' ((h :: l).getD 14 0) j = 0) ∧ (∀ j, aI S' ((h :: l).getD 19 0) j = 0))) (hm9 : (x_meth x).name = yX9_init.name) (hm0_9 : h ∈ hL S) (hz_164 : q_161 ∉ hL S) (hz_269 : q_266 ∉ hL S) (hz_297 : q_295 ∉ hL S) (hz_527 : q_524 ∉ hL S) (hz_567 : q_565 ∉ hL S) (hz_612 : q_610 ∉ hL S) (hm_2371 : h ∈ hL S_2368) (hk_2372 : Kd S_2368 h 9) (hm_2373 : q_161 ∈ hL S_2368) (hk_2374 : Kd S_2368 q_161 20) (hn_2375 : Ln S_2368 q_161 16) (hz_2376 : ∀ j, aI S_2368 q_161 j = 0) (hm_2379 : q_266 ∈ hL S_2368) (hk_2380 : Kd S_2368 q_266 13) (hn_2381 : Ln S_2368 q_266 24000) (hz_2382 : ∀ j, aI S_2368 q_266 j = 0) (hm_2383 : q_295 ∈ hL S_2368) (hk_2384 : Kd S_2368 q_295 14) (hn_2385 : Ln S_2368 q_295 16) (hz_2386 : ∀ j, aI S_2368 q_295 j = 0) (hm_2387 : q_524 ∈ hL S_2368) (hk_2388 : Kd S_2368 q_524 18) (hn_2389 : Ln S_2368 q_524 3) (hz_2390 : ∀ j, aI S_2368 q_524 j = 0) (hm_2391 : q_565 ∈ hL S_2368) (hk_2392 : Kd S_2368 q_565 19) (hn_2393 : Ln S_2368 q_565 4) (hz_2394 : ∀ j, aI S_2368 q_565 j = 0) (hm_2395 : q_610 ∈ hL S_2368) (hk_2396 : Kd S_2368 q_610 14) (hn_2397 : Ln S_2368 q_610 12) (hz_2398 : ∀ j, aI S_2368 q_610 j = 0) (hv_2402 : hR S_2368 900 h = (some s0)) (hv_2403 : hR S_2368 901 h = (some q_1)) (hv_2404 : hR S_2368 902 h = (some q_41)) (hv_2405 : hR S_2368 903 h = (some q_126)) (hv_2406 : hR S_2368 904 h = (some q_161)) (hv_2407 : hR S_2368 905 h = (some q_183)) (hv_2408 : hR S_2368 906 h = (some q_224)) (hv_2409 : hR S_2368 907 h = (some q_266)) (hv_2410 : hR S_2368 908 h = (some q_295)) (hv_2411 : hR S_2368 909 h = (some q_328)) (hv_2412 : hR S_2368 910 h = (some q_425)) (hv_2413 : hR S_2368 911 h = (some q_524)) (hv_2414 : hR S_2368 912 h = (some q_565)) (hv_2415 : hR S_2368 917 h = (some q_610)) (hN_2420 : NL S [q_1, q_5, q_6, q_41, q_47, q_48, q_49, q_50, q_51, q_52, q_53, q_54, q_126, q_132, q_161, q_183, q_188, q_224, q_230, q_266, q_295, q_328, q_333, q_334, q_335, q_336, q_337, q_338, q_339, q_340, q_425, q_431, q_432, q_433, q_434, q_435, q_436, q_437, q_438, q_524, q_565, q_610, q_661, q_666, q_784, q_789, q_914, q_919, q_1038, q_1043, q_1162, q_1167, q_1292, q_1297, q_1416, q_1421, q_1540, q_1545, q_1670, q_1675, q_1794, q_1799, q_1918, q_1923, q_2048, q_2053, q_2172, q_2177, q_2296, q_2301] S_2368) (hG_2421 : Gs h [(3, [q_1, q_5, q_6]), (4, [q_41, q_47, q_48, q_49, q_50, q_51, q_52, q_53, q_54]), (0, [q_126, q_132]), (1, [q_183, q_188]), (0, [q_224, q_230]), (2, [q_328, q_333, q_334, q_335, q_336, q_337, q_338, q_339, q_340]), (2, [q_425, q_431, q_432, q_433, q_434, q_435, q_436, q_437, q_438]), (1, [q_661, q_666]), (1, [q_784, q_789]), (1, [q_914, q_919]), (1, [q_1038, q_1043]), (1, [q_1162, q_1167]), (1, [q_1292, q_1297]), (1, [q_1416, q_1421]), (1, [q_1540, q_1545]), (1, [q_1670, q_1675]), (1, [q_1794, q_1799]), (1, [q_1918, q_1923]), (1, [q_2048, q_2053]), (1, [q_2172, q_2177]), (1, [q_2296, q_2301])] S_2368) (hE_2419 : ELs S_2368 q_161 [q_661, q_784, q_914, q_1038, q_1162, q_1292, q_1416, q_1540, q_1670, q_1794, q_1918, q_2048, q_2172, q_2296]) (hf_2416 : Fm (fun _ _ => False) (fun f9 b9 => b9 = h) (fun _ => False) S S_2368) : J x (0 + 1 + 4 + 1 + 8 + 1 + 1 + 1 + 1 + 1 + 1 + 1 + 1 + 1 + 1 + 8 + 1 + 8 + 1 + 1 + 1 + 1 + 1 + 1 + 1 + 1 + 1 + 1 + 1 + 1 + 1 + 1 + 1 + 1 + 1 + 1 + 1 + 1 + 1 + 1 + 1 + 1 + 1 + 1 + 1 + 1 + 1 + 1 + 1) (0 + 15 + 20045 + 10 + 23174 + 1 + 16 + 16 + 4 + 16 + 1 + 16 + 24000 + 16 + 21 + 117 + 21 + 117 + 3 + 4 + 12 + 4 + 16 + 4 + 16 + 4 + 16 + 4 + 16 + 4 + 16 + 4 + 16 + 4 + 16 + 4 + 16 + 4 + 16 + 4 + 16 + 4 + 16 + 4 + 16 + 4 + 16 + 4 + 16) S_2368 [(2, .int 14), (0, .ref h), (1, .ref s0)] 138 [] := by
  obtain ⟨L_2422, eL_2423⟩ : ∃ L9 : List Nat, L9 = [q_1, q_5, q_6, q_41, q_47, q_48, q_49, q_50, q_51, q_52, q_53, q_54, q_126, q_132, q_161, q_183, q_188, q_224, q_230, q_266, q_295, q_328, q_333, q_334, q_335, q_336, q_337, q_338, q_339, q_340, q_425, q_431, q_432, q_433, q_434, q_435, q_436, q_437, q_438, q_524, q_565, q_610, q_661, q_666, q_784, q_789, q_914, q_919, q_1038, q_1043, q_1162, q_1167, q_1292, q_1297, q_1416, q_1421, q_1540, q_1545, q_1670, q_1675, q_1794, q_1799, q_1918, q_1923, q_2048, q_2053, q_2172, q_2177, q_2296, q_2301] := ⟨_, rfl⟩
  rw [← eL_2423] at hN_2420
  obtain ⟨gs_2424, eG_2425⟩ : ∃ G9 : List (Nat × List Nat), G9 = [(3, [q_1, q_5, q_6]), (4, [q_41, q_47, q_48, q_49, q_50, q_51, q_52, q_53, q_54]), (0, [q_126, q_132]), (1, [q_183, q_188]), (0, [q_224, q_230]), (2, [q_328, q_333, q_334, q_335, q_336, q_337, q_338, q_339, q_340]), (2, [q_425, q_431, q_432, q_433, q_434, q_435, q_436, q_437, q_438]), (1, [q_661, q_666]), (1, [q_784, q_789]), (1, [q_914, q_919]), (1, [q_1038, q_1043]), (1, [q_1162, q_1167]), (1, [q_1292, q_1297]), (1, [q_1416, q_1421]), (1, [q_1540, q_1545]), (1, [q_1670, q_1675]), (1, [q_1794, q_1799]), (1, [q_1918, q_1923]), (1, [q_2048, q_2053]), (1, [q_2172, q_2177]), (1, [q_2296, q_2301])] := ⟨_, rfl⟩
  rw [← eG_2425] at hG_2421
  refine j_iload_n C dX9_init_138 rfl 0 rfl ?_
  refine j_aload_n C dX9_init_139 rfl 1 rfl ?_
  show J _ _ _ _ _ 140 _
  refine j_getr (f := 904) (v := q_161) C flX9_34 dX9_init_140 hm_2371 hk_2372 (by decide) rfl hv_2406 ?_
  refine j_alen (v := 16) C dX9_init_143 hm_2373 hk_2374 (by decide) (by decide) (len_of (n := 16) hn_2375 (by decide)) ?_
  refine j_ic_ge (tgt := 166) C dX9_init_144 (by decide) (fun c9 => absurd c9 (by decide)) (fun c9 => ?_)
  refine j_aload_n C dX9_init_147 rfl 1 rfl ?_
  refine j_getr (f := 904) (v := q_161) C flX9_34 dX9_init_148 hm_2371 hk_2372 (by decide) rfl hv_2406 ?_
  refine j_iload_n C dX9_init_151 rfl 0 rfl ?_
  refine j_new (N := 4) C (ci := 10) rfl rfl klX9_32 knX10 kiX10 (M.cells (by decide)) (M.slots (by decide)) dX9_init_152 (fun q_2426 hq_2427 => ?_)
  have hz_2428 : q_2426 ∉ hL S := fun h9 => hq_2427 (hf_2416.mem h9)
  have gn_2429 : ∀ g9 ∈ gs_2424, ∀ p9 ∈ (gT g9.1).2.2, g9.2.getD p9.2.1 0 ≠ q_2426 := Gs.ne hG_2421 hq_2427
  refine j_dup C dX9_init_155 rfl ?_
  show J _ _ _ _ _ 156 _
  have hf_2430 : Fm (fun _ _ => False) (fun f9 b9 => b9 = h) (fun _ => False) S (nO S_2368 q_2426 10) := (hf_2416.nO _ hq_2427)
  refine j_callI C [] [.ref q_2426, .int 14, .ref q_161] mlX9_38 mcX10_init (c_X10_init (nO S_2368 q_2426 10) q_2426 mem_new (kd_nO' (k := 10))) (M.rm (by decide) (by decide) (Nat.le_of_ble_eq_true rfl) (Nat.le_of_ble_eq_true rfl)) rfl rfl (Nat.le_of_ble_eq_true rfl) dX9_init_156 (fun r_2440 S_2441 hp_2442 => ?_)
  obtain ⟨rfl, hf_2443, e_2432, e_2433, q_2431, e_2434, e_2435, e_2436, e_2437, e_2438, hNl_2439⟩ := hp_2442
  refine J.eq (st' := [.ref q_2426, .int 14, .ref q_161]) rfl rfl rfl ?_
  have hz_2444 : ∀ j, aI S_2441 q_161 j = 0 := fun j9 => (hf_2443.ai (mem_old hm_2373) (fun h9 => h9) j9).trans (hz_2376 j9)
  have hz_2445 : ∀ j, aI S_2441 q_266 j = 0 := fun j9 => (hf_2443.ai (mem_old hm_2379) (fun h9 => h9) j9).trans (hz_2382 j9)
  have hz_2446 : ∀ j, aI S_2441 q_295 j = 0 := fun j9 => (hf_2443.ai (mem_old hm_2383) (fun h9 => h9) j9).trans (hz_2386 j9)
  have hz_2447 : ∀ j, aI S_2441 q_524 j = 0 := fun j9 => (hf_2443.ai (mem_old hm_2387) (fun h9 => h9) j9).trans (hz_2390 j9)
  have hz_2448 : ∀ j, aI S_2441 q_565 j = 0 := fun j9 => (hf_2443.ai (mem_old hm_2391) (fun h9 => h9) j9).trans (hz_2394 j9)
  have hz_2449 : ∀ j, aI S_2441 q_610 j = 0 := fun j9 => (hf_2443.ai (mem_old hm_2395) (fun h9 => h9) j9).trans (hz_2398 j9)
  have hm_2450 : h ∈ hL S_2441 := hf_2443.mem (mem_old hm_2371)
  have hk_2451 : Kd S_2441 h 9 := hf_2443.kd (mem_old hm_2371) (kd_nO (k := 10) hq_2427 hm_2371 hk_2372)
  have hm_2452 : q_161 ∈ hL S_2441 := hf_2443.mem (mem_old hm_2373)
  have hk_2453 : Kd S_2441 q_161 20 := hf_2443.kd (mem_old hm_2373) (kd_nO (k := 10) hq_2427 hm_2373 hk_2374)
  have hn_2454 : Ln S_2441 q_161 16 := hf_2443.ln (mem_old hm_2373) hn_2375
  have hm_2455 : q_2426 ∈ hL S_2441 := hf_2443.mem mem_new
  have hk_2456 : Kd S_2441 q_2426 10 := hf_2443.kd mem_new (kd_nO' (k := 10))
  have hm_2457 : q_266 ∈ hL S_2441 := hf_2443.mem (mem_old hm_2379)
  have hk_2458 : Kd S_2441 q_266 13 := hf_2443.kd (mem_old hm_2379) (kd_nO (k := 10) hq_2427 hm_2379 hk_2380)
  have hn_2459 : Ln S_2441 q_266 24000 := hf_2443.ln (mem_old hm_2379) hn_2381
  have hm_2460 : q_295 ∈ hL S_2441 := hf_2443.mem (mem_old hm_2383)
  have hk_2461 : Kd S_2441 q_295 14 := hf_2443.kd (mem_old hm_2383) (kd_nO (k := 10) hq_2427 hm_2383 hk_2384)
  have hn_2462 : Ln S_2441 q_295 16 := hf_2443.ln (mem_old hm_2383) hn_2385
  have hm_2463 : q_524 ∈ hL S_2441 := hf_2443.mem (mem_old hm_2387)
  have hk_2464 : Kd S_2441 q_524 18 := hf_2443.kd (mem_old hm_2387) (kd_nO (k := 10) hq_2427 hm_2387 hk_2388)
  have hn_2465 : Ln S_2441 q_524 3 := hf_2443.ln (mem_old hm_2387) hn_2389
  have hm_2466 : q_565 ∈ hL S_2441 := hf_2443.mem (mem_old hm_2391)
  have hk_2467 : Kd S_2441 q_565 19 := hf_2443.kd (mem_old hm_2391) (kd_nO (k := 10) hq_2427 hm_2391 hk_2392)
  have hn_2468 : Ln S_2441 q_565 4 := hf_2443.ln (mem_old hm_2391) hn_2393
  have hm_2469 : q_610 ∈ hL S_2441 := hf_2443.mem (mem_old hm_2395)
  have hk_2470 : Kd S_2441 q_610 14 := hf_2443.kd (mem_old hm_2395) (kd_nO (k := 10) hq_2427 hm_2395 hk_2396)
  have hn_2471 : Ln S_2441 q_610 12 := hf_2443.ln (mem_old hm_2395) hn_2397
  have hv_2472 : hR S_2441 900 h = (some s0) := hf_2443.fr (mem_old hm_2371) (fun q9 => (fun e9 => absurd (((kd_nO (k := 10) hq_2427 hm_2371 hk_2372)).symm.trans ((congrArg (hK _) e9).trans (kd_nO' (k := 10)))) (by decide)) q9) (rd_nOR (k := 10) hq_2427 hm_2371 hv_2402)
  have hv_2473 : hR S_2441 901 h = (some q_1) := hf_2443.fr (mem_old hm_2371) (fun q9 => (fun e9 => absurd (((kd_nO (k := 10) hq_2427 hm_2371 hk_2372)).symm.trans ((congrArg (hK _) e9).trans (kd_nO' (k := 10)))) (by decide)) q9) (rd_nOR (k := 10) hq_2427 hm_2371 hv_2403)
  have hv_2474 : hR S_2441 902 h = (some q_41) := hf_2443.fr (mem_old hm_2371) (fun q9 => (fun e9 => absurd (((kd_nO (k := 10) hq_2427 hm_2371 hk_2372)).symm.trans ((congrArg (hK _) e9).trans (kd_nO' (k := 10)))) (by decide)) q9) (rd_nOR (k := 10) hq_2427 hm_2371 hv_2404)
  have hv_2475 : hR S_2441 903 h = (some q_126) := hf_2443.fr (mem_old hm_2371) (fun q9 => (fun e9 => absurd (((kd_nO (k := 10) hq_2427 hm_2371 hk_2372)).symm.trans ((congrArg (hK _) e9).trans (kd_nO' (k := 10)))) (by decide)) q9) (rd_nOR (k := 10) hq_2427 hm_2371 hv_2405)
  have hv_2476 : hR S_2441 904 h = (some q_161) := hf_2443.fr (mem_old hm_2371) (fun q9 => (fun e9 => absurd (((kd_nO (k := 10) hq_2427 hm_2371 hk_2372)).symm.trans ((congrArg (hK _) e9).trans (kd_nO' (k := 10)))) (by decide)) q9) (rd_nOR (k := 10) hq_2427 hm_2371 hv_2406)
  have hv_2477 : hR S_2441 905 h = (some q_183) := hf_2443.fr (mem_old hm_2371) (fun q9 => (fun e9 => absurd (((kd_nO (k := 10) hq_2427 hm_2371 hk_2372)).symm.trans ((congrArg (hK _) e9).trans (kd_nO' (k := 10)))) (by decide)) q9) (rd_nOR (k := 10) hq_2427 hm_2371 hv_2407)
  have hv_2478 : hR S_2441 906 h = (some q_224) := hf_2443.fr (mem_old hm_2371) (fun q9 => (fun e9 => absurd (((kd_nO (k := 10) hq_2427 hm_2371 hk_2372)).symm.trans ((congrArg (hK _) e9).trans (kd_nO' (k := 10)))) (by decide)) q9) (rd_nOR (k := 10) hq_2427 hm_2371 hv_2408)
  have hv_2479 : hR S_2441 907 h = (some q_266) := hf_2443.fr (mem_old hm_2371) (fun q9 => (fun e9 => absurd (((kd_nO (k := 10) hq_2427 hm_2371 hk_2372)).symm.trans ((congrArg (hK _) e9).trans (kd_nO' (k := 10)))) (by decide)) q9) (rd_nOR (k := 10) hq_2427 hm_2371 hv_2409)
  have hv_2480 : hR S_2441 908 h = (some q_295) := hf_2443.fr (mem_old hm_2371) (fun q9 => (fun e9 => absurd (((kd_nO (k := 10) hq_2427 hm_2371 hk_2372)).symm.trans ((congrArg (hK _) e9).trans (kd_nO' (k := 10)))) (by decide)) q9) (rd_nOR (k := 10) hq_2427 hm_2371 hv_2410)
  have hv_2481 : hR S_2441 909 h = (some q_328) := hf_2443.fr (mem_old hm_2371) (fun q9 => (fun e9 => absurd (((kd_nO (k := 10) hq_2427 hm_2371 hk_2372)).symm.trans ((congrArg (hK _) e9).trans (kd_nO' (k := 10)))) (by decide)) q9) (rd_nOR (k := 10) hq_2427 hm_2371 hv_2411)
  have hv_2482 : hR S_2441 910 h = (some q_425) := hf_2443.fr (mem_old hm_2371) (fun q9 => (fun e9 => absurd (((kd_nO (k := 10) hq_2427 hm_2371 hk_2372)).symm.trans ((congrArg (hK _) e9).trans (kd_nO' (k := 10)))) (by decide)) q9) (rd_nOR (k := 10) hq_2427 hm_2371 hv_2412)
  have hv_2483 : hR S_2441 911 h = (some q_524) := hf_2443.fr (mem_old hm_2371) (fun q9 => (fun e9 => absurd (((kd_nO (k := 10) hq_2427 hm_2371 hk_2372)).symm.trans ((congrArg (hK _) e9).trans (kd_nO' (k := 10)))) (by decide)) q9) (rd_nOR (k := 10) hq_2427 hm_2371 hv_2413)
  have hv_2484 : hR S_2441 912 h = (some q_565) := hf_2443.fr (mem_old hm_2371) (fun q9 => (fun e9 => absurd (((kd_nO (k := 10) hq_2427 hm_2371 hk_2372)).symm.trans ((congrArg (hK _) e9).trans (kd_nO' (k := 10)))) (by decide)) q9) (rd_nOR (k := 10) hq_2427 hm_2371 hv_2414)
  have hv_2485 : hR S_2441 917 h = (some q_610) := hf_2443.fr (mem_old hm_2371) (fun q9 => (fun e9 => absurd (((kd_nO (k := 10) hq_2427 hm_2371 hk_2372)).symm.trans ((congrArg (hK _) e9).trans (kd_nO' (k := 10)))) (by decide)) q9) (rd_nOR (k := 10) hq_2427 hm_2371 hv_2415)
  have hf_2486 : Fm (fun _ _ => False) (fun f9 b9 => b9 = h) (fun _ => False) S S_2441 := hf_2430.then hf_2443 (fun a9 ha9 => ⟨(fun f9 h9 => (fun h9 => h9.elim (fun h8 => absurd (h8.2 ▸ ha9) hz_2428) (fun h8 => absurd (h8.2 ▸ ha9) hz_2428)) h9), (fun f9 h9 => (fun h8 => absurd (h8 ▸ ha9) hz_2428) h9), (fun h9 => h9.elim)⟩)
  have hN_2487 : NL S (L_2422 ++ [q_2426]) S_2441 := NL.mono (show NL S (L_2422 ++ [q_2426]) (nO S_2368 q_2426 10) from NL.nO hN_2420 hq_2427 hz_2428) (fun a9 h9 => hf_2443.mem h9)
  have hG_2488 : Gs h gs_2424 S_2441 := Gs.fm (show Gs h gs_2424 (nO S_2368 q_2426 10) from Gs.nO hG_2421 hq_2427) hf_2443 (fun g9 hg9 p9 hp9 => gn_2429 g9 hg9 p9 hp9)
  have hE_2489 : ELs S_2441 q_161 [q_661, q_784, q_914, q_1038, q_1162, q_1292, q_1416, q_1540, q_1670, q_1794, q_1918, q_2048, q_2172, q_2296] := ELs.fm (ELs.nO (S := S_2368) hE_2419) hf_2443 (mem_old hm_2373) (fun h9 => h9)
  have hz_2490 : q_2431 ∉ hL S := fun h9 => e_2434 (hf_2430.mem h9)
  have hN_2491 : NL S ((L_2422 ++ [q_2426]) ++ [q_2431]) S_2441 := NL.app (show NL S (L_2422 ++ [q_2426]) (nO S_2368 q_2426 10) from NL.nO hN_2420 hq_2427 hz_2428) hNl_2439 (fun a9 h9 => hf_2443.mem h9) (fun a9 h9 => hf_2430.mem h9)
  obtain ⟨L_2492, eL_2493⟩ : ∃ L9 : List Nat, L9 = ((L_2422 ++ [q_2426]) ++ [q_2431]) := ⟨_, rfl⟩
  rw [← eL_2493] at hN_2491
  have hGt_2494 : Gt 1 [q_2426, q_2431] S_2441 := ⟨fun i9 k9 h9 => (match i9, h9 with | 0, h9 => (by have e9 : (10 : Nat) = k9 := Option.some.inj h9; subst e9; exact ⟨hm_2455, hk_2456⟩) | 1, h9 => (by have e9 : (15 : Nat) = k9 := Option.some.inj h9; subst e9; exact ⟨e_2435, e_2436⟩) | i9 + 2, h9 => absurd h9 (by simp [gT])), (List.forall_mem_cons.mpr ⟨e_2437, (fun _ h9 => absurd h9 List.not_mem_nil)⟩), (List.forall_mem_cons.mpr ⟨e_2438, (fun _ h9 => absurd h9 List.not_mem_nil)⟩), (fun _ h9 => absurd h9 List.not_mem_nil)⟩
  have hG_2495 : Gs h (gs_2424 ++ [(1, [q_2426, q_2431])]) S_2441 := Gs.snoc hG_2488 (by decide) hGt_2494 (List.forall_mem_cons.mpr ⟨(own_ne hz_2428 hm0_9), (fun _ h9 => absurd h9 List.not_mem_nil)⟩)
  obtain ⟨gs_2496, eG_2497⟩ : ∃ G9 : List (Nat × List Nat), G9 = gs_2424 ++ [(1, [q_2426, q_2431])] := ⟨_, rfl⟩
  rw [← eG_2497] at hG_2495
  refine j_aast (j := 14) (ci := 10) C 20  (by decide) rfl dX9_init_159 hm_2452 hk_2453 (inr_of (n := 16) hn_2454 (vp_lit (by decide))) (by decide) hm_2455 hk_2456 rfl ?_
  have hf_2500 : Fm (fun _ _ => False) (fun f9 b9 => b9 = h) (fun _ => False) S (tR S_2441 q_161 14 (some q_2426)) := (hf_2486.tR _ _ (fun h9 => absurd h9 hz_164))
  obtain ⟨S_2498, eS_2499⟩ : ∃ S9 : Hp, S9 = (tR S_2441 q_161 14 (some q_2426)) := ⟨_, rfl⟩
  refine J.eq (S' := S_2498) eS_2499.symm rfl rfl ?_
  have hm_2501 : h ∈ hL S_2498 := by rw [eS_2499]; exact hm_2450
  have hk_2502 : Kd S_2498 h 9 := by rw [eS_2499]; exact hk_2451
  have hm_2503 : q_161 ∈ hL S_2498 := by rw [eS_2499]; exact hm_2452
  have hk_2504 : Kd S_2498 q_161 20 := by rw [eS_2499]; exact hk_2453
  have hn_2505 : Ln S_2498 q_161 16 := by rw [eS_2499]; exact hn_2454
  have hz_2506 : ∀ j, aI S_2498 q_161 j = 0 := by rw [eS_2499]; exact hz_2444
  have hm_2507 : q_2426 ∈ hL S_2498 := by rw [eS_2499]; exact hm_2455
  have hk_2508 : Kd S_2498 q_2426 10 := by rw [eS_2499]; exact hk_2456
  have hm_2509 : q_266 ∈ hL S_2498 := by rw [eS_2499]; exact hm_2457
  have hk_2510 : Kd S_2498 q_266 13 := by rw [eS_2499]; exact hk_2458
  have hn_2511 : Ln S_2498 q_266 24000 := by rw [eS_2499]; exact hn_2459
  have hz_2512 : ∀ j, aI S_2498 q_266 j = 0 := by rw [eS_2499]; exact hz_2445
  have hm_2513 : q_295 ∈ hL S_2498 := by rw [eS_2499]; exact hm_2460
  have hk_2514 : Kd S_2498 q_295 14 := by rw [eS_2499]; exact hk_2461
  have hn_2515 : Ln S_2498 q_295 16 := by rw [eS_2499]; exact hn_2462
  have hz_2516 : ∀ j, aI S_2498 q_295 j = 0 := by rw [eS_2499]; exact hz_2446
  have hm_2517 : q_524 ∈ hL S_2498 := by rw [eS_2499]; exact hm_2463
  have hk_2518 : Kd S_2498 q_524 18 := by rw [eS_2499]; exact hk_2464
  have hn_2519 : Ln S_2498 q_524 3 := by rw [eS_2499]; exact hn_2465
  have hz_2520 : ∀ j, aI S_2498 q_524 j = 0 := by rw [eS_2499]; exact hz_2447
  have hm_2521 : q_565 ∈ hL S_2498 := by rw [eS_2499]; exact hm_2466
  have hk_2522 : Kd S_2498 q_565 19 := by rw [eS_2499]; exact hk_2467
  have hn_2523 : Ln S_2498 q_565 4 := by rw [eS_2499]; exact hn_2468
  have hz_2524 : ∀ j, aI S_2498 q_565 j = 0 := by rw [eS_2499]; exact hz_2448
  have hm_2525 : q_610 ∈ hL S_2498 := by rw [eS_2499]; exact hm_2469
  have hk_2526 : Kd S_2498 q_610 14 := by rw [eS_2499]; exact hk_2470
  have hn_2527 : Ln S_2498 q_610 12 := by rw [eS_2499]; exact hn_2471
  have hz_2528 : ∀ j, aI S_2498 q_610 j = 0 := by rw [eS_2499]; exact hz_2449
  have hv_2529 : hI S_2498 1000 q_2426 = 1 := by rw [eS_2499]; exact e_2432
  have hv_2530 : hI S_2498 1001 q_2426 = 1 := by rw [eS_2499]; exact e_2433
  have hv_2531 : hR S_2498 1003 q_2426 = (some q_2431) := by rw [eS_2499]; exact e_2438
  have hv_2532 : hR S_2498 900 h = (some s0) := by rw [eS_2499]; exact hv_2472
  have hv_2533 : hR S_2498 901 h = (some q_1) := by rw [eS_2499]; exact hv_2473
  have hv_2534 : hR S_2498 902 h = (some q_41) := by rw [eS_2499]; exact hv_2474
  have hv_2535 : hR S_2498 903 h = (some q_126) := by rw [eS_2499]; exact hv_2475
  have hv_2536 : hR S_2498 904 h = (some q_161) := by rw [eS_2499]; exact hv_2476
  have hv_2537 : hR S_2498 905 h = (some q_183) := by rw [eS_2499]; exact hv_2477
  have hv_2538 : hR S_2498 906 h = (some q_224) := by rw [eS_2499]; exact hv_2478
  have hv_2539 : hR S_2498 907 h = (some q_266) := by rw [eS_2499]; exact hv_2479
  have hv_2540 : hR S_2498 908 h = (some q_295) := by rw [eS_2499]; exact hv_2480
  have hv_2541 : hR S_2498 909 h = (some q_328) := by rw [eS_2499]; exact hv_2481
  have hv_2542 : hR S_2498 910 h = (some q_425) := by rw [eS_2499]; exact hv_2482
  have hv_2543 : hR S_2498 911 h = (some q_524) := by rw [eS_2499]; exact hv_2483
  have hv_2544 : hR S_2498 912 h = (some q_565) := by rw [eS_2499]; exact hv_2484
  have hv_2545 : hR S_2498 917 h = (some q_610) := by rw [eS_2499]; exact hv_2485
  have hf_2546 : Fm (fun _ _ => False) (fun f9 b9 => b9 = h) (fun _ => False) S S_2498 := by rw [eS_2499]; exact hf_2500
  have hN_2547 : NL S L_2492 S_2498 := by rw [eS_2499]; exact (NL.tR (S := S_2441) hN_2491)
  have hG_2548 : Gs h gs_2496 S_2498 := by rw [eS_2499]; exact (Gs.tR (S := S_2441) hG_2495)
  have hE_2549 : ELs S_2498 q_161 [q_661, q_784, q_914, q_1038, q_1162, q_1292, q_1416, q_1540, q_1670, q_1794, q_1918, q_2048, q_2172, q_2296, q_2426] := by rw [eS_2499]; exact (show ELs (tR S_2441 q_161 14 (some q_2426)) q_161 [q_661, q_784, q_914, q_1038, q_1162, q_1292, q_1416, q_1540, q_1670, q_1794, q_1918, q_2048, q_2172, q_2296, q_2426] from ELs.snoc hE_2489 rfl)
  refine j_iinc (q := 0) (v := 15) (lv' := [(2, .int 15), (0, .ref h), (1, .ref s0)]) C dX9_init_160 rfl (by decide) (by rw [hn9]; decide) rfl ?_
  refine j_goto (tgt := 138) C dX9_init_163 (by decide) ?_
  refine j_iload_n C dX9_init_138 rfl 0 rfl ?_
  refine j_aload_n C dX9_init_139 rfl 1 rfl ?_
  refine j_getr (f := 904) (v := q_161) C flX9_34 dX9_init_140 hm_2501 hk_2502 (by decide) rfl hv_2536 ?_
  refine j_alen (v := 16) C dX9_init_143 hm_2503 hk_2504 (by decide) (by decide) (len_of (n := 16) hn_2505 (by decide)) ?_
  show J _ _ _ _ _ 144 _
  refine j_ic_ge (tgt := 166) C dX9_init_144 (by decide) (fun c9 => absurd c9 (by decide)) (fun c9 => ?_)
  refine j_aload_n C dX9_init_147 rfl 1 rfl ?_
  refine j_getr (f := 904) (v := q_161) C flX9_34 dX9_init_148 hm_2501 hk_2502 (by decide) rfl hv_2536 ?_
  refine j_iload_n C dX9_init_151 rfl 0 rfl ?_
  refine j_new (N := 4) C (ci := 10) rfl rfl klX9_32 knX10 kiX10 (M.cells (by decide)) (M.slots (by decide)) dX9_init_152 (fun q_2550 hq_2551 => ?_)
  have hz_2552 : q_2550 ∉ hL S := fun h9 => hq_2551 (hf_2546.mem h9)
  have gn_2553 : ∀ g9 ∈ gs_2496, ∀ p9 ∈ (gT g9.1).2.2, g9.2.getD p9.2.1 0 ≠ q_2550 := Gs.ne hG_2548 hq_2551
  refine j_dup C dX9_init_155 rfl ?_
  have hf_2554 : Fm (fun _ _ => False) (fun f9 b9 => b9 = h) (fun _ => False) S (nO S_2498 q_2550 10) := (hf_2546.nO _ hq_2551)
  refine j_callI C [] [.ref q_2550, .int 15, .ref q_161] mlX9_38 mcX10_init (c_X10_init (nO S_2498 q_2550 10) q_2550 mem_new (kd_nO' (k := 10))) (M.rm (by decide) (by decide) (Nat.le_of_ble_eq_true rfl) (Nat.le_of_ble_eq_true rfl)) rfl rfl (Nat.le_of_ble_eq_true rfl) dX9_init_156 (fun r_2564 S_2565 hp_2566 => ?_)
  obtain ⟨rfl, hf_2567, e_2556, e_2557, q_2555, e_2558, e_2559, e_2560, e_2561, e_2562, hNl_2563⟩ := hp_2566
  refine J.eq (st' := [.ref q_2550, .int 15, .ref q_161]) rfl rfl rfl ?_
  have hz_2568 : ∀ j, aI S_2565 q_161 j = 0 := fun j9 => (hf_2567.ai (mem_old hm_2503) (fun h9 => h9) j9).trans (hz_2506 j9)
  have hz_2569 : ∀ j, aI S_2565 q_266 j = 0 := fun j9 => (hf_2567.ai (mem_old hm_2509) (fun h9 => h9) j9).trans (hz_2512 j9)
  have hz_2570 : ∀ j, aI S_2565 q_295 j = 0 := fun j9 => (hf_2567.ai (mem_old hm_2513) (fun h9 => h9) j9).trans (hz_2516 j9)
  have hz_2571 : ∀ j, aI S_2565 q_524 j = 0 := fun j9 => (hf_2567.ai (mem_old hm_2517) (fun h9 => h9) j9).trans (hz_2520 j9)
  have hz_2572 : ∀ j, aI S_2565 q_565 j = 0 := fun j9 => (hf_2567.ai (mem_old hm_2521) (fun h9 => h9) j9).trans (hz_2524 j9)
  have hz_2573 : ∀ j, aI S_2565 q_610 j = 0 := fun j9 => (hf_2567.ai (mem_old hm_2525) (fun h9 => h9) j9).trans (hz_2528 j9)
  have hm_2574 : h ∈ hL S_2565 := hf_2567.mem (mem_old hm_2501)
  have hk_2575 : Kd S_2565 h 9 := hf_2567.kd (mem_old hm_2501) (kd_nO (k := 10) hq_2551 hm_2501 hk_2502)
  have hm_2576 : q_161 ∈ hL S_2565 := hf_2567.mem (mem_old hm_2503)
  have hk_2577 : Kd S_2565 q_161 20 := hf_2567.kd (mem_old hm_2503) (kd_nO (k := 10) hq_2551 hm_2503 hk_2504)
  have hn_2578 : Ln S_2565 q_161 16 := hf_2567.ln (mem_old hm_2503) hn_2505
  have hm_2579 : q_2550 ∈ hL S_2565 := hf_2567.mem mem_new
  have hk_2580 : Kd S_2565 q_2550 10 := hf_2567.kd mem_new (kd_nO' (k := 10))
  have hm_2581 : q_266 ∈ hL S_2565 := hf_2567.mem (mem_old hm_2509)
  have hk_2582 : Kd S_2565 q_266 13 := hf_2567.kd (mem_old hm_2509) (kd_nO (k := 10) hq_2551 hm_2509 hk_2510)
  have hn_2583 : Ln S_2565 q_266 24000 := hf_2567.ln (mem_old hm_2509) hn_2511
  have hm_2584 : q_295 ∈ hL S_2565 := hf_2567.mem (mem_old hm_2513)
  have hk_2585 : Kd S_2565 q_295 14 := hf_2567.kd (mem_old hm_2513) (kd_nO (k := 10) hq_2551 hm_2513 hk_2514)
  have hn_2586 : Ln S_2565 q_295 16 := hf_2567.ln (mem_old hm_2513) hn_2515
  have hm_2587 : q_524 ∈ hL S_2565 := hf_2567.mem (mem_old hm_2517)
  have hk_2588 : Kd S_2565 q_524 18 := hf_2567.kd (mem_old hm_2517) (kd_nO (k := 10) hq_2551 hm_2517 hk_2518)
  have hn_2589 : Ln S_2565 q_524 3 := hf_2567.ln (mem_old hm_2517) hn_2519
  have hm_2590 : q_565 ∈ hL S_2565 := hf_2567.mem (mem_old hm_2521)
  have hk_2591 : Kd S_2565 q_565 19 := hf_2567.kd (mem_old hm_2521) (kd_nO (k := 10) hq_2551 hm_2521 hk_2522)
  have hn_2592 : Ln S_2565 q_565 4 := hf_2567.ln (mem_old hm_2521) hn_2523
  have hm_2593 : q_610 ∈ hL S_2565 := hf_2567.mem (mem_old hm_2525)
  have hk_2594 : Kd S_2565 q_610 14 := hf_2567.kd (mem_old hm_2525) (kd_nO (k := 10) hq_2551 hm_2525 hk_2526)
  have hn_2595 : Ln S_2565 q_610 12 := hf_2567.ln (mem_old hm_2525) hn_2527
  have hv_2596 : hR S_2565 900 h = (some s0) := hf_2567.fr (mem_old hm_2501) (fun q9 => (fun e9 => absurd (((kd_nO (k := 10) hq_2551 hm_2501 hk_2502)).symm.trans ((congrArg (hK _) e9).trans (kd_nO' (k := 10)))) (by decide)) q9) (rd_nOR (k := 10) hq_2551 hm_2501 hv_2532)
  have hv_2597 : hR S_2565 901 h = (some q_1) := hf_2567.fr (mem_old hm_2501) (fun q9 => (fun e9 => absurd (((kd_nO (k := 10) hq_2551 hm_2501 hk_2502)).symm.trans ((congrArg (hK _) e9).trans (kd_nO' (k := 10)))) (by decide)) q9) (rd_nOR (k := 10) hq_2551 hm_2501 hv_2533)
  have hv_2598 : hR S_2565 902 h = (some q_41) := hf_2567.fr (mem_old hm_2501) (fun q9 => (fun e9 => absurd (((kd_nO (k := 10) hq_2551 hm_2501 hk_2502)).symm.trans ((congrArg (hK _) e9).trans (kd_nO' (k := 10)))) (by decide)) q9) (rd_nOR (k := 10) hq_2551 hm_2501 hv_2534)
  have hv_2599 : hR S_2565 903 h = (some q_126) := hf_2567.fr (mem_old hm_2501) (fun q9 => (fun e9 => absurd (((kd_nO (k := 10) hq_2551 hm_2501 hk_2502)).symm.trans ((congrArg (hK _) e9).trans (kd_nO' (k := 10)))) (by decide)) q9) (rd_nOR (k := 10) hq_2551 hm_2501 hv_2535)
  have hv_2600 : hR S_2565 904 h = (some q_161) := hf_2567.fr (mem_old hm_2501) (fun q9 => (fun e9 => absurd (((kd_nO (k := 10) hq_2551 hm_2501 hk_2502)).symm.trans ((congrArg (hK _) e9).trans (kd_nO' (k := 10)))) (by decide)) q9) (rd_nOR (k := 10) hq_2551 hm_2501 hv_2536)
  have hv_2601 : hR S_2565 905 h = (some q_183) := hf_2567.fr (mem_old hm_2501) (fun q9 => (fun e9 => absurd (((kd_nO (k := 10) hq_2551 hm_2501 hk_2502)).symm.trans ((congrArg (hK _) e9).trans (kd_nO' (k := 10)))) (by decide)) q9) (rd_nOR (k := 10) hq_2551 hm_2501 hv_2537)
  have hv_2602 : hR S_2565 906 h = (some q_224) := hf_2567.fr (mem_old hm_2501) (fun q9 => (fun e9 => absurd (((kd_nO (k := 10) hq_2551 hm_2501 hk_2502)).symm.trans ((congrArg (hK _) e9).trans (kd_nO' (k := 10)))) (by decide)) q9) (rd_nOR (k := 10) hq_2551 hm_2501 hv_2538)
  have hv_2603 : hR S_2565 907 h = (some q_266) := hf_2567.fr (mem_old hm_2501) (fun q9 => (fun e9 => absurd (((kd_nO (k := 10) hq_2551 hm_2501 hk_2502)).symm.trans ((congrArg (hK _) e9).trans (kd_nO' (k := 10)))) (by decide)) q9) (rd_nOR (k := 10) hq_2551 hm_2501 hv_2539)
  have hv_2604 : hR S_2565 908 h = (some q_295) := hf_2567.fr (mem_old hm_2501) (fun q9 => (fun e9 => absurd (((kd_nO (k := 10) hq_2551 hm_2501 hk_2502)).symm.trans ((congrArg (hK _) e9).trans (kd_nO' (k := 10)))) (by decide)) q9) (rd_nOR (k := 10) hq_2551 hm_2501 hv_2540)
  have hv_2605 : hR S_2565 909 h = (some q_328) := hf_2567.fr (mem_old hm_2501) (fun q9 => (fun e9 => absurd (((kd_nO (k := 10) hq_2551 hm_2501 hk_2502)).symm.trans ((congrArg (hK _) e9).trans (kd_nO' (k := 10)))) (by decide)) q9) (rd_nOR (k := 10) hq_2551 hm_2501 hv_2541)
  have hv_2606 : hR S_2565 910 h = (some q_425) := hf_2567.fr (mem_old hm_2501) (fun q9 => (fun e9 => absurd (((kd_nO (k := 10) hq_2551 hm_2501 hk_2502)).symm.trans ((congrArg (hK _) e9).trans (kd_nO' (k := 10)))) (by decide)) q9) (rd_nOR (k := 10) hq_2551 hm_2501 hv_2542)
  have hv_2607 : hR S_2565 911 h = (some q_524) := hf_2567.fr (mem_old hm_2501) (fun q9 => (fun e9 => absurd (((kd_nO (k := 10) hq_2551 hm_2501 hk_2502)).symm.trans ((congrArg (hK _) e9).trans (kd_nO' (k := 10)))) (by decide)) q9) (rd_nOR (k := 10) hq_2551 hm_2501 hv_2543)
  have hv_2608 : hR S_2565 912 h = (some q_565) := hf_2567.fr (mem_old hm_2501) (fun q9 => (fun e9 => absurd (((kd_nO (k := 10) hq_2551 hm_2501 hk_2502)).symm.trans ((congrArg (hK _) e9).trans (kd_nO' (k := 10)))) (by decide)) q9) (rd_nOR (k := 10) hq_2551 hm_2501 hv_2544)
  have hv_2609 : hR S_2565 917 h = (some q_610) := hf_2567.fr (mem_old hm_2501) (fun q9 => (fun e9 => absurd (((kd_nO (k := 10) hq_2551 hm_2501 hk_2502)).symm.trans ((congrArg (hK _) e9).trans (kd_nO' (k := 10)))) (by decide)) q9) (rd_nOR (k := 10) hq_2551 hm_2501 hv_2545)
  have hf_2610 : Fm (fun _ _ => False) (fun f9 b9 => b9 = h) (fun _ => False) S S_2565 := hf_2554.then hf_2567 (fun a9 ha9 => ⟨(fun f9 h9 => (fun h9 => h9.elim (fun h8 => absurd (h8.2 ▸ ha9) hz_2552) (fun h8 => absurd (h8.2 ▸ ha9) hz_2552)) h9), (fun f9 h9 => (fun h8 => absurd (h8 ▸ ha9) hz_2552) h9), (fun h9 => h9.elim)⟩)
  have hN_2611 : NL S (L_2492 ++ [q_2550]) S_2565 := NL.mono (show NL S (L_2492 ++ [q_2550]) (nO S_2498 q_2550 10) from NL.nO hN_2547 hq_2551 hz_2552) (fun a9 h9 => hf_2567.mem h9)
  have hG_2612 : Gs h gs_2496 S_2565 := Gs.fm (show Gs h gs_2496 (nO S_2498 q_2550 10) from Gs.nO hG_2548 hq_2551) hf_2567 (fun g9 hg9 p9 hp9 => gn_2553 g9 hg9 p9 hp9)
  have hE_2613 : ELs S_2565 q_161 [q_661, q_784, q_914, q_1038, q_1162, q_1292, q_1416, q_1540, q_1670, q_1794, q_1918, q_2048, q_2172, q_2296, q_2426] := ELs.fm (ELs.nO (S := S_2498) hE_2549) hf_2567 (mem_old hm_2503) (fun h9 => h9)
  have hz_2614 : q_2555 ∉ hL S := fun h9 => e_2558 (hf_2554.mem h9)
  have hN_2615 : NL S ((L_2492 ++ [q_2550]) ++ [q_2555]) S_2565 := NL.app (show NL S (L_2492 ++ [q_2550]) (nO S_2498 q_2550 10) from NL.nO hN_2547 hq_2551 hz_2552) hNl_2563 (fun a9 h9 => hf_2567.mem h9) (fun a9 h9 => hf_2554.mem h9)
  obtain ⟨L_2616, eL_2617⟩ : ∃ L9 : List Nat, L9 = ((L_2492 ++ [q_2550]) ++ [q_2555]) := ⟨_, rfl⟩
  rw [← eL_2617] at hN_2615
  have hGt_2618 : Gt 1 [q_2550, q_2555] S_2565 := ⟨fun i9 k9 h9 => (match i9, h9 with | 0, h9 => (by have e9 : (10 : Nat) = k9 := Option.some.inj h9; subst e9; exact ⟨hm_2579, hk_2580⟩) | 1, h9 => (by have e9 : (15 : Nat) = k9 := Option.some.inj h9; subst e9; exact ⟨e_2559, e_2560⟩) | i9 + 2, h9 => absurd h9 (by simp [gT])), (List.forall_mem_cons.mpr ⟨e_2561, (fun _ h9 => absurd h9 List.not_mem_nil)⟩), (List.forall_mem_cons.mpr ⟨e_2562, (fun _ h9 => absurd h9 List.not_mem_nil)⟩), (fun _ h9 => absurd h9 List.not_mem_nil)⟩
  have hG_2619 : Gs h (gs_2496 ++ [(1, [q_2550, q_2555])]) S_2565 := Gs.snoc hG_2612 (by decide) hGt_2618 (List.forall_mem_cons.mpr ⟨(own_ne hz_2552 hm0_9), (fun _ h9 => absurd h9 List.not_mem_nil)⟩)
  obtain ⟨gs_2620, eG_2621⟩ : ∃ G9 : List (Nat × List Nat), G9 = gs_2496 ++ [(1, [q_2550, q_2555])] := ⟨_, rfl⟩
  rw [← eG_2621] at hG_2619
  refine j_aast (j := 15) (ci := 10) C 20  (by decide) rfl dX9_init_159 hm_2576 hk_2577 (inr_of (n := 16) hn_2578 (vp_lit (by decide))) (by decide) hm_2579 hk_2580 rfl ?_
  have hf_2624 : Fm (fun _ _ => False) (fun f9 b9 => b9 = h) (fun _ => False) S (tR S_2565 q_161 15 (some q_2550)) := (hf_2610.tR _ _ (fun h9 => absurd h9 hz_164))
  obtain ⟨S_2622, eS_2623⟩ : ∃ S9 : Hp, S9 = (tR S_2565 q_161 15 (some q_2550)) := ⟨_, rfl⟩
  refine J.eq (S' := S_2622) eS_2623.symm rfl rfl ?_
  have hm_2625 : h ∈ hL S_2622 := by rw [eS_2623]; exact hm_2574
  have hk_2626 : Kd S_2622 h 9 := by rw [eS_2623]; exact hk_2575
  have hm_2627 : q_161 ∈ hL S_2622 := by rw [eS_2623]; exact hm_2576
  have hk_2628 : Kd S_2622 q_161 20 := by rw [eS_2623]; exact hk_2577
  have hn_2629 : Ln S_2622 q_161 16 := by rw [eS_2623]; exact hn_2578
  have hz_2630 : ∀ j, aI S_2622 q_161 j = 0 := by rw [eS_2623]; exact hz_2568
  have hm_2631 : q_2550 ∈ hL S_2622 := by rw [eS_2623]; exact hm_2579
  have hk_2632 : Kd S_2622 q_2550 10 := by rw [eS_2623]; exact hk_2580
  have hm_2633 : q_266 ∈ hL S_2622 := by rw [eS_2623]; exact hm_2581
  have hk_2634 : Kd S_2622 q_266 13 := by rw [eS_2623]; exact hk_2582
  have hn_2635 : Ln S_2622 q_266 24000 := by rw [eS_2623]; exact hn_2583
  have hz_2636 : ∀ j, aI S_2622 q_266 j = 0 := by rw [eS_2623]; exact hz_2569
  have hm_2637 : q_295 ∈ hL S_2622 := by rw [eS_2623]; exact hm_2584
  have hk_2638 : Kd S_2622 q_295 14 := by rw [eS_2623]; exact hk_2585
  have hn_2639 : Ln S_2622 q_295 16 := by rw [eS_2623]; exact hn_2586
  have hz_2640 : ∀ j, aI S_2622 q_295 j = 0 := by rw [eS_2623]; exact hz_2570
  have hm_2641 : q_524 ∈ hL S_2622 := by rw [eS_2623]; exact hm_2587
  have hk_2642 : Kd S_2622 q_524 18 := by rw [eS_2623]; exact hk_2588
  have hn_2643 : Ln S_2622 q_524 3 := by rw [eS_2623]; exact hn_2589
  have hz_2644 : ∀ j, aI S_2622 q_524 j = 0 := by rw [eS_2623]; exact hz_2571
  have hm_2645 : q_565 ∈ hL S_2622 := by rw [eS_2623]; exact hm_2590
  have hk_2646 : Kd S_2622 q_565 19 := by rw [eS_2623]; exact hk_2591
  have hn_2647 : Ln S_2622 q_565 4 := by rw [eS_2623]; exact hn_2592
  have hz_2648 : ∀ j, aI S_2622 q_565 j = 0 := by rw [eS_2623]; exact hz_2572
  have hm_2649 : q_610 ∈ hL S_2622 := by rw [eS_2623]; exact hm_2593
  have hk_2650 : Kd S_2622 q_610 14 := by rw [eS_2623]; exact hk_2594
  have hn_2651 : Ln S_2622 q_610 12 := by rw [eS_2623]; exact hn_2595
  have hz_2652 : ∀ j, aI S_2622 q_610 j = 0 := by rw [eS_2623]; exact hz_2573
  have hv_2653 : hI S_2622 1000 q_2550 = 1 := by rw [eS_2623]; exact e_2556
  have hv_2654 : hI S_2622 1001 q_2550 = 1 := by rw [eS_2623]; exact e_2557
  have hv_2655 : hR S_2622 1003 q_2550 = (some q_2555) := by rw [eS_2623]; exact e_2562
  have hv_2656 : hR S_2622 900 h = (some s0) := by rw [eS_2623]; exact hv_2596
  have hv_2657 : hR S_2622 901 h = (some q_1) := by rw [eS_2623]; exact hv_2597
  have hv_2658 : hR S_2622 902 h = (some q_41) := by rw [eS_2623]; exact hv_2598
  have hv_2659 : hR S_2622 903 h = (some q_126) := by rw [eS_2623]; exact hv_2599
  have hv_2660 : hR S_2622 904 h = (some q_161) := by rw [eS_2623]; exact hv_2600
  have hv_2661 : hR S_2622 905 h = (some q_183) := by rw [eS_2623]; exact hv_2601
  have hv_2662 : hR S_2622 906 h = (some q_224) := by rw [eS_2623]; exact hv_2602
  have hv_2663 : hR S_2622 907 h = (some q_266) := by rw [eS_2623]; exact hv_2603
  have hv_2664 : hR S_2622 908 h = (some q_295) := by rw [eS_2623]; exact hv_2604
  have hv_2665 : hR S_2622 909 h = (some q_328) := by rw [eS_2623]; exact hv_2605
  have hv_2666 : hR S_2622 910 h = (some q_425) := by rw [eS_2623]; exact hv_2606
  have hv_2667 : hR S_2622 911 h = (some q_524) := by rw [eS_2623]; exact hv_2607
  have hv_2668 : hR S_2622 912 h = (some q_565) := by rw [eS_2623]; exact hv_2608
  have hv_2669 : hR S_2622 917 h = (some q_610) := by rw [eS_2623]; exact hv_2609
  have hf_2670 : Fm (fun _ _ => False) (fun f9 b9 => b9 = h) (fun _ => False) S S_2622 := by rw [eS_2623]; exact hf_2624
  have hN_2671 : NL S L_2616 S_2622 := by rw [eS_2623]; exact (NL.tR (S := S_2565) hN_2615)
  have hG_2672 : Gs h gs_2620 S_2622 := by rw [eS_2623]; exact (Gs.tR (S := S_2565) hG_2619)
  have hE_2673 : ELs S_2622 q_161 [q_661, q_784, q_914, q_1038, q_1162, q_1292, q_1416, q_1540, q_1670, q_1794, q_1918, q_2048, q_2172, q_2296, q_2426, q_2550] := by rw [eS_2623]; exact (show ELs (tR S_2565 q_161 15 (some q_2550)) q_161 [q_661, q_784, q_914, q_1038, q_1162, q_1292, q_1416, q_1540, q_1670, q_1794, q_1918, q_2048, q_2172, q_2296, q_2426, q_2550] from ELs.snoc hE_2613 rfl)
  show J _ _ _ _ _ 160 _
  refine j_iinc (q := 0) (v := 16) (lv' := [(2, .int 16), (0, .ref h), (1, .ref s0)]) C dX9_init_160 rfl (by decide) (by rw [hn9]; decide) rfl ?_
  refine j_goto (tgt := 138) C dX9_init_163 (by decide) ?_
  refine j_iload_n C dX9_init_138 rfl 0 rfl ?_
  refine j_aload_n C dX9_init_139 rfl 1 rfl ?_
  refine j_getr (f := 904) (v := q_161) C flX9_34 dX9_init_140 hm_2625 hk_2626 (by decide) rfl hv_2660 ?_
  refine j_alen (v := 16) C dX9_init_143 hm_2627 hk_2628 (by decide) (by decide) (len_of (n := 16) hn_2629 (by decide)) ?_
  refine j_ic_ge (tgt := 166) C dX9_init_144 (by decide) (fun c9 => ?_) (fun c9 => absurd (by decide) c9)
  refine j_iconst (v := 0) C dX9_init_166 (by decide) ?_
  show J _ _ _ _ _ 167 _
  refine j_istore_n (lv' := [(2, .int 0), (0, .ref h), (1, .ref s0)]) C dX9_init_167 rfl (by rw [hn9]; decide) rfl ?_
  exact x9_t6 (q_1 := q_1) (q_5 := q_5) (q_6 := q_6) (q_41 := q_41) (q_47 := q_47) (q_48 := q_48) (q_49 := q_49) (q_50 := q_50) (q_51 := q_51) (q_52 := q_52) (q_53 := q_53) (q_54 := q_54) (q_126 := q_126) (q_132 := q_132) (q_161 := q_161) (q_183 := q_183) (q_188 := q_188) (q_224 := q_224) (q_230 := q_230) (q_266 := q_266) (q_295 := q_295) (q_328 := q_328) (q_333 := q_333) (q_334 := q_334) (q_335 := q_335) (q_336 := q_336) (q_337 := q_337) (q_338 := q_338) (q_339 := q_339) (q_340 := q_340) (q_425 := q_425) (q_431 := q_431) (q_432 := q_432) (q_433 := q_433) (q_434 := q_434) (q_435 := q_435) (q_436 := q_436) (q_437 := q_437) (q_438 := q_438) (q_524 := q_524) (q_565 := q_565) (q_610 := q_610) (q_661 := q_661) (q_666 := q_666) (q_784 := q_784) (q_789 := q_789) (q_914 := q_914) (q_919 := q_919) (q_1038 := q_1038) (q_1043 := q_1043) (q_1162 := q_1162) (q_1167 := q_1167) (q_1292 := q_1292) (q_1297 := q_1297) (q_1416 := q_1416) (q_1421 := q_1421) (q_1540 := q_1540) (q_1545 := q_1545) (q_1670 := q_1670) (q_1675 := q_1675) (q_1794 := q_1794) (q_1799 := q_1799) (q_1918 := q_1918) (q_1923 := q_1923) (q_2048 := q_2048) (q_2053 := q_2053) (q_2172 := q_2172) (q_2177 := q_2177) (q_2296 := q_2296) (q_2301 := q_2301) (q_2426 := q_2426) (q_2431 := q_2431) (q_2550 := q_2550) (q_2555 := q_2555) hn9 C M hm9 hm0_9 hz_164 hz_269 hz_297 hz_527 hz_567 hz_612 hm_2625 hk_2626 hm_2627 hk_2628 hn_2629 hz_2630 hm_2633 hk_2634 hn_2635 hz_2636 hm_2637 hk_2638 hn_2639 hz_2640 hm_2641 hk_2642 hn_2643 hz_2644 hm_2645 hk_2646 hn_2647 hz_2648 hm_2649 hk_2650 hn_2651 hz_2652 hv_2656 hv_2657 hv_2658 hv_2659 hv_2660 hv_2661 hv_2662 hv_2663 hv_2664 hv_2665 hv_2666 hv_2667 hv_2668 hv_2669 (by have h9 := hN_2671; rw [eL_2617, eL_2493, eL_2423] at h9; simpa only [List.nil_append, List.cons_append, List.append_assoc] using h9) (by have h9 := hG_2672; rw [eG_2621, eG_2497, eG_2425] at h9; simpa only [List.nil_append, List.cons_append, List.append_assoc] using h9) hE_2673 hf_2670

set_option maxRecDepth 100000 in
set_option maxHeartbeats 8000000 in
theorem x9_t4 {x : JX} {S S_1990 : Hp} {h s0 q_1 q_5 q_6 q_41 q_47 q_48 q_49 q_50 q_51 q_52 q_53 q_54 q_126 q_132 q_161 q_183 q_188 q_224 q_230 q_266 q_295 q_328 q_333 q_334 q_335 q_336 q_337 q_338 q_339 q_340 q_425 q_431 q_432 q_433 q_434 q_435 q_436 q_437 q_438 q_524 q_565 q_610 q_661 q_666 q_784 q_789 q_914 q_919 q_1038 q_1043 q_1162 q_1167 q_1292 q_1297 q_1416 q_1421 q_1540 q_1545 q_1670 q_1675 q_1794 q_1799 q_1918 q_1923 : Nat} (hn9 : x_n x = 3) (C : CB x RX9 cX9_init) (M : CM x 4 113 68424 none S (fun r S' => r = none ∧ Fm (fun _ _ => False) (fun f9 b9 => b9 = h) (fun _ => False) S S' ∧ hR S' 900 h = some s0 ∧ ∃ l : List Nat, Wt s9K s9N s9P s9Q (fun i => (h :: l).getD i 0) S' ∧ l.length = 105 ∧ NL S l S' ∧ (∀ j, aI S' ((h :: l).getD 6 0) j = 0) ∧ (∀ j, aI S' ((h :: l).getD 9 0) j = 0) ∧ (∀ j, aI S' ((h :: l).getD 14 0) j = 0) ∧ (∀ j, aI S' ((h :: l).getD 19 0) j = 0))) (hm9 : (x_meth x).name = yX9_init.name) (hm0_9 : h ∈ hL S) (hz_164 : q_161 ∉ hL S) (hz_269 : q_266 ∉ hL S) (hz_297 : q_295 ∉ hL S) (hz_527 : q_524 ∉ hL S) (hz_567 : q_565 ∉ hL S) (hz_612 : q_610 ∉ hL S) (hm_1993 : h ∈ hL S_1990) (hk_1994 : Kd S_1990 h 9) (hm_1995 : q_161 ∈ hL S_1990) (hk_1996 : Kd S_1990 q_161 20) (hn_1997 : Ln S_1990 q_161 16) (hz_1998 : ∀ j, aI S_1990 q_161 j = 0) (hm_2001 : q_266 ∈ hL S_1990) (hk_2002 : Kd S_1990 q_266 13) (hn_2003 : Ln S_1990 q_266 24000) (hz_2004 : ∀ j, aI S_1990 q_266 j = 0) (hm_2005 : q_295 ∈ hL S_1990) (hk_2006 : Kd S_1990 q_295 14) (hn_2007 : Ln S_1990 q_295 16) (hz_2008 : ∀ j, aI S_1990 q_295 j = 0) (hm_2009 : q_524 ∈ hL S_1990) (hk_2010 : Kd S_1990 q_524 18) (hn_2011 : Ln S_1990 q_524 3) (hz_2012 : ∀ j, aI S_1990 q_524 j = 0) (hm_2013 : q_565 ∈ hL S_1990) (hk_2014 : Kd S_1990 q_565 19) (hn_2015 : Ln S_1990 q_565 4) (hz_2016 : ∀ j, aI S_1990 q_565 j = 0) (hm_2017 : q_610 ∈ hL S_1990) (hk_2018 : Kd S_1990 q_610 14) (hn_2019 : Ln S_1990 q_610 12) (hz_2020 : ∀ j, aI S_1990 q_610 j = 0) (hv_2024 : hR S_1990 900 h = (some s0)) (hv_2025 : hR S_1990 901 h = (some q_1)) (hv_2026 : hR S_1990 902 h = (some q_41)) (hv_2027 : hR S_1990 903 h = (some q_126)) (hv_2028 : hR S_1990 904 h = (some q_161)) (hv_2029 : hR S_1990 905 h = (some q_183)) (hv_2030 : hR S_1990 906 h = (some q_224)) (hv_2031 : hR S_1990 907 h = (some q_266)) (hv_2032 : hR S_1990 908 h = (some q_295)) (hv_2033 : hR S_1990 909 h = (some q_328)) (hv_2034 : hR S_1990 910 h = (some q_425)) (hv_2035 : hR S_1990 911 h = (some q_524)) (hv_2036 : hR S_1990 912 h = (some q_565)) (hv_2037 : hR S_1990 917 h = (some q_610)) (hN_2042 : NL S [q_1, q_5, q_6, q_41, q_47, q_48, q_49, q_50, q_51, q_52, q_53, q_54, q_126, q_132, q_161, q_183, q_188, q_224, q_230, q_266, q_295, q_328, q_333, q_334, q_335, q_336, q_337, q_338, q_339, q_340, q_425, q_431, q_432, q_433, q_434, q_435, q_436, q_437, q_438, q_524, q_565, q_610, q_661, q_666, q_784, q_789, q_914, q_919, q_1038, q_1043, q_1162, q_1167, q_1292, q_1297, q_1416, q_1421, q_1540, q_1545, q_1670, q_1675, q_1794, q_1799, q_1918, q_1923] S_1990) (hG_2043 : Gs h [(3, [q_1, q_5, q_6]), (4, [q_41, q_47, q_48, q_49, q_50, q_51, q_52, q_53, q_54]), (0, [q_126, q_132]), (1, [q_183, q_188]), (0, [q_224, q_230]), (2, [q_328, q_333, q_334, q_335, q_336, q_337, q_338, q_339, q_340]), (2, [q_425, q_431, q_432, q_433, q_434, q_435, q_436, q_437, q_438]), (1, [q_661, q_666]), (1, [q_784, q_789]), (1, [q_914, q_919]), (1, [q_1038, q_1043]), (1, [q_1162, q_1167]), (1, [q_1292, q_1297]), (1, [q_1416, q_1421]), (1, [q_1540, q_1545]), (1, [q_1670, q_1675]), (1, [q_1794, q_1799]), (1, [q_1918, q_1923])] S_1990) (hE_2041 : ELs S_1990 q_161 [q_661, q_784, q_914, q_1038, q_1162, q_1292, q_1416, q_1540, q_1670, q_1794, q_1918]) (hf_2038 : Fm (fun _ _ => False) (fun f9 b9 => b9 = h) (fun _ => False) S S_1990) : J x (0 + 1 + 4 + 1 + 8 + 1 + 1 + 1 + 1 + 1 + 1 + 1 + 1 + 1 + 1 + 8 + 1 + 8 + 1 + 1 + 1 + 1 + 1 + 1 + 1 + 1 + 1 + 1 + 1 + 1 + 1 + 1 + 1 + 1 + 1 + 1 + 1 + 1 + 1 + 1 + 1 + 1 + 1) (0 + 15 + 20045 + 10 + 23174 + 1 + 16 + 16 + 4 + 16 + 1 + 16 + 24000 + 16 + 21 + 117 + 21 + 117 + 3 + 4 + 12 + 4 + 16 + 4 + 16 + 4 + 16 + 4 + 16 + 4 + 16 + 4 + 16 + 4 + 16 + 4 + 16 + 4 + 16 + 4 + 16 + 4 + 16) S_1990 [(2, .int 11), (0, .ref h), (1, .ref s0)] 138 [] := by
  obtain ⟨L_2044, eL_2045⟩ : ∃ L9 : List Nat, L9 = [q_1, q_5, q_6, q_41, q_47, q_48, q_49, q_50, q_51, q_52, q_53, q_54, q_126, q_132, q_161, q_183, q_188, q_224, q_230, q_266, q_295, q_328, q_333, q_334, q_335, q_336, q_337, q_338, q_339, q_340, q_425, q_431, q_432, q_433, q_434, q_435, q_436, q_437, q_438, q_524, q_565, q_610, q_661, q_666, q_784, q_789, q_914, q_919, q_1038, q_1043, q_1162, q_1167, q_1292, q_1297, q_1416, q_1421, q_1540, q_1545, q_1670, q_1675, q_1794, q_1799, q_1918, q_1923] := ⟨_, rfl⟩
  rw [← eL_2045] at hN_2042
  obtain ⟨gs_2046, eG_2047⟩ : ∃ G9 : List (Nat × List Nat), G9 = [(3, [q_1, q_5, q_6]), (4, [q_41, q_47, q_48, q_49, q_50, q_51, q_52, q_53, q_54]), (0, [q_126, q_132]), (1, [q_183, q_188]), (0, [q_224, q_230]), (2, [q_328, q_333, q_334, q_335, q_336, q_337, q_338, q_339, q_340]), (2, [q_425, q_431, q_432, q_433, q_434, q_435, q_436, q_437, q_438]), (1, [q_661, q_666]), (1, [q_784, q_789]), (1, [q_914, q_919]), (1, [q_1038, q_1043]), (1, [q_1162, q_1167]), (1, [q_1292, q_1297]), (1, [q_1416, q_1421]), (1, [q_1540, q_1545]), (1, [q_1670, q_1675]), (1, [q_1794, q_1799]), (1, [q_1918, q_1923])] := ⟨_, rfl⟩
  rw [← eG_2047] at hG_2043
  refine j_iload_n C dX9_init_138 rfl 0 rfl ?_
  refine j_aload_n C dX9_init_139 rfl 1 rfl ?_
  refine j_getr (f := 904) (v := q_161) C flX9_34 dX9_init_140 hm_1993 hk_1994 (by decide) rfl hv_2028 ?_
  refine j_alen (v := 16) C dX9_init_143 hm_1995 hk_1996 (by decide) (by decide) (len_of (n := 16) hn_1997 (by decide)) ?_
  show J _ _ _ _ _ 144 _
  refine j_ic_ge (tgt := 166) C dX9_init_144 (by decide) (fun c9 => absurd c9 (by decide)) (fun c9 => ?_)
  refine j_aload_n C dX9_init_147 rfl 1 rfl ?_
  refine j_getr (f := 904) (v := q_161) C flX9_34 dX9_init_148 hm_1993 hk_1994 (by decide) rfl hv_2028 ?_
  refine j_iload_n C dX9_init_151 rfl 0 rfl ?_
  refine j_new (N := 4) C (ci := 10) rfl rfl klX9_32 knX10 kiX10 (M.cells (by decide)) (M.slots (by decide)) dX9_init_152 (fun q_2048 hq_2049 => ?_)
  have hz_2050 : q_2048 ∉ hL S := fun h9 => hq_2049 (hf_2038.mem h9)
  have gn_2051 : ∀ g9 ∈ gs_2046, ∀ p9 ∈ (gT g9.1).2.2, g9.2.getD p9.2.1 0 ≠ q_2048 := Gs.ne hG_2043 hq_2049
  refine j_dup C dX9_init_155 rfl ?_
  have hf_2052 : Fm (fun _ _ => False) (fun f9 b9 => b9 = h) (fun _ => False) S (nO S_1990 q_2048 10) := (hf_2038.nO _ hq_2049)
  refine j_callI C [] [.ref q_2048, .int 11, .ref q_161] mlX9_38 mcX10_init (c_X10_init (nO S_1990 q_2048 10) q_2048 mem_new (kd_nO' (k := 10))) (M.rm (by decide) (by decide) (Nat.le_of_ble_eq_true rfl) (Nat.le_of_ble_eq_true rfl)) rfl rfl (Nat.le_of_ble_eq_true rfl) dX9_init_156 (fun r_2062 S_2063 hp_2064 => ?_)
  obtain ⟨rfl, hf_2065, e_2054, e_2055, q_2053, e_2056, e_2057, e_2058, e_2059, e_2060, hNl_2061⟩ := hp_2064
  refine J.eq (st' := [.ref q_2048, .int 11, .ref q_161]) rfl rfl rfl ?_
  have hz_2066 : ∀ j, aI S_2063 q_161 j = 0 := fun j9 => (hf_2065.ai (mem_old hm_1995) (fun h9 => h9) j9).trans (hz_1998 j9)
  have hz_2067 : ∀ j, aI S_2063 q_266 j = 0 := fun j9 => (hf_2065.ai (mem_old hm_2001) (fun h9 => h9) j9).trans (hz_2004 j9)
  have hz_2068 : ∀ j, aI S_2063 q_295 j = 0 := fun j9 => (hf_2065.ai (mem_old hm_2005) (fun h9 => h9) j9).trans (hz_2008 j9)
  have hz_2069 : ∀ j, aI S_2063 q_524 j = 0 := fun j9 => (hf_2065.ai (mem_old hm_2009) (fun h9 => h9) j9).trans (hz_2012 j9)
  have hz_2070 : ∀ j, aI S_2063 q_565 j = 0 := fun j9 => (hf_2065.ai (mem_old hm_2013) (fun h9 => h9) j9).trans (hz_2016 j9)
  have hz_2071 : ∀ j, aI S_2063 q_610 j = 0 := fun j9 => (hf_2065.ai (mem_old hm_2017) (fun h9 => h9) j9).trans (hz_2020 j9)
  have hm_2072 : h ∈ hL S_2063 := hf_2065.mem (mem_old hm_1993)
  have hk_2073 : Kd S_2063 h 9 := hf_2065.kd (mem_old hm_1993) (kd_nO (k := 10) hq_2049 hm_1993 hk_1994)
  have hm_2074 : q_161 ∈ hL S_2063 := hf_2065.mem (mem_old hm_1995)
  have hk_2075 : Kd S_2063 q_161 20 := hf_2065.kd (mem_old hm_1995) (kd_nO (k := 10) hq_2049 hm_1995 hk_1996)
  have hn_2076 : Ln S_2063 q_161 16 := hf_2065.ln (mem_old hm_1995) hn_1997
  have hm_2077 : q_2048 ∈ hL S_2063 := hf_2065.mem mem_new
  have hk_2078 : Kd S_2063 q_2048 10 := hf_2065.kd mem_new (kd_nO' (k := 10))
  have hm_2079 : q_266 ∈ hL S_2063 := hf_2065.mem (mem_old hm_2001)
  have hk_2080 : Kd S_2063 q_266 13 := hf_2065.kd (mem_old hm_2001) (kd_nO (k := 10) hq_2049 hm_2001 hk_2002)
  have hn_2081 : Ln S_2063 q_266 24000 := hf_2065.ln (mem_old hm_2001) hn_2003
  have hm_2082 : q_295 ∈ hL S_2063 := hf_2065.mem (mem_old hm_2005)
  have hk_2083 : Kd S_2063 q_295 14 := hf_2065.kd (mem_old hm_2005) (kd_nO (k := 10) hq_2049 hm_2005 hk_2006)
  have hn_2084 : Ln S_2063 q_295 16 := hf_2065.ln (mem_old hm_2005) hn_2007
  have hm_2085 : q_524 ∈ hL S_2063 := hf_2065.mem (mem_old hm_2009)
  have hk_2086 : Kd S_2063 q_524 18 := hf_2065.kd (mem_old hm_2009) (kd_nO (k := 10) hq_2049 hm_2009 hk_2010)
  have hn_2087 : Ln S_2063 q_524 3 := hf_2065.ln (mem_old hm_2009) hn_2011
  have hm_2088 : q_565 ∈ hL S_2063 := hf_2065.mem (mem_old hm_2013)
  have hk_2089 : Kd S_2063 q_565 19 := hf_2065.kd (mem_old hm_2013) (kd_nO (k := 10) hq_2049 hm_2013 hk_2014)
  have hn_2090 : Ln S_2063 q_565 4 := hf_2065.ln (mem_old hm_2013) hn_2015
  have hm_2091 : q_610 ∈ hL S_2063 := hf_2065.mem (mem_old hm_2017)
  have hk_2092 : Kd S_2063 q_610 14 := hf_2065.kd (mem_old hm_2017) (kd_nO (k := 10) hq_2049 hm_2017 hk_2018)
  have hn_2093 : Ln S_2063 q_610 12 := hf_2065.ln (mem_old hm_2017) hn_2019
  have hv_2094 : hR S_2063 900 h = (some s0) := hf_2065.fr (mem_old hm_1993) (fun q9 => (fun e9 => absurd (((kd_nO (k := 10) hq_2049 hm_1993 hk_1994)).symm.trans ((congrArg (hK _) e9).trans (kd_nO' (k := 10)))) (by decide)) q9) (rd_nOR (k := 10) hq_2049 hm_1993 hv_2024)
  have hv_2095 : hR S_2063 901 h = (some q_1) := hf_2065.fr (mem_old hm_1993) (fun q9 => (fun e9 => absurd (((kd_nO (k := 10) hq_2049 hm_1993 hk_1994)).symm.trans ((congrArg (hK _) e9).trans (kd_nO' (k := 10)))) (by decide)) q9) (rd_nOR (k := 10) hq_2049 hm_1993 hv_2025)
  have hv_2096 : hR S_2063 902 h = (some q_41) := hf_2065.fr (mem_old hm_1993) (fun q9 => (fun e9 => absurd (((kd_nO (k := 10) hq_2049 hm_1993 hk_1994)).symm.trans ((congrArg (hK _) e9).trans (kd_nO' (k := 10)))) (by decide)) q9) (rd_nOR (k := 10) hq_2049 hm_1993 hv_2026)
  have hv_2097 : hR S_2063 903 h = (some q_126) := hf_2065.fr (mem_old hm_1993) (fun q9 => (fun e9 => absurd (((kd_nO (k := 10) hq_2049 hm_1993 hk_1994)).symm.trans ((congrArg (hK _) e9).trans (kd_nO' (k := 10)))) (by decide)) q9) (rd_nOR (k := 10) hq_2049 hm_1993 hv_2027)
  have hv_2098 : hR S_2063 904 h = (some q_161) := hf_2065.fr (mem_old hm_1993) (fun q9 => (fun e9 => absurd (((kd_nO (k := 10) hq_2049 hm_1993 hk_1994)).symm.trans ((congrArg (hK _) e9).trans (kd_nO' (k := 10)))) (by decide)) q9) (rd_nOR (k := 10) hq_2049 hm_1993 hv_2028)
  have hv_2099 : hR S_2063 905 h = (some q_183) := hf_2065.fr (mem_old hm_1993) (fun q9 => (fun e9 => absurd (((kd_nO (k := 10) hq_2049 hm_1993 hk_1994)).symm.trans ((congrArg (hK _) e9).trans (kd_nO' (k := 10)))) (by decide)) q9) (rd_nOR (k := 10) hq_2049 hm_1993 hv_2029)
  have hv_2100 : hR S_2063 906 h = (some q_224) := hf_2065.fr (mem_old hm_1993) (fun q9 => (fun e9 => absurd (((kd_nO (k := 10) hq_2049 hm_1993 hk_1994)).symm.trans ((congrArg (hK _) e9).trans (kd_nO' (k := 10)))) (by decide)) q9) (rd_nOR (k := 10) hq_2049 hm_1993 hv_2030)
  have hv_2101 : hR S_2063 907 h = (some q_266) := hf_2065.fr (mem_old hm_1993) (fun q9 => (fun e9 => absurd (((kd_nO (k := 10) hq_2049 hm_1993 hk_1994)).symm.trans ((congrArg (hK _) e9).trans (kd_nO' (k := 10)))) (by decide)) q9) (rd_nOR (k := 10) hq_2049 hm_1993 hv_2031)
  have hv_2102 : hR S_2063 908 h = (some q_295) := hf_2065.fr (mem_old hm_1993) (fun q9 => (fun e9 => absurd (((kd_nO (k := 10) hq_2049 hm_1993 hk_1994)).symm.trans ((congrArg (hK _) e9).trans (kd_nO' (k := 10)))) (by decide)) q9) (rd_nOR (k := 10) hq_2049 hm_1993 hv_2032)
  have hv_2103 : hR S_2063 909 h = (some q_328) := hf_2065.fr (mem_old hm_1993) (fun q9 => (fun e9 => absurd (((kd_nO (k := 10) hq_2049 hm_1993 hk_1994)).symm.trans ((congrArg (hK _) e9).trans (kd_nO' (k := 10)))) (by decide)) q9) (rd_nOR (k := 10) hq_2049 hm_1993 hv_2033)
  have hv_2104 : hR S_2063 910 h = (some q_425) := hf_2065.fr (mem_old hm_1993) (fun q9 => (fun e9 => absurd (((kd_nO (k := 10) hq_2049 hm_1993 hk_1994)).symm.trans ((congrArg (hK _) e9).trans (kd_nO' (k := 10)))) (by decide)) q9) (rd_nOR (k := 10) hq_2049 hm_1993 hv_2034)
  have hv_2105 : hR S_2063 911 h = (some q_524) := hf_2065.fr (mem_old hm_1993) (fun q9 => (fun e9 => absurd (((kd_nO (k := 10) hq_2049 hm_1993 hk_1994)).symm.trans ((congrArg (hK _) e9).trans (kd_nO' (k := 10)))) (by decide)) q9) (rd_nOR (k := 10) hq_2049 hm_1993 hv_2035)
  have hv_2106 : hR S_2063 912 h = (some q_565) := hf_2065.fr (mem_old hm_1993) (fun q9 => (fun e9 => absurd (((kd_nO (k := 10) hq_2049 hm_1993 hk_1994)).symm.trans ((congrArg (hK _) e9).trans (kd_nO' (k := 10)))) (by decide)) q9) (rd_nOR (k := 10) hq_2049 hm_1993 hv_2036)
  have hv_2107 : hR S_2063 917 h = (some q_610) := hf_2065.fr (mem_old hm_1993) (fun q9 => (fun e9 => absurd (((kd_nO (k := 10) hq_2049 hm_1993 hk_1994)).symm.trans ((congrArg (hK _) e9).trans (kd_nO' (k := 10)))) (by decide)) q9) (rd_nOR (k := 10) hq_2049 hm_1993 hv_2037)
  have hf_2108 : Fm (fun _ _ => False) (fun f9 b9 => b9 = h) (fun _ => False) S S_2063 := hf_2052.then hf_2065 (fun a9 ha9 => ⟨(fun f9 h9 => (fun h9 => h9.elim (fun h8 => absurd (h8.2 ▸ ha9) hz_2050) (fun h8 => absurd (h8.2 ▸ ha9) hz_2050)) h9), (fun f9 h9 => (fun h8 => absurd (h8 ▸ ha9) hz_2050) h9), (fun h9 => h9.elim)⟩)
  have hN_2109 : NL S (L_2044 ++ [q_2048]) S_2063 := NL.mono (show NL S (L_2044 ++ [q_2048]) (nO S_1990 q_2048 10) from NL.nO hN_2042 hq_2049 hz_2050) (fun a9 h9 => hf_2065.mem h9)
  have hG_2110 : Gs h gs_2046 S_2063 := Gs.fm (show Gs h gs_2046 (nO S_1990 q_2048 10) from Gs.nO hG_2043 hq_2049) hf_2065 (fun g9 hg9 p9 hp9 => gn_2051 g9 hg9 p9 hp9)
  have hE_2111 : ELs S_2063 q_161 [q_661, q_784, q_914, q_1038, q_1162, q_1292, q_1416, q_1540, q_1670, q_1794, q_1918] := ELs.fm (ELs.nO (S := S_1990) hE_2041) hf_2065 (mem_old hm_1995) (fun h9 => h9)
  have hz_2112 : q_2053 ∉ hL S := fun h9 => e_2056 (hf_2052.mem h9)
  have hN_2113 : NL S ((L_2044 ++ [q_2048]) ++ [q_2053]) S_2063 := NL.app (show NL S (L_2044 ++ [q_2048]) (nO S_1990 q_2048 10) from NL.nO hN_2042 hq_2049 hz_2050) hNl_2061 (fun a9 h9 => hf_2065.mem h9) (fun a9 h9 => hf_2052.mem h9)
  obtain ⟨L_2114, eL_2115⟩ : ∃ L9 : List Nat, L9 = ((L_2044 ++ [q_2048]) ++ [q_2053]) := ⟨_, rfl⟩
  rw [← eL_2115] at hN_2113
  have hGt_2116 : Gt 1 [q_2048, q_2053] S_2063 := ⟨fun i9 k9 h9 => (match i9, h9 with | 0, h9 => (by have e9 : (10 : Nat) = k9 := Option.some.inj h9; subst e9; exact ⟨hm_2077, hk_2078⟩) | 1, h9 => (by have e9 : (15 : Nat) = k9 := Option.some.inj h9; subst e9; exact ⟨e_2057, e_2058⟩) | i9 + 2, h9 => absurd h9 (by simp [gT])), (List.forall_mem_cons.mpr ⟨e_2059, (fun _ h9 => absurd h9 List.not_mem_nil)⟩), (List.forall_mem_cons.mpr ⟨e_2060, (fun _ h9 => absurd h9 List.not_mem_nil)⟩), (fun _ h9 => absurd h9 List.not_mem_nil)⟩
  have hG_2117 : Gs h (gs_2046 ++ [(1, [q_2048, q_2053])]) S_2063 := Gs.snoc hG_2110 (by decide) hGt_2116 (List.forall_mem_cons.mpr ⟨(own_ne hz_2050 hm0_9), (fun _ h9 => absurd h9 List.not_mem_nil)⟩)
  obtain ⟨gs_2118, eG_2119⟩ : ∃ G9 : List (Nat × List Nat), G9 = gs_2046 ++ [(1, [q_2048, q_2053])] := ⟨_, rfl⟩
  rw [← eG_2119] at hG_2117
  refine j_aast (j := 11) (ci := 10) C 20  (by decide) rfl dX9_init_159 hm_2074 hk_2075 (inr_of (n := 16) hn_2076 (vp_lit (by decide))) (by decide) hm_2077 hk_2078 rfl ?_
  have hf_2122 : Fm (fun _ _ => False) (fun f9 b9 => b9 = h) (fun _ => False) S (tR S_2063 q_161 11 (some q_2048)) := (hf_2108.tR _ _ (fun h9 => absurd h9 hz_164))
  obtain ⟨S_2120, eS_2121⟩ : ∃ S9 : Hp, S9 = (tR S_2063 q_161 11 (some q_2048)) := ⟨_, rfl⟩
  refine J.eq (S' := S_2120) eS_2121.symm rfl rfl ?_
  have hm_2123 : h ∈ hL S_2120 := by rw [eS_2121]; exact hm_2072
  have hk_2124 : Kd S_2120 h 9 := by rw [eS_2121]; exact hk_2073
  have hm_2125 : q_161 ∈ hL S_2120 := by rw [eS_2121]; exact hm_2074
  have hk_2126 : Kd S_2120 q_161 20 := by rw [eS_2121]; exact hk_2075
  have hn_2127 : Ln S_2120 q_161 16 := by rw [eS_2121]; exact hn_2076
  have hz_2128 : ∀ j, aI S_2120 q_161 j = 0 := by rw [eS_2121]; exact hz_2066
  have hm_2129 : q_2048 ∈ hL S_2120 := by rw [eS_2121]; exact hm_2077
  have hk_2130 : Kd S_2120 q_2048 10 := by rw [eS_2121]; exact hk_2078
  have hm_2131 : q_266 ∈ hL S_2120 := by rw [eS_2121]; exact hm_2079
  have hk_2132 : Kd S_2120 q_266 13 := by rw [eS_2121]; exact hk_2080
  have hn_2133 : Ln S_2120 q_266 24000 := by rw [eS_2121]; exact hn_2081
  have hz_2134 : ∀ j, aI S_2120 q_266 j = 0 := by rw [eS_2121]; exact hz_2067
  have hm_2135 : q_295 ∈ hL S_2120 := by rw [eS_2121]; exact hm_2082
  have hk_2136 : Kd S_2120 q_295 14 := by rw [eS_2121]; exact hk_2083
  have hn_2137 : Ln S_2120 q_295 16 := by rw [eS_2121]; exact hn_2084
  have hz_2138 : ∀ j, aI S_2120 q_295 j = 0 := by rw [eS_2121]; exact hz_2068
  have hm_2139 : q_524 ∈ hL S_2120 := by rw [eS_2121]; exact hm_2085
  have hk_2140 : Kd S_2120 q_524 18 := by rw [eS_2121]; exact hk_2086
  have hn_2141 : Ln S_2120 q_524 3 := by rw [eS_2121]; exact hn_2087
  have hz_2142 : ∀ j, aI S_2120 q_524 j = 0 := by rw [eS_2121]; exact hz_2069
  have hm_2143 : q_565 ∈ hL S_2120 := by rw [eS_2121]; exact hm_2088
  have hk_2144 : Kd S_2120 q_565 19 := by rw [eS_2121]; exact hk_2089
  have hn_2145 : Ln S_2120 q_565 4 := by rw [eS_2121]; exact hn_2090
  have hz_2146 : ∀ j, aI S_2120 q_565 j = 0 := by rw [eS_2121]; exact hz_2070
  have hm_2147 : q_610 ∈ hL S_2120 := by rw [eS_2121]; exact hm_2091
  have hk_2148 : Kd S_2120 q_610 14 := by rw [eS_2121]; exact hk_2092
  have hn_2149 : Ln S_2120 q_610 12 := by rw [eS_2121]; exact hn_2093
  have hz_2150 : ∀ j, aI S_2120 q_610 j = 0 := by rw [eS_2121]; exact hz_2071
  have hv_2151 : hI S_2120 1000 q_2048 = 1 := by rw [eS_2121]; exact e_2054
  have hv_2152 : hI S_2120 1001 q_2048 = 1 := by rw [eS_2121]; exact e_2055
  have hv_2153 : hR S_2120 1003 q_2048 = (some q_2053) := by rw [eS_2121]; exact e_2060
  have hv_2154 : hR S_2120 900 h = (some s0) := by rw [eS_2121]; exact hv_2094
  have hv_2155 : hR S_2120 901 h = (some q_1) := by rw [eS_2121]; exact hv_2095
  have hv_2156 : hR S_2120 902 h = (some q_41) := by rw [eS_2121]; exact hv_2096
  have hv_2157 : hR S_2120 903 h = (some q_126) := by rw [eS_2121]; exact hv_2097
  have hv_2158 : hR S_2120 904 h = (some q_161) := by rw [eS_2121]; exact hv_2098
  have hv_2159 : hR S_2120 905 h = (some q_183) := by rw [eS_2121]; exact hv_2099
  have hv_2160 : hR S_2120 906 h = (some q_224) := by rw [eS_2121]; exact hv_2100
  have hv_2161 : hR S_2120 907 h = (some q_266) := by rw [eS_2121]; exact hv_2101
  have hv_2162 : hR S_2120 908 h = (some q_295) := by rw [eS_2121]; exact hv_2102
  have hv_2163 : hR S_2120 909 h = (some q_328) := by rw [eS_2121]; exact hv_2103
  have hv_2164 : hR S_2120 910 h = (some q_425) := by rw [eS_2121]; exact hv_2104
  have hv_2165 : hR S_2120 911 h = (some q_524) := by rw [eS_2121]; exact hv_2105
  have hv_2166 : hR S_2120 912 h = (some q_565) := by rw [eS_2121]; exact hv_2106
  have hv_2167 : hR S_2120 917 h = (some q_610) := by rw [eS_2121]; exact hv_2107
  have hf_2168 : Fm (fun _ _ => False) (fun f9 b9 => b9 = h) (fun _ => False) S S_2120 := by rw [eS_2121]; exact hf_2122
  have hN_2169 : NL S L_2114 S_2120 := by rw [eS_2121]; exact (NL.tR (S := S_2063) hN_2113)
  have hG_2170 : Gs h gs_2118 S_2120 := by rw [eS_2121]; exact (Gs.tR (S := S_2063) hG_2117)
  have hE_2171 : ELs S_2120 q_161 [q_661, q_784, q_914, q_1038, q_1162, q_1292, q_1416, q_1540, q_1670, q_1794, q_1918, q_2048] := by rw [eS_2121]; exact (show ELs (tR S_2063 q_161 11 (some q_2048)) q_161 [q_661, q_784, q_914, q_1038, q_1162, q_1292, q_1416, q_1540, q_1670, q_1794, q_1918, q_2048] from ELs.snoc hE_2111 rfl)
  show J _ _ _ _ _ 160 _
  refine j_iinc (q := 0) (v := 12) (lv' := [(2, .int 12), (0, .ref h), (1, .ref s0)]) C dX9_init_160 rfl (by decide) (by rw [hn9]; decide) rfl ?_
  refine j_goto (tgt := 138) C dX9_init_163 (by decide) ?_
  refine j_iload_n C dX9_init_138 rfl 0 rfl ?_
  refine j_aload_n C dX9_init_139 rfl 1 rfl ?_
  refine j_getr (f := 904) (v := q_161) C flX9_34 dX9_init_140 hm_2123 hk_2124 (by decide) rfl hv_2158 ?_
  refine j_alen (v := 16) C dX9_init_143 hm_2125 hk_2126 (by decide) (by decide) (len_of (n := 16) hn_2127 (by decide)) ?_
  refine j_ic_ge (tgt := 166) C dX9_init_144 (by decide) (fun c9 => absurd c9 (by decide)) (fun c9 => ?_)
  refine j_aload_n C dX9_init_147 rfl 1 rfl ?_
  show J _ _ _ _ _ 148 _
  refine j_getr (f := 904) (v := q_161) C flX9_34 dX9_init_148 hm_2123 hk_2124 (by decide) rfl hv_2158 ?_
  refine j_iload_n C dX9_init_151 rfl 0 rfl ?_
  refine j_new (N := 4) C (ci := 10) rfl rfl klX9_32 knX10 kiX10 (M.cells (by decide)) (M.slots (by decide)) dX9_init_152 (fun q_2172 hq_2173 => ?_)
  have hz_2174 : q_2172 ∉ hL S := fun h9 => hq_2173 (hf_2168.mem h9)
  have gn_2175 : ∀ g9 ∈ gs_2118, ∀ p9 ∈ (gT g9.1).2.2, g9.2.getD p9.2.1 0 ≠ q_2172 := Gs.ne hG_2170 hq_2173
  refine j_dup C dX9_init_155 rfl ?_
  have hf_2176 : Fm (fun _ _ => False) (fun f9 b9 => b9 = h) (fun _ => False) S (nO S_2120 q_2172 10) := (hf_2168.nO _ hq_2173)
  refine j_callI C [] [.ref q_2172, .int 12, .ref q_161] mlX9_38 mcX10_init (c_X10_init (nO S_2120 q_2172 10) q_2172 mem_new (kd_nO' (k := 10))) (M.rm (by decide) (by decide) (Nat.le_of_ble_eq_true rfl) (Nat.le_of_ble_eq_true rfl)) rfl rfl (Nat.le_of_ble_eq_true rfl) dX9_init_156 (fun r_2186 S_2187 hp_2188 => ?_)
  obtain ⟨rfl, hf_2189, e_2178, e_2179, q_2177, e_2180, e_2181, e_2182, e_2183, e_2184, hNl_2185⟩ := hp_2188
  refine J.eq (st' := [.ref q_2172, .int 12, .ref q_161]) rfl rfl rfl ?_
  have hz_2190 : ∀ j, aI S_2187 q_161 j = 0 := fun j9 => (hf_2189.ai (mem_old hm_2125) (fun h9 => h9) j9).trans (hz_2128 j9)
  have hz_2191 : ∀ j, aI S_2187 q_266 j = 0 := fun j9 => (hf_2189.ai (mem_old hm_2131) (fun h9 => h9) j9).trans (hz_2134 j9)
  have hz_2192 : ∀ j, aI S_2187 q_295 j = 0 := fun j9 => (hf_2189.ai (mem_old hm_2135) (fun h9 => h9) j9).trans (hz_2138 j9)
  have hz_2193 : ∀ j, aI S_2187 q_524 j = 0 := fun j9 => (hf_2189.ai (mem_old hm_2139) (fun h9 => h9) j9).trans (hz_2142 j9)
  have hz_2194 : ∀ j, aI S_2187 q_565 j = 0 := fun j9 => (hf_2189.ai (mem_old hm_2143) (fun h9 => h9) j9).trans (hz_2146 j9)
  have hz_2195 : ∀ j, aI S_2187 q_610 j = 0 := fun j9 => (hf_2189.ai (mem_old hm_2147) (fun h9 => h9) j9).trans (hz_2150 j9)
  have hm_2196 : h ∈ hL S_2187 := hf_2189.mem (mem_old hm_2123)
  have hk_2197 : Kd S_2187 h 9 := hf_2189.kd (mem_old hm_2123) (kd_nO (k := 10) hq_2173 hm_2123 hk_2124)
  have hm_2198 : q_161 ∈ hL S_2187 := hf_2189.mem (mem_old hm_2125)
  have hk_2199 : Kd S_2187 q_161 20 := hf_2189.kd (mem_old hm_2125) (kd_nO (k := 10) hq_2173 hm_2125 hk_2126)
  have hn_2200 : Ln S_2187 q_161 16 := hf_2189.ln (mem_old hm_2125) hn_2127
  have hm_2201 : q_2172 ∈ hL S_2187 := hf_2189.mem mem_new
  have hk_2202 : Kd S_2187 q_2172 10 := hf_2189.kd mem_new (kd_nO' (k := 10))
  have hm_2203 : q_266 ∈ hL S_2187 := hf_2189.mem (mem_old hm_2131)
  have hk_2204 : Kd S_2187 q_266 13 := hf_2189.kd (mem_old hm_2131) (kd_nO (k := 10) hq_2173 hm_2131 hk_2132)
  have hn_2205 : Ln S_2187 q_266 24000 := hf_2189.ln (mem_old hm_2131) hn_2133
  have hm_2206 : q_295 ∈ hL S_2187 := hf_2189.mem (mem_old hm_2135)
  have hk_2207 : Kd S_2187 q_295 14 := hf_2189.kd (mem_old hm_2135) (kd_nO (k := 10) hq_2173 hm_2135 hk_2136)
  have hn_2208 : Ln S_2187 q_295 16 := hf_2189.ln (mem_old hm_2135) hn_2137
  have hm_2209 : q_524 ∈ hL S_2187 := hf_2189.mem (mem_old hm_2139)
  have hk_2210 : Kd S_2187 q_524 18 := hf_2189.kd (mem_old hm_2139) (kd_nO (k := 10) hq_2173 hm_2139 hk_2140)
  have hn_2211 : Ln S_2187 q_524 3 := hf_2189.ln (mem_old hm_2139) hn_2141
  have hm_2212 : q_565 ∈ hL S_2187 := hf_2189.mem (mem_old hm_2143)
  have hk_2213 : Kd S_2187 q_565 19 := hf_2189.kd (mem_old hm_2143) (kd_nO (k := 10) hq_2173 hm_2143 hk_2144)
  have hn_2214 : Ln S_2187 q_565 4 := hf_2189.ln (mem_old hm_2143) hn_2145
  have hm_2215 : q_610 ∈ hL S_2187 := hf_2189.mem (mem_old hm_2147)
  have hk_2216 : Kd S_2187 q_610 14 := hf_2189.kd (mem_old hm_2147) (kd_nO (k := 10) hq_2173 hm_2147 hk_2148)
  have hn_2217 : Ln S_2187 q_610 12 := hf_2189.ln (mem_old hm_2147) hn_2149
  have hv_2218 : hR S_2187 900 h = (some s0) := hf_2189.fr (mem_old hm_2123) (fun q9 => (fun e9 => absurd (((kd_nO (k := 10) hq_2173 hm_2123 hk_2124)).symm.trans ((congrArg (hK _) e9).trans (kd_nO' (k := 10)))) (by decide)) q9) (rd_nOR (k := 10) hq_2173 hm_2123 hv_2154)
  have hv_2219 : hR S_2187 901 h = (some q_1) := hf_2189.fr (mem_old hm_2123) (fun q9 => (fun e9 => absurd (((kd_nO (k := 10) hq_2173 hm_2123 hk_2124)).symm.trans ((congrArg (hK _) e9).trans (kd_nO' (k := 10)))) (by decide)) q9) (rd_nOR (k := 10) hq_2173 hm_2123 hv_2155)
  have hv_2220 : hR S_2187 902 h = (some q_41) := hf_2189.fr (mem_old hm_2123) (fun q9 => (fun e9 => absurd (((kd_nO (k := 10) hq_2173 hm_2123 hk_2124)).symm.trans ((congrArg (hK _) e9).trans (kd_nO' (k := 10)))) (by decide)) q9) (rd_nOR (k := 10) hq_2173 hm_2123 hv_2156)
  have hv_2221 : hR S_2187 903 h = (some q_126) := hf_2189.fr (mem_old hm_2123) (fun q9 => (fun e9 => absurd (((kd_nO (k := 10) hq_2173 hm_2123 hk_2124)).symm.trans ((congrArg (hK _) e9).trans (kd_nO' (k := 10)))) (by decide)) q9) (rd_nOR (k := 10) hq_2173 hm_2123 hv_2157)
  have hv_2222 : hR S_2187 904 h = (some q_161) := hf_2189.fr (mem_old hm_2123) (fun q9 => (fun e9 => absurd (((kd_nO (k := 10) hq_2173 hm_2123 hk_2124)).symm.trans ((congrArg (hK _) e9).trans (kd_nO' (k := 10)))) (by decide)) q9) (rd_nOR (k := 10) hq_2173 hm_2123 hv_2158)
  have hv_2223 : hR S_2187 905 h = (some q_183) := hf_2189.fr (mem_old hm_2123) (fun q9 => (fun e9 => absurd (((kd_nO (k := 10) hq_2173 hm_2123 hk_2124)).symm.trans ((congrArg (hK _) e9).trans (kd_nO' (k := 10)))) (by decide)) q9) (rd_nOR (k := 10) hq_2173 hm_2123 hv_2159)
  have hv_2224 : hR S_2187 906 h = (some q_224) := hf_2189.fr (mem_old hm_2123) (fun q9 => (fun e9 => absurd (((kd_nO (k := 10) hq_2173 hm_2123 hk_2124)).symm.trans ((congrArg (hK _) e9).trans (kd_nO' (k := 10)))) (by decide)) q9) (rd_nOR (k := 10) hq_2173 hm_2123 hv_2160)
  have hv_2225 : hR S_2187 907 h = (some q_266) := hf_2189.fr (mem_old hm_2123) (fun q9 => (fun e9 => absurd (((kd_nO (k := 10) hq_2173 hm_2123 hk_2124)).symm.trans ((congrArg (hK _) e9).trans (kd_nO' (k := 10)))) (by decide)) q9) (rd_nOR (k := 10) hq_2173 hm_2123 hv_2161)
  have hv_2226 : hR S_2187 908 h = (some q_295) := hf_2189.fr (mem_old hm_2123) (fun q9 => (fun e9 => absurd (((kd_nO (k := 10) hq_2173 hm_2123 hk_2124)).symm.trans ((congrArg (hK _) e9).trans (kd_nO' (k := 10)))) (by decide)) q9) (rd_nOR (k := 10) hq_2173 hm_2123 hv_2162)
  have hv_2227 : hR S_2187 909 h = (some q_328) := hf_2189.fr (mem_old hm_2123) (fun q9 => (fun e9 => absurd (((kd_nO (k := 10) hq_2173 hm_2123 hk_2124)).symm.trans ((congrArg (hK _) e9).trans (kd_nO' (k := 10)))) (by decide)) q9) (rd_nOR (k := 10) hq_2173 hm_2123 hv_2163)
  have hv_2228 : hR S_2187 910 h = (some q_425) := hf_2189.fr (mem_old hm_2123) (fun q9 => (fun e9 => absurd (((kd_nO (k := 10) hq_2173 hm_2123 hk_2124)).symm.trans ((congrArg (hK _) e9).trans (kd_nO' (k := 10)))) (by decide)) q9) (rd_nOR (k := 10) hq_2173 hm_2123 hv_2164)
  have hv_2229 : hR S_2187 911 h = (some q_524) := hf_2189.fr (mem_old hm_2123) (fun q9 => (fun e9 => absurd (((kd_nO (k := 10) hq_2173 hm_2123 hk_2124)).symm.trans ((congrArg (hK _) e9).trans (kd_nO' (k := 10)))) (by decide)) q9) (rd_nOR (k := 10) hq_2173 hm_2123 hv_2165)
  have hv_2230 : hR S_2187 912 h = (some q_565) := hf_2189.fr (mem_old hm_2123) (fun q9 => (fun e9 => absurd (((kd_nO (k := 10) hq_2173 hm_2123 hk_2124)).symm.trans ((congrArg (hK _) e9).trans (kd_nO' (k := 10)))) (by decide)) q9) (rd_nOR (k := 10) hq_2173 hm_2123 hv_2166)
  have hv_2231 : hR S_2187 917 h = (some q_610) := hf_2189.fr (mem_old hm_2123) (fun q9 => (fun e9 => absurd (((kd_nO (k := 10) hq_2173 hm_2123 hk_2124)).symm.trans ((congrArg (hK _) e9).trans (kd_nO' (k := 10)))) (by decide)) q9) (rd_nOR (k := 10) hq_2173 hm_2123 hv_2167)
  have hf_2232 : Fm (fun _ _ => False) (fun f9 b9 => b9 = h) (fun _ => False) S S_2187 := hf_2176.then hf_2189 (fun a9 ha9 => ⟨(fun f9 h9 => (fun h9 => h9.elim (fun h8 => absurd (h8.2 ▸ ha9) hz_2174) (fun h8 => absurd (h8.2 ▸ ha9) hz_2174)) h9), (fun f9 h9 => (fun h8 => absurd (h8 ▸ ha9) hz_2174) h9), (fun h9 => h9.elim)⟩)
  have hN_2233 : NL S (L_2114 ++ [q_2172]) S_2187 := NL.mono (show NL S (L_2114 ++ [q_2172]) (nO S_2120 q_2172 10) from NL.nO hN_2169 hq_2173 hz_2174) (fun a9 h9 => hf_2189.mem h9)
  have hG_2234 : Gs h gs_2118 S_2187 := Gs.fm (show Gs h gs_2118 (nO S_2120 q_2172 10) from Gs.nO hG_2170 hq_2173) hf_2189 (fun g9 hg9 p9 hp9 => gn_2175 g9 hg9 p9 hp9)
  have hE_2235 : ELs S_2187 q_161 [q_661, q_784, q_914, q_1038, q_1162, q_1292, q_1416, q_1540, q_1670, q_1794, q_1918, q_2048] := ELs.fm (ELs.nO (S := S_2120) hE_2171) hf_2189 (mem_old hm_2125) (fun h9 => h9)
  have hz_2236 : q_2177 ∉ hL S := fun h9 => e_2180 (hf_2176.mem h9)
  have hN_2237 : NL S ((L_2114 ++ [q_2172]) ++ [q_2177]) S_2187 := NL.app (show NL S (L_2114 ++ [q_2172]) (nO S_2120 q_2172 10) from NL.nO hN_2169 hq_2173 hz_2174) hNl_2185 (fun a9 h9 => hf_2189.mem h9) (fun a9 h9 => hf_2176.mem h9)
  obtain ⟨L_2238, eL_2239⟩ : ∃ L9 : List Nat, L9 = ((L_2114 ++ [q_2172]) ++ [q_2177]) := ⟨_, rfl⟩
  rw [← eL_2239] at hN_2237
  have hGt_2240 : Gt 1 [q_2172, q_2177] S_2187 := ⟨fun i9 k9 h9 => (match i9, h9 with | 0, h9 => (by have e9 : (10 : Nat) = k9 := Option.some.inj h9; subst e9; exact ⟨hm_2201, hk_2202⟩) | 1, h9 => (by have e9 : (15 : Nat) = k9 := Option.some.inj h9; subst e9; exact ⟨e_2181, e_2182⟩) | i9 + 2, h9 => absurd h9 (by simp [gT])), (List.forall_mem_cons.mpr ⟨e_2183, (fun _ h9 => absurd h9 List.not_mem_nil)⟩), (List.forall_mem_cons.mpr ⟨e_2184, (fun _ h9 => absurd h9 List.not_mem_nil)⟩), (fun _ h9 => absurd h9 List.not_mem_nil)⟩
  have hG_2241 : Gs h (gs_2118 ++ [(1, [q_2172, q_2177])]) S_2187 := Gs.snoc hG_2234 (by decide) hGt_2240 (List.forall_mem_cons.mpr ⟨(own_ne hz_2174 hm0_9), (fun _ h9 => absurd h9 List.not_mem_nil)⟩)
  obtain ⟨gs_2242, eG_2243⟩ : ∃ G9 : List (Nat × List Nat), G9 = gs_2118 ++ [(1, [q_2172, q_2177])] := ⟨_, rfl⟩
  rw [← eG_2243] at hG_2241
  refine j_aast (j := 12) (ci := 10) C 20  (by decide) rfl dX9_init_159 hm_2198 hk_2199 (inr_of (n := 16) hn_2200 (vp_lit (by decide))) (by decide) hm_2201 hk_2202 rfl ?_
  have hf_2246 : Fm (fun _ _ => False) (fun f9 b9 => b9 = h) (fun _ => False) S (tR S_2187 q_161 12 (some q_2172)) := (hf_2232.tR _ _ (fun h9 => absurd h9 hz_164))
  obtain ⟨S_2244, eS_2245⟩ : ∃ S9 : Hp, S9 = (tR S_2187 q_161 12 (some q_2172)) := ⟨_, rfl⟩
  refine J.eq (S' := S_2244) eS_2245.symm rfl rfl ?_
  have hm_2247 : h ∈ hL S_2244 := by rw [eS_2245]; exact hm_2196
  have hk_2248 : Kd S_2244 h 9 := by rw [eS_2245]; exact hk_2197
  have hm_2249 : q_161 ∈ hL S_2244 := by rw [eS_2245]; exact hm_2198
  have hk_2250 : Kd S_2244 q_161 20 := by rw [eS_2245]; exact hk_2199
  have hn_2251 : Ln S_2244 q_161 16 := by rw [eS_2245]; exact hn_2200
  have hz_2252 : ∀ j, aI S_2244 q_161 j = 0 := by rw [eS_2245]; exact hz_2190
  have hm_2253 : q_2172 ∈ hL S_2244 := by rw [eS_2245]; exact hm_2201
  have hk_2254 : Kd S_2244 q_2172 10 := by rw [eS_2245]; exact hk_2202
  have hm_2255 : q_266 ∈ hL S_2244 := by rw [eS_2245]; exact hm_2203
  have hk_2256 : Kd S_2244 q_266 13 := by rw [eS_2245]; exact hk_2204
  have hn_2257 : Ln S_2244 q_266 24000 := by rw [eS_2245]; exact hn_2205
  have hz_2258 : ∀ j, aI S_2244 q_266 j = 0 := by rw [eS_2245]; exact hz_2191
  have hm_2259 : q_295 ∈ hL S_2244 := by rw [eS_2245]; exact hm_2206
  have hk_2260 : Kd S_2244 q_295 14 := by rw [eS_2245]; exact hk_2207
  have hn_2261 : Ln S_2244 q_295 16 := by rw [eS_2245]; exact hn_2208
  have hz_2262 : ∀ j, aI S_2244 q_295 j = 0 := by rw [eS_2245]; exact hz_2192
  have hm_2263 : q_524 ∈ hL S_2244 := by rw [eS_2245]; exact hm_2209
  have hk_2264 : Kd S_2244 q_524 18 := by rw [eS_2245]; exact hk_2210
  have hn_2265 : Ln S_2244 q_524 3 := by rw [eS_2245]; exact hn_2211
  have hz_2266 : ∀ j, aI S_2244 q_524 j = 0 := by rw [eS_2245]; exact hz_2193
  have hm_2267 : q_565 ∈ hL S_2244 := by rw [eS_2245]; exact hm_2212
  have hk_2268 : Kd S_2244 q_565 19 := by rw [eS_2245]; exact hk_2213
  have hn_2269 : Ln S_2244 q_565 4 := by rw [eS_2245]; exact hn_2214
  have hz_2270 : ∀ j, aI S_2244 q_565 j = 0 := by rw [eS_2245]; exact hz_2194
  have hm_2271 : q_610 ∈ hL S_2244 := by rw [eS_2245]; exact hm_2215
  have hk_2272 : Kd S_2244 q_610 14 := by rw [eS_2245]; exact hk_2216
  have hn_2273 : Ln S_2244 q_610 12 := by rw [eS_2245]; exact hn_2217
  have hz_2274 : ∀ j, aI S_2244 q_610 j = 0 := by rw [eS_2245]; exact hz_2195
  have hv_2275 : hI S_2244 1000 q_2172 = 1 := by rw [eS_2245]; exact e_2178
  have hv_2276 : hI S_2244 1001 q_2172 = 1 := by rw [eS_2245]; exact e_2179
  have hv_2277 : hR S_2244 1003 q_2172 = (some q_2177) := by rw [eS_2245]; exact e_2184
  have hv_2278 : hR S_2244 900 h = (some s0) := by rw [eS_2245]; exact hv_2218
  have hv_2279 : hR S_2244 901 h = (some q_1) := by rw [eS_2245]; exact hv_2219
  have hv_2280 : hR S_2244 902 h = (some q_41) := by rw [eS_2245]; exact hv_2220
  have hv_2281 : hR S_2244 903 h = (some q_126) := by rw [eS_2245]; exact hv_2221
  have hv_2282 : hR S_2244 904 h = (some q_161) := by rw [eS_2245]; exact hv_2222
  have hv_2283 : hR S_2244 905 h = (some q_183) := by rw [eS_2245]; exact hv_2223
  have hv_2284 : hR S_2244 906 h = (some q_224) := by rw [eS_2245]; exact hv_2224
  have hv_2285 : hR S_2244 907 h = (some q_266) := by rw [eS_2245]; exact hv_2225
  have hv_2286 : hR S_2244 908 h = (some q_295) := by rw [eS_2245]; exact hv_2226
  have hv_2287 : hR S_2244 909 h = (some q_328) := by rw [eS_2245]; exact hv_2227
  have hv_2288 : hR S_2244 910 h = (some q_425) := by rw [eS_2245]; exact hv_2228
  have hv_2289 : hR S_2244 911 h = (some q_524) := by rw [eS_2245]; exact hv_2229
  have hv_2290 : hR S_2244 912 h = (some q_565) := by rw [eS_2245]; exact hv_2230
  have hv_2291 : hR S_2244 917 h = (some q_610) := by rw [eS_2245]; exact hv_2231
  have hf_2292 : Fm (fun _ _ => False) (fun f9 b9 => b9 = h) (fun _ => False) S S_2244 := by rw [eS_2245]; exact hf_2246
  have hN_2293 : NL S L_2238 S_2244 := by rw [eS_2245]; exact (NL.tR (S := S_2187) hN_2237)
  have hG_2294 : Gs h gs_2242 S_2244 := by rw [eS_2245]; exact (Gs.tR (S := S_2187) hG_2241)
  have hE_2295 : ELs S_2244 q_161 [q_661, q_784, q_914, q_1038, q_1162, q_1292, q_1416, q_1540, q_1670, q_1794, q_1918, q_2048, q_2172] := by rw [eS_2245]; exact (show ELs (tR S_2187 q_161 12 (some q_2172)) q_161 [q_661, q_784, q_914, q_1038, q_1162, q_1292, q_1416, q_1540, q_1670, q_1794, q_1918, q_2048, q_2172] from ELs.snoc hE_2235 rfl)
  refine j_iinc (q := 0) (v := 13) (lv' := [(2, .int 13), (0, .ref h), (1, .ref s0)]) C dX9_init_160 rfl (by decide) (by rw [hn9]; decide) rfl ?_
  refine j_goto (tgt := 138) C dX9_init_163 (by decide) ?_
  show J _ _ _ _ _ 138 _
  refine j_iload_n C dX9_init_138 rfl 0 rfl ?_
  refine j_aload_n C dX9_init_139 rfl 1 rfl ?_
  refine j_getr (f := 904) (v := q_161) C flX9_34 dX9_init_140 hm_2247 hk_2248 (by decide) rfl hv_2282 ?_
  refine j_alen (v := 16) C dX9_init_143 hm_2249 hk_2250 (by decide) (by decide) (len_of (n := 16) hn_2251 (by decide)) ?_
  refine j_ic_ge (tgt := 166) C dX9_init_144 (by decide) (fun c9 => absurd c9 (by decide)) (fun c9 => ?_)
  refine j_aload_n C dX9_init_147 rfl 1 rfl ?_
  refine j_getr (f := 904) (v := q_161) C flX9_34 dX9_init_148 hm_2247 hk_2248 (by decide) rfl hv_2282 ?_
  refine j_iload_n C dX9_init_151 rfl 0 rfl ?_
  show J _ _ _ _ _ 152 _
  refine j_new (N := 4) C (ci := 10) rfl rfl klX9_32 knX10 kiX10 (M.cells (by decide)) (M.slots (by decide)) dX9_init_152 (fun q_2296 hq_2297 => ?_)
  have hz_2298 : q_2296 ∉ hL S := fun h9 => hq_2297 (hf_2292.mem h9)
  have gn_2299 : ∀ g9 ∈ gs_2242, ∀ p9 ∈ (gT g9.1).2.2, g9.2.getD p9.2.1 0 ≠ q_2296 := Gs.ne hG_2294 hq_2297
  refine j_dup C dX9_init_155 rfl ?_
  have hf_2300 : Fm (fun _ _ => False) (fun f9 b9 => b9 = h) (fun _ => False) S (nO S_2244 q_2296 10) := (hf_2292.nO _ hq_2297)
  refine j_callI C [] [.ref q_2296, .int 13, .ref q_161] mlX9_38 mcX10_init (c_X10_init (nO S_2244 q_2296 10) q_2296 mem_new (kd_nO' (k := 10))) (M.rm (by decide) (by decide) (Nat.le_of_ble_eq_true rfl) (Nat.le_of_ble_eq_true rfl)) rfl rfl (Nat.le_of_ble_eq_true rfl) dX9_init_156 (fun r_2310 S_2311 hp_2312 => ?_)
  obtain ⟨rfl, hf_2313, e_2302, e_2303, q_2301, e_2304, e_2305, e_2306, e_2307, e_2308, hNl_2309⟩ := hp_2312
  refine J.eq (st' := [.ref q_2296, .int 13, .ref q_161]) rfl rfl rfl ?_
  have hz_2314 : ∀ j, aI S_2311 q_161 j = 0 := fun j9 => (hf_2313.ai (mem_old hm_2249) (fun h9 => h9) j9).trans (hz_2252 j9)
  have hz_2315 : ∀ j, aI S_2311 q_266 j = 0 := fun j9 => (hf_2313.ai (mem_old hm_2255) (fun h9 => h9) j9).trans (hz_2258 j9)
  have hz_2316 : ∀ j, aI S_2311 q_295 j = 0 := fun j9 => (hf_2313.ai (mem_old hm_2259) (fun h9 => h9) j9).trans (hz_2262 j9)
  have hz_2317 : ∀ j, aI S_2311 q_524 j = 0 := fun j9 => (hf_2313.ai (mem_old hm_2263) (fun h9 => h9) j9).trans (hz_2266 j9)
  have hz_2318 : ∀ j, aI S_2311 q_565 j = 0 := fun j9 => (hf_2313.ai (mem_old hm_2267) (fun h9 => h9) j9).trans (hz_2270 j9)
  have hz_2319 : ∀ j, aI S_2311 q_610 j = 0 := fun j9 => (hf_2313.ai (mem_old hm_2271) (fun h9 => h9) j9).trans (hz_2274 j9)
  have hm_2320 : h ∈ hL S_2311 := hf_2313.mem (mem_old hm_2247)
  have hk_2321 : Kd S_2311 h 9 := hf_2313.kd (mem_old hm_2247) (kd_nO (k := 10) hq_2297 hm_2247 hk_2248)
  have hm_2322 : q_161 ∈ hL S_2311 := hf_2313.mem (mem_old hm_2249)
  have hk_2323 : Kd S_2311 q_161 20 := hf_2313.kd (mem_old hm_2249) (kd_nO (k := 10) hq_2297 hm_2249 hk_2250)
  have hn_2324 : Ln S_2311 q_161 16 := hf_2313.ln (mem_old hm_2249) hn_2251
  have hm_2325 : q_2296 ∈ hL S_2311 := hf_2313.mem mem_new
  have hk_2326 : Kd S_2311 q_2296 10 := hf_2313.kd mem_new (kd_nO' (k := 10))
  have hm_2327 : q_266 ∈ hL S_2311 := hf_2313.mem (mem_old hm_2255)
  have hk_2328 : Kd S_2311 q_266 13 := hf_2313.kd (mem_old hm_2255) (kd_nO (k := 10) hq_2297 hm_2255 hk_2256)
  have hn_2329 : Ln S_2311 q_266 24000 := hf_2313.ln (mem_old hm_2255) hn_2257
  have hm_2330 : q_295 ∈ hL S_2311 := hf_2313.mem (mem_old hm_2259)
  have hk_2331 : Kd S_2311 q_295 14 := hf_2313.kd (mem_old hm_2259) (kd_nO (k := 10) hq_2297 hm_2259 hk_2260)
  have hn_2332 : Ln S_2311 q_295 16 := hf_2313.ln (mem_old hm_2259) hn_2261
  have hm_2333 : q_524 ∈ hL S_2311 := hf_2313.mem (mem_old hm_2263)
  have hk_2334 : Kd S_2311 q_524 18 := hf_2313.kd (mem_old hm_2263) (kd_nO (k := 10) hq_2297 hm_2263 hk_2264)
  have hn_2335 : Ln S_2311 q_524 3 := hf_2313.ln (mem_old hm_2263) hn_2265
  have hm_2336 : q_565 ∈ hL S_2311 := hf_2313.mem (mem_old hm_2267)
  have hk_2337 : Kd S_2311 q_565 19 := hf_2313.kd (mem_old hm_2267) (kd_nO (k := 10) hq_2297 hm_2267 hk_2268)
  have hn_2338 : Ln S_2311 q_565 4 := hf_2313.ln (mem_old hm_2267) hn_2269
  have hm_2339 : q_610 ∈ hL S_2311 := hf_2313.mem (mem_old hm_2271)
  have hk_2340 : Kd S_2311 q_610 14 := hf_2313.kd (mem_old hm_2271) (kd_nO (k := 10) hq_2297 hm_2271 hk_2272)
  have hn_2341 : Ln S_2311 q_610 12 := hf_2313.ln (mem_old hm_2271) hn_2273
  have hv_2342 : hR S_2311 900 h = (some s0) := hf_2313.fr (mem_old hm_2247) (fun q9 => (fun e9 => absurd (((kd_nO (k := 10) hq_2297 hm_2247 hk_2248)).symm.trans ((congrArg (hK _) e9).trans (kd_nO' (k := 10)))) (by decide)) q9) (rd_nOR (k := 10) hq_2297 hm_2247 hv_2278)
  have hv_2343 : hR S_2311 901 h = (some q_1) := hf_2313.fr (mem_old hm_2247) (fun q9 => (fun e9 => absurd (((kd_nO (k := 10) hq_2297 hm_2247 hk_2248)).symm.trans ((congrArg (hK _) e9).trans (kd_nO' (k := 10)))) (by decide)) q9) (rd_nOR (k := 10) hq_2297 hm_2247 hv_2279)
  have hv_2344 : hR S_2311 902 h = (some q_41) := hf_2313.fr (mem_old hm_2247) (fun q9 => (fun e9 => absurd (((kd_nO (k := 10) hq_2297 hm_2247 hk_2248)).symm.trans ((congrArg (hK _) e9).trans (kd_nO' (k := 10)))) (by decide)) q9) (rd_nOR (k := 10) hq_2297 hm_2247 hv_2280)
  have hv_2345 : hR S_2311 903 h = (some q_126) := hf_2313.fr (mem_old hm_2247) (fun q9 => (fun e9 => absurd (((kd_nO (k := 10) hq_2297 hm_2247 hk_2248)).symm.trans ((congrArg (hK _) e9).trans (kd_nO' (k := 10)))) (by decide)) q9) (rd_nOR (k := 10) hq_2297 hm_2247 hv_2281)
  have hv_2346 : hR S_2311 904 h = (some q_161) := hf_2313.fr (mem_old hm_2247) (fun q9 => (fun e9 => absurd (((kd_nO (k := 10) hq_2297 hm_2247 hk_2248)).symm.trans ((congrArg (hK _) e9).trans (kd_nO' (k := 10)))) (by decide)) q9) (rd_nOR (k := 10) hq_2297 hm_2247 hv_2282)
  have hv_2347 : hR S_2311 905 h = (some q_183) := hf_2313.fr (mem_old hm_2247) (fun q9 => (fun e9 => absurd (((kd_nO (k := 10) hq_2297 hm_2247 hk_2248)).symm.trans ((congrArg (hK _) e9).trans (kd_nO' (k := 10)))) (by decide)) q9) (rd_nOR (k := 10) hq_2297 hm_2247 hv_2283)
  have hv_2348 : hR S_2311 906 h = (some q_224) := hf_2313.fr (mem_old hm_2247) (fun q9 => (fun e9 => absurd (((kd_nO (k := 10) hq_2297 hm_2247 hk_2248)).symm.trans ((congrArg (hK _) e9).trans (kd_nO' (k := 10)))) (by decide)) q9) (rd_nOR (k := 10) hq_2297 hm_2247 hv_2284)
  have hv_2349 : hR S_2311 907 h = (some q_266) := hf_2313.fr (mem_old hm_2247) (fun q9 => (fun e9 => absurd (((kd_nO (k := 10) hq_2297 hm_2247 hk_2248)).symm.trans ((congrArg (hK _) e9).trans (kd_nO' (k := 10)))) (by decide)) q9) (rd_nOR (k := 10) hq_2297 hm_2247 hv_2285)
  have hv_2350 : hR S_2311 908 h = (some q_295) := hf_2313.fr (mem_old hm_2247) (fun q9 => (fun e9 => absurd (((kd_nO (k := 10) hq_2297 hm_2247 hk_2248)).symm.trans ((congrArg (hK _) e9).trans (kd_nO' (k := 10)))) (by decide)) q9) (rd_nOR (k := 10) hq_2297 hm_2247 hv_2286)
  have hv_2351 : hR S_2311 909 h = (some q_328) := hf_2313.fr (mem_old hm_2247) (fun q9 => (fun e9 => absurd (((kd_nO (k := 10) hq_2297 hm_2247 hk_2248)).symm.trans ((congrArg (hK _) e9).trans (kd_nO' (k := 10)))) (by decide)) q9) (rd_nOR (k := 10) hq_2297 hm_2247 hv_2287)
  have hv_2352 : hR S_2311 910 h = (some q_425) := hf_2313.fr (mem_old hm_2247) (fun q9 => (fun e9 => absurd (((kd_nO (k := 10) hq_2297 hm_2247 hk_2248)).symm.trans ((congrArg (hK _) e9).trans (kd_nO' (k := 10)))) (by decide)) q9) (rd_nOR (k := 10) hq_2297 hm_2247 hv_2288)
  have hv_2353 : hR S_2311 911 h = (some q_524) := hf_2313.fr (mem_old hm_2247) (fun q9 => (fun e9 => absurd (((kd_nO (k := 10) hq_2297 hm_2247 hk_2248)).symm.trans ((congrArg (hK _) e9).trans (kd_nO' (k := 10)))) (by decide)) q9) (rd_nOR (k := 10) hq_2297 hm_2247 hv_2289)
  have hv_2354 : hR S_2311 912 h = (some q_565) := hf_2313.fr (mem_old hm_2247) (fun q9 => (fun e9 => absurd (((kd_nO (k := 10) hq_2297 hm_2247 hk_2248)).symm.trans ((congrArg (hK _) e9).trans (kd_nO' (k := 10)))) (by decide)) q9) (rd_nOR (k := 10) hq_2297 hm_2247 hv_2290)
  have hv_2355 : hR S_2311 917 h = (some q_610) := hf_2313.fr (mem_old hm_2247) (fun q9 => (fun e9 => absurd (((kd_nO (k := 10) hq_2297 hm_2247 hk_2248)).symm.trans ((congrArg (hK _) e9).trans (kd_nO' (k := 10)))) (by decide)) q9) (rd_nOR (k := 10) hq_2297 hm_2247 hv_2291)
  have hf_2356 : Fm (fun _ _ => False) (fun f9 b9 => b9 = h) (fun _ => False) S S_2311 := hf_2300.then hf_2313 (fun a9 ha9 => ⟨(fun f9 h9 => (fun h9 => h9.elim (fun h8 => absurd (h8.2 ▸ ha9) hz_2298) (fun h8 => absurd (h8.2 ▸ ha9) hz_2298)) h9), (fun f9 h9 => (fun h8 => absurd (h8 ▸ ha9) hz_2298) h9), (fun h9 => h9.elim)⟩)
  have hN_2357 : NL S (L_2238 ++ [q_2296]) S_2311 := NL.mono (show NL S (L_2238 ++ [q_2296]) (nO S_2244 q_2296 10) from NL.nO hN_2293 hq_2297 hz_2298) (fun a9 h9 => hf_2313.mem h9)
  have hG_2358 : Gs h gs_2242 S_2311 := Gs.fm (show Gs h gs_2242 (nO S_2244 q_2296 10) from Gs.nO hG_2294 hq_2297) hf_2313 (fun g9 hg9 p9 hp9 => gn_2299 g9 hg9 p9 hp9)
  have hE_2359 : ELs S_2311 q_161 [q_661, q_784, q_914, q_1038, q_1162, q_1292, q_1416, q_1540, q_1670, q_1794, q_1918, q_2048, q_2172] := ELs.fm (ELs.nO (S := S_2244) hE_2295) hf_2313 (mem_old hm_2249) (fun h9 => h9)
  have hz_2360 : q_2301 ∉ hL S := fun h9 => e_2304 (hf_2300.mem h9)
  have hN_2361 : NL S ((L_2238 ++ [q_2296]) ++ [q_2301]) S_2311 := NL.app (show NL S (L_2238 ++ [q_2296]) (nO S_2244 q_2296 10) from NL.nO hN_2293 hq_2297 hz_2298) hNl_2309 (fun a9 h9 => hf_2313.mem h9) (fun a9 h9 => hf_2300.mem h9)
  obtain ⟨L_2362, eL_2363⟩ : ∃ L9 : List Nat, L9 = ((L_2238 ++ [q_2296]) ++ [q_2301]) := ⟨_, rfl⟩
  rw [← eL_2363] at hN_2361
  have hGt_2364 : Gt 1 [q_2296, q_2301] S_2311 := ⟨fun i9 k9 h9 => (match i9, h9 with | 0, h9 => (by have e9 : (10 : Nat) = k9 := Option.some.inj h9; subst e9; exact ⟨hm_2325, hk_2326⟩) | 1, h9 => (by have e9 : (15 : Nat) = k9 := Option.some.inj h9; subst e9; exact ⟨e_2305, e_2306⟩) | i9 + 2, h9 => absurd h9 (by simp [gT])), (List.forall_mem_cons.mpr ⟨e_2307, (fun _ h9 => absurd h9 List.not_mem_nil)⟩), (List.forall_mem_cons.mpr ⟨e_2308, (fun _ h9 => absurd h9 List.not_mem_nil)⟩), (fun _ h9 => absurd h9 List.not_mem_nil)⟩
  have hG_2365 : Gs h (gs_2242 ++ [(1, [q_2296, q_2301])]) S_2311 := Gs.snoc hG_2358 (by decide) hGt_2364 (List.forall_mem_cons.mpr ⟨(own_ne hz_2298 hm0_9), (fun _ h9 => absurd h9 List.not_mem_nil)⟩)
  obtain ⟨gs_2366, eG_2367⟩ : ∃ G9 : List (Nat × List Nat), G9 = gs_2242 ++ [(1, [q_2296, q_2301])] := ⟨_, rfl⟩
  rw [← eG_2367] at hG_2365
  refine j_aast (j := 13) (ci := 10) C 20  (by decide) rfl dX9_init_159 hm_2322 hk_2323 (inr_of (n := 16) hn_2324 (vp_lit (by decide))) (by decide) hm_2325 hk_2326 rfl ?_
  have hf_2370 : Fm (fun _ _ => False) (fun f9 b9 => b9 = h) (fun _ => False) S (tR S_2311 q_161 13 (some q_2296)) := (hf_2356.tR _ _ (fun h9 => absurd h9 hz_164))
  obtain ⟨S_2368, eS_2369⟩ : ∃ S9 : Hp, S9 = (tR S_2311 q_161 13 (some q_2296)) := ⟨_, rfl⟩
  refine J.eq (S' := S_2368) eS_2369.symm rfl rfl ?_
  have hm_2371 : h ∈ hL S_2368 := by rw [eS_2369]; exact hm_2320
  have hk_2372 : Kd S_2368 h 9 := by rw [eS_2369]; exact hk_2321
  have hm_2373 : q_161 ∈ hL S_2368 := by rw [eS_2369]; exact hm_2322
  have hk_2374 : Kd S_2368 q_161 20 := by rw [eS_2369]; exact hk_2323
  have hn_2375 : Ln S_2368 q_161 16 := by rw [eS_2369]; exact hn_2324
  have hz_2376 : ∀ j, aI S_2368 q_161 j = 0 := by rw [eS_2369]; exact hz_2314
  have hm_2377 : q_2296 ∈ hL S_2368 := by rw [eS_2369]; exact hm_2325
  have hk_2378 : Kd S_2368 q_2296 10 := by rw [eS_2369]; exact hk_2326
  have hm_2379 : q_266 ∈ hL S_2368 := by rw [eS_2369]; exact hm_2327
  have hk_2380 : Kd S_2368 q_266 13 := by rw [eS_2369]; exact hk_2328
  have hn_2381 : Ln S_2368 q_266 24000 := by rw [eS_2369]; exact hn_2329
  have hz_2382 : ∀ j, aI S_2368 q_266 j = 0 := by rw [eS_2369]; exact hz_2315
  have hm_2383 : q_295 ∈ hL S_2368 := by rw [eS_2369]; exact hm_2330
  have hk_2384 : Kd S_2368 q_295 14 := by rw [eS_2369]; exact hk_2331
  have hn_2385 : Ln S_2368 q_295 16 := by rw [eS_2369]; exact hn_2332
  have hz_2386 : ∀ j, aI S_2368 q_295 j = 0 := by rw [eS_2369]; exact hz_2316
  have hm_2387 : q_524 ∈ hL S_2368 := by rw [eS_2369]; exact hm_2333
  have hk_2388 : Kd S_2368 q_524 18 := by rw [eS_2369]; exact hk_2334
  have hn_2389 : Ln S_2368 q_524 3 := by rw [eS_2369]; exact hn_2335
  have hz_2390 : ∀ j, aI S_2368 q_524 j = 0 := by rw [eS_2369]; exact hz_2317
  have hm_2391 : q_565 ∈ hL S_2368 := by rw [eS_2369]; exact hm_2336
  have hk_2392 : Kd S_2368 q_565 19 := by rw [eS_2369]; exact hk_2337
  have hn_2393 : Ln S_2368 q_565 4 := by rw [eS_2369]; exact hn_2338
  have hz_2394 : ∀ j, aI S_2368 q_565 j = 0 := by rw [eS_2369]; exact hz_2318
  have hm_2395 : q_610 ∈ hL S_2368 := by rw [eS_2369]; exact hm_2339
  have hk_2396 : Kd S_2368 q_610 14 := by rw [eS_2369]; exact hk_2340
  have hn_2397 : Ln S_2368 q_610 12 := by rw [eS_2369]; exact hn_2341
  have hz_2398 : ∀ j, aI S_2368 q_610 j = 0 := by rw [eS_2369]; exact hz_2319
  have hv_2399 : hI S_2368 1000 q_2296 = 1 := by rw [eS_2369]; exact e_2302
  have hv_2400 : hI S_2368 1001 q_2296 = 1 := by rw [eS_2369]; exact e_2303
  have hv_2401 : hR S_2368 1003 q_2296 = (some q_2301) := by rw [eS_2369]; exact e_2308
  have hv_2402 : hR S_2368 900 h = (some s0) := by rw [eS_2369]; exact hv_2342
  have hv_2403 : hR S_2368 901 h = (some q_1) := by rw [eS_2369]; exact hv_2343
  have hv_2404 : hR S_2368 902 h = (some q_41) := by rw [eS_2369]; exact hv_2344
  have hv_2405 : hR S_2368 903 h = (some q_126) := by rw [eS_2369]; exact hv_2345
  have hv_2406 : hR S_2368 904 h = (some q_161) := by rw [eS_2369]; exact hv_2346
  have hv_2407 : hR S_2368 905 h = (some q_183) := by rw [eS_2369]; exact hv_2347
  have hv_2408 : hR S_2368 906 h = (some q_224) := by rw [eS_2369]; exact hv_2348
  have hv_2409 : hR S_2368 907 h = (some q_266) := by rw [eS_2369]; exact hv_2349
  have hv_2410 : hR S_2368 908 h = (some q_295) := by rw [eS_2369]; exact hv_2350
  have hv_2411 : hR S_2368 909 h = (some q_328) := by rw [eS_2369]; exact hv_2351
  have hv_2412 : hR S_2368 910 h = (some q_425) := by rw [eS_2369]; exact hv_2352
  have hv_2413 : hR S_2368 911 h = (some q_524) := by rw [eS_2369]; exact hv_2353
  have hv_2414 : hR S_2368 912 h = (some q_565) := by rw [eS_2369]; exact hv_2354
  have hv_2415 : hR S_2368 917 h = (some q_610) := by rw [eS_2369]; exact hv_2355
  have hf_2416 : Fm (fun _ _ => False) (fun f9 b9 => b9 = h) (fun _ => False) S S_2368 := by rw [eS_2369]; exact hf_2370
  have hN_2417 : NL S L_2362 S_2368 := by rw [eS_2369]; exact (NL.tR (S := S_2311) hN_2361)
  have hG_2418 : Gs h gs_2366 S_2368 := by rw [eS_2369]; exact (Gs.tR (S := S_2311) hG_2365)
  have hE_2419 : ELs S_2368 q_161 [q_661, q_784, q_914, q_1038, q_1162, q_1292, q_1416, q_1540, q_1670, q_1794, q_1918, q_2048, q_2172, q_2296] := by rw [eS_2369]; exact (show ELs (tR S_2311 q_161 13 (some q_2296)) q_161 [q_661, q_784, q_914, q_1038, q_1162, q_1292, q_1416, q_1540, q_1670, q_1794, q_1918, q_2048, q_2172, q_2296] from ELs.snoc hE_2359 rfl)
  refine j_iinc (q := 0) (v := 14) (lv' := [(2, .int 14), (0, .ref h), (1, .ref s0)]) C dX9_init_160 rfl (by decide) (by rw [hn9]; decide) rfl ?_
  refine j_goto (tgt := 138) C dX9_init_163 (by decide) ?_
  exact x9_t5 (q_1 := q_1) (q_5 := q_5) (q_6 := q_6) (q_41 := q_41) (q_47 := q_47) (q_48 := q_48) (q_49 := q_49) (q_50 := q_50) (q_51 := q_51) (q_52 := q_52) (q_53 := q_53) (q_54 := q_54) (q_126 := q_126) (q_132 := q_132) (q_161 := q_161) (q_183 := q_183) (q_188 := q_188) (q_224 := q_224) (q_230 := q_230) (q_266 := q_266) (q_295 := q_295) (q_328 := q_328) (q_333 := q_333) (q_334 := q_334) (q_335 := q_335) (q_336 := q_336) (q_337 := q_337) (q_338 := q_338) (q_339 := q_339) (q_340 := q_340) (q_425 := q_425) (q_431 := q_431) (q_432 := q_432) (q_433 := q_433) (q_434 := q_434) (q_435 := q_435) (q_436 := q_436) (q_437 := q_437) (q_438 := q_438) (q_524 := q_524) (q_565 := q_565) (q_610 := q_610) (q_661 := q_661) (q_666 := q_666) (q_784 := q_784) (q_789 := q_789) (q_914 := q_914) (q_919 := q_919) (q_1038 := q_1038) (q_1043 := q_1043) (q_1162 := q_1162) (q_1167 := q_1167) (q_1292 := q_1292) (q_1297 := q_1297) (q_1416 := q_1416) (q_1421 := q_1421) (q_1540 := q_1540) (q_1545 := q_1545) (q_1670 := q_1670) (q_1675 := q_1675) (q_1794 := q_1794) (q_1799 := q_1799) (q_1918 := q_1918) (q_1923 := q_1923) (q_2048 := q_2048) (q_2053 := q_2053) (q_2172 := q_2172) (q_2177 := q_2177) (q_2296 := q_2296) (q_2301 := q_2301) hn9 C M hm9 hm0_9 hz_164 hz_269 hz_297 hz_527 hz_567 hz_612 hm_2371 hk_2372 hm_2373 hk_2374 hn_2375 hz_2376 hm_2379 hk_2380 hn_2381 hz_2382 hm_2383 hk_2384 hn_2385 hz_2386 hm_2387 hk_2388 hn_2389 hz_2390 hm_2391 hk_2392 hn_2393 hz_2394 hm_2395 hk_2396 hn_2397 hz_2398 hv_2402 hv_2403 hv_2404 hv_2405 hv_2406 hv_2407 hv_2408 hv_2409 hv_2410 hv_2411 hv_2412 hv_2413 hv_2414 hv_2415 (by have h9 := hN_2417; rw [eL_2363, eL_2239, eL_2115, eL_2045] at h9; simpa only [List.nil_append, List.cons_append, List.append_assoc] using h9) (by have h9 := hG_2418; rw [eG_2367, eG_2243, eG_2119, eG_2047] at h9; simpa only [List.nil_append, List.cons_append, List.append_assoc] using h9) hE_2419 hf_2416

set_option maxRecDepth 100000 in
set_option maxHeartbeats 8000000 in
theorem x9_t3 {x : JX} {S S_1612 : Hp} {h s0 q_1 q_5 q_6 q_41 q_47 q_48 q_49 q_50 q_51 q_52 q_53 q_54 q_126 q_132 q_161 q_183 q_188 q_224 q_230 q_266 q_295 q_328 q_333 q_334 q_335 q_336 q_337 q_338 q_339 q_340 q_425 q_431 q_432 q_433 q_434 q_435 q_436 q_437 q_438 q_524 q_565 q_610 q_661 q_666 q_784 q_789 q_914 q_919 q_1038 q_1043 q_1162 q_1167 q_1292 q_1297 q_1416 q_1421 q_1540 q_1545 : Nat} (hn9 : x_n x = 3) (C : CB x RX9 cX9_init) (M : CM x 4 113 68424 none S (fun r S' => r = none ∧ Fm (fun _ _ => False) (fun f9 b9 => b9 = h) (fun _ => False) S S' ∧ hR S' 900 h = some s0 ∧ ∃ l : List Nat, Wt s9K s9N s9P s9Q (fun i => (h :: l).getD i 0) S' ∧ l.length = 105 ∧ NL S l S' ∧ (∀ j, aI S' ((h :: l).getD 6 0) j = 0) ∧ (∀ j, aI S' ((h :: l).getD 9 0) j = 0) ∧ (∀ j, aI S' ((h :: l).getD 14 0) j = 0) ∧ (∀ j, aI S' ((h :: l).getD 19 0) j = 0))) (hm9 : (x_meth x).name = yX9_init.name) (hm0_9 : h ∈ hL S) (hz_164 : q_161 ∉ hL S) (hz_269 : q_266 ∉ hL S) (hz_297 : q_295 ∉ hL S) (hz_527 : q_524 ∉ hL S) (hz_567 : q_565 ∉ hL S) (hz_612 : q_610 ∉ hL S) (hm_1615 : h ∈ hL S_1612) (hk_1616 : Kd S_1612 h 9) (hm_1619 : q_161 ∈ hL S_1612) (hk_1620 : Kd S_1612 q_161 20) (hn_1621 : Ln S_1612 q_161 16) (hz_1622 : ∀ j, aI S_1612 q_161 j = 0) (hm_1623 : q_266 ∈ hL S_1612) (hk_1624 : Kd S_1612 q_266 13) (hn_1625 : Ln S_1612 q_266 24000) (hz_1626 : ∀ j, aI S_1612 q_266 j = 0) (hm_1627 : q_295 ∈ hL S_1612) (hk_1628 : Kd S_1612 q_295 14) (hn_1629 : Ln S_1612 q_295 16) (hz_1630 : ∀ j, aI S_1612 q_295 j = 0) (hm_1631 : q_524 ∈ hL S_1612) (hk_1632 : Kd S_1612 q_524 18) (hn_1633 : Ln S_1612 q_524 3) (hz_1634 : ∀ j, aI S_1612 q_524 j = 0) (hm_1635 : q_565 ∈ hL S_1612) (hk_1636 : Kd S_1612 q_565 19) (hn_1637 : Ln S_1612 q_565 4) (hz_1638 : ∀ j, aI S_1612 q_565 j = 0) (hm_1639 : q_610 ∈ hL S_1612) (hk_1640 : Kd S_1612 q_610 14) (hn_1641 : Ln S_1612 q_610 12) (hz_1642 : ∀ j, aI S_1612 q_610 j = 0) (hv_1646 : hR S_1612 900 h = (some s0)) (hv_1647 : hR S_1612 901 h = (some q_1)) (hv_1648 : hR S_1612 902 h = (some q_41)) (hv_1649 : hR S_1612 903 h = (some q_126)) (hv_1650 : hR S_1612 904 h = (some q_161)) (hv_1651 : hR S_1612 905 h = (some q_183)) (hv_1652 : hR S_1612 906 h = (some q_224)) (hv_1653 : hR S_1612 907 h = (some q_266)) (hv_1654 : hR S_1612 908 h = (some q_295)) (hv_1655 : hR S_1612 909 h = (some q_328)) (hv_1656 : hR S_1612 910 h = (some q_425)) (hv_1657 : hR S_1612 911 h = (some q_524)) (hv_1658 : hR S_1612 912 h = (some q_565)) (hv_1659 : hR S_1612 917 h = (some q_610)) (hN_1664 : NL S [q_1, q_5, q_6, q_41, q_47, q_48, q_49, q_50, q_51, q_52, q_53, q_54, q_126, q_132, q_161, q_183, q_188, q_224, q_230, q_266, q_295, q_328, q_333, q_334, q_335, q_336, q_337, q_338, q_339, q_340, q_425, q_431, q_432, q_433, q_434, q_435, q_436, q_437, q_438, q_524, q_565, q_610, q_661, q_666, q_784, q_789, q_914, q_919, q_1038, q_1043, q_1162, q_1167, q_1292, q_1297, q_1416, q_1421, q_1540, q_1545] S_1612) (hG_1665 : Gs h [(3, [q_1, q_5, q_6]), (4, [q_41, q_47, q_48, q_49, q_50, q_51, q_52, q_53, q_54]), (0, [q_126, q_132]), (1, [q_183, q_188]), (0, [q_224, q_230]), (2, [q_328, q_333, q_334, q_335, q_336, q_337, q_338, q_339, q_340]), (2, [q_425, q_431, q_432, q_433, q_434, q_435, q_436, q_437, q_438]), (1, [q_661, q_666]), (1, [q_784, q_789]), (1, [q_914, q_919]), (1, [q_1038, q_1043]), (1, [q_1162, q_1167]), (1, [q_1292, q_1297]), (1, [q_1416, q_1421]), (1, [q_1540, q_1545])] S_1612) (hE_1663 : ELs S_1612 q_161 [q_661, q_784, q_914, q_1038, q_1162, q_1292, q_1416, q_1540]) (hf_1660 : Fm (fun _ _ => False) (fun f9 b9 => b9 = h) (fun _ => False) S S_1612) : J x (0 + 1 + 4 + 1 + 8 + 1 + 1 + 1 + 1 + 1 + 1 + 1 + 1 + 1 + 1 + 8 + 1 + 8 + 1 + 1 + 1 + 1 + 1 + 1 + 1 + 1 + 1 + 1 + 1 + 1 + 1 + 1 + 1 + 1 + 1 + 1 + 1) (0 + 15 + 20045 + 10 + 23174 + 1 + 16 + 16 + 4 + 16 + 1 + 16 + 24000 + 16 + 21 + 117 + 21 + 117 + 3 + 4 + 12 + 4 + 16 + 4 + 16 + 4 + 16 + 4 + 16 + 4 + 16 + 4 + 16 + 4 + 16 + 4 + 16) S_1612 [(2, .int 8), (0, .ref h), (1, .ref s0)] 138 [] := by
  obtain ⟨L_1666, eL_1667⟩ : ∃ L9 : List Nat, L9 = [q_1, q_5, q_6, q_41, q_47, q_48, q_49, q_50, q_51, q_52, q_53, q_54, q_126, q_132, q_161, q_183, q_188, q_224, q_230, q_266, q_295, q_328, q_333, q_334, q_335, q_336, q_337, q_338, q_339, q_340, q_425, q_431, q_432, q_433, q_434, q_435, q_436, q_437, q_438, q_524, q_565, q_610, q_661, q_666, q_784, q_789, q_914, q_919, q_1038, q_1043, q_1162, q_1167, q_1292, q_1297, q_1416, q_1421, q_1540, q_1545] := ⟨_, rfl⟩
  rw [← eL_1667] at hN_1664
  obtain ⟨gs_1668, eG_1669⟩ : ∃ G9 : List (Nat × List Nat), G9 = [(3, [q_1, q_5, q_6]), (4, [q_41, q_47, q_48, q_49, q_50, q_51, q_52, q_53, q_54]), (0, [q_126, q_132]), (1, [q_183, q_188]), (0, [q_224, q_230]), (2, [q_328, q_333, q_334, q_335, q_336, q_337, q_338, q_339, q_340]), (2, [q_425, q_431, q_432, q_433, q_434, q_435, q_436, q_437, q_438]), (1, [q_661, q_666]), (1, [q_784, q_789]), (1, [q_914, q_919]), (1, [q_1038, q_1043]), (1, [q_1162, q_1167]), (1, [q_1292, q_1297]), (1, [q_1416, q_1421]), (1, [q_1540, q_1545])] := ⟨_, rfl⟩
  rw [← eG_1669] at hG_1665
  refine j_iload_n C dX9_init_138 rfl 0 rfl ?_
  refine j_aload_n C dX9_init_139 rfl 1 rfl ?_
  refine j_getr (f := 904) (v := q_161) C flX9_34 dX9_init_140 hm_1615 hk_1616 (by decide) rfl hv_1650 ?_
  refine j_alen (v := 16) C dX9_init_143 hm_1619 hk_1620 (by decide) (by decide) (len_of (n := 16) hn_1621 (by decide)) ?_
  refine j_ic_ge (tgt := 166) C dX9_init_144 (by decide) (fun c9 => absurd c9 (by decide)) (fun c9 => ?_)
  refine j_aload_n C dX9_init_147 rfl 1 rfl ?_
  show J _ _ _ _ _ 148 _
  refine j_getr (f := 904) (v := q_161) C flX9_34 dX9_init_148 hm_1615 hk_1616 (by decide) rfl hv_1650 ?_
  refine j_iload_n C dX9_init_151 rfl 0 rfl ?_
  refine j_new (N := 4) C (ci := 10) rfl rfl klX9_32 knX10 kiX10 (M.cells (by decide)) (M.slots (by decide)) dX9_init_152 (fun q_1670 hq_1671 => ?_)
  have hz_1672 : q_1670 ∉ hL S := fun h9 => hq_1671 (hf_1660.mem h9)
  have gn_1673 : ∀ g9 ∈ gs_1668, ∀ p9 ∈ (gT g9.1).2.2, g9.2.getD p9.2.1 0 ≠ q_1670 := Gs.ne hG_1665 hq_1671
  refine j_dup C dX9_init_155 rfl ?_
  have hf_1674 : Fm (fun _ _ => False) (fun f9 b9 => b9 = h) (fun _ => False) S (nO S_1612 q_1670 10) := (hf_1660.nO _ hq_1671)
  refine j_callI C [] [.ref q_1670, .int 8, .ref q_161] mlX9_38 mcX10_init (c_X10_init (nO S_1612 q_1670 10) q_1670 mem_new (kd_nO' (k := 10))) (M.rm (by decide) (by decide) (Nat.le_of_ble_eq_true rfl) (Nat.le_of_ble_eq_true rfl)) rfl rfl (Nat.le_of_ble_eq_true rfl) dX9_init_156 (fun r_1684 S_1685 hp_1686 => ?_)
  obtain ⟨rfl, hf_1687, e_1676, e_1677, q_1675, e_1678, e_1679, e_1680, e_1681, e_1682, hNl_1683⟩ := hp_1686
  refine J.eq (st' := [.ref q_1670, .int 8, .ref q_161]) rfl rfl rfl ?_
  have hz_1688 : ∀ j, aI S_1685 q_161 j = 0 := fun j9 => (hf_1687.ai (mem_old hm_1619) (fun h9 => h9) j9).trans (hz_1622 j9)
  have hz_1689 : ∀ j, aI S_1685 q_266 j = 0 := fun j9 => (hf_1687.ai (mem_old hm_1623) (fun h9 => h9) j9).trans (hz_1626 j9)
  have hz_1690 : ∀ j, aI S_1685 q_295 j = 0 := fun j9 => (hf_1687.ai (mem_old hm_1627) (fun h9 => h9) j9).trans (hz_1630 j9)
  have hz_1691 : ∀ j, aI S_1685 q_524 j = 0 := fun j9 => (hf_1687.ai (mem_old hm_1631) (fun h9 => h9) j9).trans (hz_1634 j9)
  have hz_1692 : ∀ j, aI S_1685 q_565 j = 0 := fun j9 => (hf_1687.ai (mem_old hm_1635) (fun h9 => h9) j9).trans (hz_1638 j9)
  have hz_1693 : ∀ j, aI S_1685 q_610 j = 0 := fun j9 => (hf_1687.ai (mem_old hm_1639) (fun h9 => h9) j9).trans (hz_1642 j9)
  have hm_1694 : h ∈ hL S_1685 := hf_1687.mem (mem_old hm_1615)
  have hk_1695 : Kd S_1685 h 9 := hf_1687.kd (mem_old hm_1615) (kd_nO (k := 10) hq_1671 hm_1615 hk_1616)
  have hm_1696 : q_161 ∈ hL S_1685 := hf_1687.mem (mem_old hm_1619)
  have hk_1697 : Kd S_1685 q_161 20 := hf_1687.kd (mem_old hm_1619) (kd_nO (k := 10) hq_1671 hm_1619 hk_1620)
  have hn_1698 : Ln S_1685 q_161 16 := hf_1687.ln (mem_old hm_1619) hn_1621
  have hm_1699 : q_1670 ∈ hL S_1685 := hf_1687.mem mem_new
  have hk_1700 : Kd S_1685 q_1670 10 := hf_1687.kd mem_new (kd_nO' (k := 10))
  have hm_1701 : q_266 ∈ hL S_1685 := hf_1687.mem (mem_old hm_1623)
  have hk_1702 : Kd S_1685 q_266 13 := hf_1687.kd (mem_old hm_1623) (kd_nO (k := 10) hq_1671 hm_1623 hk_1624)
  have hn_1703 : Ln S_1685 q_266 24000 := hf_1687.ln (mem_old hm_1623) hn_1625
  have hm_1704 : q_295 ∈ hL S_1685 := hf_1687.mem (mem_old hm_1627)
  have hk_1705 : Kd S_1685 q_295 14 := hf_1687.kd (mem_old hm_1627) (kd_nO (k := 10) hq_1671 hm_1627 hk_1628)
  have hn_1706 : Ln S_1685 q_295 16 := hf_1687.ln (mem_old hm_1627) hn_1629
  have hm_1707 : q_524 ∈ hL S_1685 := hf_1687.mem (mem_old hm_1631)
  have hk_1708 : Kd S_1685 q_524 18 := hf_1687.kd (mem_old hm_1631) (kd_nO (k := 10) hq_1671 hm_1631 hk_1632)
  have hn_1709 : Ln S_1685 q_524 3 := hf_1687.ln (mem_old hm_1631) hn_1633
  have hm_1710 : q_565 ∈ hL S_1685 := hf_1687.mem (mem_old hm_1635)
  have hk_1711 : Kd S_1685 q_565 19 := hf_1687.kd (mem_old hm_1635) (kd_nO (k := 10) hq_1671 hm_1635 hk_1636)
  have hn_1712 : Ln S_1685 q_565 4 := hf_1687.ln (mem_old hm_1635) hn_1637
  have hm_1713 : q_610 ∈ hL S_1685 := hf_1687.mem (mem_old hm_1639)
  have hk_1714 : Kd S_1685 q_610 14 := hf_1687.kd (mem_old hm_1639) (kd_nO (k := 10) hq_1671 hm_1639 hk_1640)
  have hn_1715 : Ln S_1685 q_610 12 := hf_1687.ln (mem_old hm_1639) hn_1641
  have hv_1716 : hR S_1685 900 h = (some s0) := hf_1687.fr (mem_old hm_1615) (fun q9 => (fun e9 => absurd (((kd_nO (k := 10) hq_1671 hm_1615 hk_1616)).symm.trans ((congrArg (hK _) e9).trans (kd_nO' (k := 10)))) (by decide)) q9) (rd_nOR (k := 10) hq_1671 hm_1615 hv_1646)
  have hv_1717 : hR S_1685 901 h = (some q_1) := hf_1687.fr (mem_old hm_1615) (fun q9 => (fun e9 => absurd (((kd_nO (k := 10) hq_1671 hm_1615 hk_1616)).symm.trans ((congrArg (hK _) e9).trans (kd_nO' (k := 10)))) (by decide)) q9) (rd_nOR (k := 10) hq_1671 hm_1615 hv_1647)
  have hv_1718 : hR S_1685 902 h = (some q_41) := hf_1687.fr (mem_old hm_1615) (fun q9 => (fun e9 => absurd (((kd_nO (k := 10) hq_1671 hm_1615 hk_1616)).symm.trans ((congrArg (hK _) e9).trans (kd_nO' (k := 10)))) (by decide)) q9) (rd_nOR (k := 10) hq_1671 hm_1615 hv_1648)
  have hv_1719 : hR S_1685 903 h = (some q_126) := hf_1687.fr (mem_old hm_1615) (fun q9 => (fun e9 => absurd (((kd_nO (k := 10) hq_1671 hm_1615 hk_1616)).symm.trans ((congrArg (hK _) e9).trans (kd_nO' (k := 10)))) (by decide)) q9) (rd_nOR (k := 10) hq_1671 hm_1615 hv_1649)
  have hv_1720 : hR S_1685 904 h = (some q_161) := hf_1687.fr (mem_old hm_1615) (fun q9 => (fun e9 => absurd (((kd_nO (k := 10) hq_1671 hm_1615 hk_1616)).symm.trans ((congrArg (hK _) e9).trans (kd_nO' (k := 10)))) (by decide)) q9) (rd_nOR (k := 10) hq_1671 hm_1615 hv_1650)
  have hv_1721 : hR S_1685 905 h = (some q_183) := hf_1687.fr (mem_old hm_1615) (fun q9 => (fun e9 => absurd (((kd_nO (k := 10) hq_1671 hm_1615 hk_1616)).symm.trans ((congrArg (hK _) e9).trans (kd_nO' (k := 10)))) (by decide)) q9) (rd_nOR (k := 10) hq_1671 hm_1615 hv_1651)
  have hv_1722 : hR S_1685 906 h = (some q_224) := hf_1687.fr (mem_old hm_1615) (fun q9 => (fun e9 => absurd (((kd_nO (k := 10) hq_1671 hm_1615 hk_1616)).symm.trans ((congrArg (hK _) e9).trans (kd_nO' (k := 10)))) (by decide)) q9) (rd_nOR (k := 10) hq_1671 hm_1615 hv_1652)
  have hv_1723 : hR S_1685 907 h = (some q_266) := hf_1687.fr (mem_old hm_1615) (fun q9 => (fun e9 => absurd (((kd_nO (k := 10) hq_1671 hm_1615 hk_1616)).symm.trans ((congrArg (hK _) e9).trans (kd_nO' (k := 10)))) (by decide)) q9) (rd_nOR (k := 10) hq_1671 hm_1615 hv_1653)
  have hv_1724 : hR S_1685 908 h = (some q_295) := hf_1687.fr (mem_old hm_1615) (fun q9 => (fun e9 => absurd (((kd_nO (k := 10) hq_1671 hm_1615 hk_1616)).symm.trans ((congrArg (hK _) e9).trans (kd_nO' (k := 10)))) (by decide)) q9) (rd_nOR (k := 10) hq_1671 hm_1615 hv_1654)
  have hv_1725 : hR S_1685 909 h = (some q_328) := hf_1687.fr (mem_old hm_1615) (fun q9 => (fun e9 => absurd (((kd_nO (k := 10) hq_1671 hm_1615 hk_1616)).symm.trans ((congrArg (hK _) e9).trans (kd_nO' (k := 10)))) (by decide)) q9) (rd_nOR (k := 10) hq_1671 hm_1615 hv_1655)
  have hv_1726 : hR S_1685 910 h = (some q_425) := hf_1687.fr (mem_old hm_1615) (fun q9 => (fun e9 => absurd (((kd_nO (k := 10) hq_1671 hm_1615 hk_1616)).symm.trans ((congrArg (hK _) e9).trans (kd_nO' (k := 10)))) (by decide)) q9) (rd_nOR (k := 10) hq_1671 hm_1615 hv_1656)
  have hv_1727 : hR S_1685 911 h = (some q_524) := hf_1687.fr (mem_old hm_1615) (fun q9 => (fun e9 => absurd (((kd_nO (k := 10) hq_1671 hm_1615 hk_1616)).symm.trans ((congrArg (hK _) e9).trans (kd_nO' (k := 10)))) (by decide)) q9) (rd_nOR (k := 10) hq_1671 hm_1615 hv_1657)
  have hv_1728 : hR S_1685 912 h = (some q_565) := hf_1687.fr (mem_old hm_1615) (fun q9 => (fun e9 => absurd (((kd_nO (k := 10) hq_1671 hm_1615 hk_1616)).symm.trans ((congrArg (hK _) e9).trans (kd_nO' (k := 10)))) (by decide)) q9) (rd_nOR (k := 10) hq_1671 hm_1615 hv_1658)
  have hv_1729 : hR S_1685 917 h = (some q_610) := hf_1687.fr (mem_old hm_1615) (fun q9 => (fun e9 => absurd (((kd_nO (k := 10) hq_1671 hm_1615 hk_1616)).symm.trans ((congrArg (hK _) e9).trans (kd_nO' (k := 10)))) (by decide)) q9) (rd_nOR (k := 10) hq_1671 hm_1615 hv_1659)
  have hf_1730 : Fm (fun _ _ => False) (fun f9 b9 => b9 = h) (fun _ => False) S S_1685 := hf_1674.then hf_1687 (fun a9 ha9 => ⟨(fun f9 h9 => (fun h9 => h9.elim (fun h8 => absurd (h8.2 ▸ ha9) hz_1672) (fun h8 => absurd (h8.2 ▸ ha9) hz_1672)) h9), (fun f9 h9 => (fun h8 => absurd (h8 ▸ ha9) hz_1672) h9), (fun h9 => h9.elim)⟩)
  have hN_1731 : NL S (L_1666 ++ [q_1670]) S_1685 := NL.mono (show NL S (L_1666 ++ [q_1670]) (nO S_1612 q_1670 10) from NL.nO hN_1664 hq_1671 hz_1672) (fun a9 h9 => hf_1687.mem h9)
  have hG_1732 : Gs h gs_1668 S_1685 := Gs.fm (show Gs h gs_1668 (nO S_1612 q_1670 10) from Gs.nO hG_1665 hq_1671) hf_1687 (fun g9 hg9 p9 hp9 => gn_1673 g9 hg9 p9 hp9)
  have hE_1733 : ELs S_1685 q_161 [q_661, q_784, q_914, q_1038, q_1162, q_1292, q_1416, q_1540] := ELs.fm (ELs.nO (S := S_1612) hE_1663) hf_1687 (mem_old hm_1619) (fun h9 => h9)
  have hz_1734 : q_1675 ∉ hL S := fun h9 => e_1678 (hf_1674.mem h9)
  have hN_1735 : NL S ((L_1666 ++ [q_1670]) ++ [q_1675]) S_1685 := NL.app (show NL S (L_1666 ++ [q_1670]) (nO S_1612 q_1670 10) from NL.nO hN_1664 hq_1671 hz_1672) hNl_1683 (fun a9 h9 => hf_1687.mem h9) (fun a9 h9 => hf_1674.mem h9)
  obtain ⟨L_1736, eL_1737⟩ : ∃ L9 : List Nat, L9 = ((L_1666 ++ [q_1670]) ++ [q_1675]) := ⟨_, rfl⟩
  rw [← eL_1737] at hN_1735
  have hGt_1738 : Gt 1 [q_1670, q_1675] S_1685 := ⟨fun i9 k9 h9 => (match i9, h9 with | 0, h9 => (by have e9 : (10 : Nat) = k9 := Option.some.inj h9; subst e9; exact ⟨hm_1699, hk_1700⟩) | 1, h9 => (by have e9 : (15 : Nat) = k9 := Option.some.inj h9; subst e9; exact ⟨e_1679, e_1680⟩) | i9 + 2, h9 => absurd h9 (by simp [gT])), (List.forall_mem_cons.mpr ⟨e_1681, (fun _ h9 => absurd h9 List.not_mem_nil)⟩), (List.forall_mem_cons.mpr ⟨e_1682, (fun _ h9 => absurd h9 List.not_mem_nil)⟩), (fun _ h9 => absurd h9 List.not_mem_nil)⟩
  have hG_1739 : Gs h (gs_1668 ++ [(1, [q_1670, q_1675])]) S_1685 := Gs.snoc hG_1732 (by decide) hGt_1738 (List.forall_mem_cons.mpr ⟨(own_ne hz_1672 hm0_9), (fun _ h9 => absurd h9 List.not_mem_nil)⟩)
  obtain ⟨gs_1740, eG_1741⟩ : ∃ G9 : List (Nat × List Nat), G9 = gs_1668 ++ [(1, [q_1670, q_1675])] := ⟨_, rfl⟩
  rw [← eG_1741] at hG_1739
  refine j_aast (j := 8) (ci := 10) C 20  (by decide) rfl dX9_init_159 hm_1696 hk_1697 (inr_of (n := 16) hn_1698 (vp_lit (by decide))) (by decide) hm_1699 hk_1700 rfl ?_
  have hf_1744 : Fm (fun _ _ => False) (fun f9 b9 => b9 = h) (fun _ => False) S (tR S_1685 q_161 8 (some q_1670)) := (hf_1730.tR _ _ (fun h9 => absurd h9 hz_164))
  obtain ⟨S_1742, eS_1743⟩ : ∃ S9 : Hp, S9 = (tR S_1685 q_161 8 (some q_1670)) := ⟨_, rfl⟩
  refine J.eq (S' := S_1742) eS_1743.symm rfl rfl ?_
  have hm_1745 : h ∈ hL S_1742 := by rw [eS_1743]; exact hm_1694
  have hk_1746 : Kd S_1742 h 9 := by rw [eS_1743]; exact hk_1695
  have hm_1747 : q_161 ∈ hL S_1742 := by rw [eS_1743]; exact hm_1696
  have hk_1748 : Kd S_1742 q_161 20 := by rw [eS_1743]; exact hk_1697
  have hn_1749 : Ln S_1742 q_161 16 := by rw [eS_1743]; exact hn_1698
  have hz_1750 : ∀ j, aI S_1742 q_161 j = 0 := by rw [eS_1743]; exact hz_1688
  have hm_1751 : q_1670 ∈ hL S_1742 := by rw [eS_1743]; exact hm_1699
  have hk_1752 : Kd S_1742 q_1670 10 := by rw [eS_1743]; exact hk_1700
  have hm_1753 : q_266 ∈ hL S_1742 := by rw [eS_1743]; exact hm_1701
  have hk_1754 : Kd S_1742 q_266 13 := by rw [eS_1743]; exact hk_1702
  have hn_1755 : Ln S_1742 q_266 24000 := by rw [eS_1743]; exact hn_1703
  have hz_1756 : ∀ j, aI S_1742 q_266 j = 0 := by rw [eS_1743]; exact hz_1689
  have hm_1757 : q_295 ∈ hL S_1742 := by rw [eS_1743]; exact hm_1704
  have hk_1758 : Kd S_1742 q_295 14 := by rw [eS_1743]; exact hk_1705
  have hn_1759 : Ln S_1742 q_295 16 := by rw [eS_1743]; exact hn_1706
  have hz_1760 : ∀ j, aI S_1742 q_295 j = 0 := by rw [eS_1743]; exact hz_1690
  have hm_1761 : q_524 ∈ hL S_1742 := by rw [eS_1743]; exact hm_1707
  have hk_1762 : Kd S_1742 q_524 18 := by rw [eS_1743]; exact hk_1708
  have hn_1763 : Ln S_1742 q_524 3 := by rw [eS_1743]; exact hn_1709
  have hz_1764 : ∀ j, aI S_1742 q_524 j = 0 := by rw [eS_1743]; exact hz_1691
  have hm_1765 : q_565 ∈ hL S_1742 := by rw [eS_1743]; exact hm_1710
  have hk_1766 : Kd S_1742 q_565 19 := by rw [eS_1743]; exact hk_1711
  have hn_1767 : Ln S_1742 q_565 4 := by rw [eS_1743]; exact hn_1712
  have hz_1768 : ∀ j, aI S_1742 q_565 j = 0 := by rw [eS_1743]; exact hz_1692
  have hm_1769 : q_610 ∈ hL S_1742 := by rw [eS_1743]; exact hm_1713
  have hk_1770 : Kd S_1742 q_610 14 := by rw [eS_1743]; exact hk_1714
  have hn_1771 : Ln S_1742 q_610 12 := by rw [eS_1743]; exact hn_1715
  have hz_1772 : ∀ j, aI S_1742 q_610 j = 0 := by rw [eS_1743]; exact hz_1693
  have hv_1773 : hI S_1742 1000 q_1670 = 1 := by rw [eS_1743]; exact e_1676
  have hv_1774 : hI S_1742 1001 q_1670 = 1 := by rw [eS_1743]; exact e_1677
  have hv_1775 : hR S_1742 1003 q_1670 = (some q_1675) := by rw [eS_1743]; exact e_1682
  have hv_1776 : hR S_1742 900 h = (some s0) := by rw [eS_1743]; exact hv_1716
  have hv_1777 : hR S_1742 901 h = (some q_1) := by rw [eS_1743]; exact hv_1717
  have hv_1778 : hR S_1742 902 h = (some q_41) := by rw [eS_1743]; exact hv_1718
  have hv_1779 : hR S_1742 903 h = (some q_126) := by rw [eS_1743]; exact hv_1719
  have hv_1780 : hR S_1742 904 h = (some q_161) := by rw [eS_1743]; exact hv_1720
  have hv_1781 : hR S_1742 905 h = (some q_183) := by rw [eS_1743]; exact hv_1721
  have hv_1782 : hR S_1742 906 h = (some q_224) := by rw [eS_1743]; exact hv_1722
  have hv_1783 : hR S_1742 907 h = (some q_266) := by rw [eS_1743]; exact hv_1723
  have hv_1784 : hR S_1742 908 h = (some q_295) := by rw [eS_1743]; exact hv_1724
  have hv_1785 : hR S_1742 909 h = (some q_328) := by rw [eS_1743]; exact hv_1725
  have hv_1786 : hR S_1742 910 h = (some q_425) := by rw [eS_1743]; exact hv_1726
  have hv_1787 : hR S_1742 911 h = (some q_524) := by rw [eS_1743]; exact hv_1727
  have hv_1788 : hR S_1742 912 h = (some q_565) := by rw [eS_1743]; exact hv_1728
  have hv_1789 : hR S_1742 917 h = (some q_610) := by rw [eS_1743]; exact hv_1729
  have hf_1790 : Fm (fun _ _ => False) (fun f9 b9 => b9 = h) (fun _ => False) S S_1742 := by rw [eS_1743]; exact hf_1744
  have hN_1791 : NL S L_1736 S_1742 := by rw [eS_1743]; exact (NL.tR (S := S_1685) hN_1735)
  have hG_1792 : Gs h gs_1740 S_1742 := by rw [eS_1743]; exact (Gs.tR (S := S_1685) hG_1739)
  have hE_1793 : ELs S_1742 q_161 [q_661, q_784, q_914, q_1038, q_1162, q_1292, q_1416, q_1540, q_1670] := by rw [eS_1743]; exact (show ELs (tR S_1685 q_161 8 (some q_1670)) q_161 [q_661, q_784, q_914, q_1038, q_1162, q_1292, q_1416, q_1540, q_1670] from ELs.snoc hE_1733 rfl)
  refine j_iinc (q := 0) (v := 9) (lv' := [(2, .int 9), (0, .ref h), (1, .ref s0)]) C dX9_init_160 rfl (by decide) (by rw [hn9]; decide) rfl ?_
  refine j_goto (tgt := 138) C dX9_init_163 (by decide) ?_
  show J _ _ _ _ _ 138 _
  refine j_iload_n C dX9_init_138 rfl 0 rfl ?_
  refine j_aload_n C dX9_init_139 rfl 1 rfl ?_
  refine j_getr (f := 904) (v := q_161) C flX9_34 dX9_init_140 hm_1745 hk_1746 (by decide) rfl hv_1780 ?_
  refine j_alen (v := 16) C dX9_init_143 hm_1747 hk_1748 (by decide) (by decide) (len_of (n := 16) hn_1749 (by decide)) ?_
  refine j_ic_ge (tgt := 166) C dX9_init_144 (by decide) (fun c9 => absurd c9 (by decide)) (fun c9 => ?_)
  refine j_aload_n C dX9_init_147 rfl 1 rfl ?_
  refine j_getr (f := 904) (v := q_161) C flX9_34 dX9_init_148 hm_1745 hk_1746 (by decide) rfl hv_1780 ?_
  refine j_iload_n C dX9_init_151 rfl 0 rfl ?_
  show J _ _ _ _ _ 152 _
  refine j_new (N := 4) C (ci := 10) rfl rfl klX9_32 knX10 kiX10 (M.cells (by decide)) (M.slots (by decide)) dX9_init_152 (fun q_1794 hq_1795 => ?_)
  have hz_1796 : q_1794 ∉ hL S := fun h9 => hq_1795 (hf_1790.mem h9)
  have gn_1797 : ∀ g9 ∈ gs_1740, ∀ p9 ∈ (gT g9.1).2.2, g9.2.getD p9.2.1 0 ≠ q_1794 := Gs.ne hG_1792 hq_1795
  refine j_dup C dX9_init_155 rfl ?_
  have hf_1798 : Fm (fun _ _ => False) (fun f9 b9 => b9 = h) (fun _ => False) S (nO S_1742 q_1794 10) := (hf_1790.nO _ hq_1795)
  refine j_callI C [] [.ref q_1794, .int 9, .ref q_161] mlX9_38 mcX10_init (c_X10_init (nO S_1742 q_1794 10) q_1794 mem_new (kd_nO' (k := 10))) (M.rm (by decide) (by decide) (Nat.le_of_ble_eq_true rfl) (Nat.le_of_ble_eq_true rfl)) rfl rfl (Nat.le_of_ble_eq_true rfl) dX9_init_156 (fun r_1808 S_1809 hp_1810 => ?_)
  obtain ⟨rfl, hf_1811, e_1800, e_1801, q_1799, e_1802, e_1803, e_1804, e_1805, e_1806, hNl_1807⟩ := hp_1810
  refine J.eq (st' := [.ref q_1794, .int 9, .ref q_161]) rfl rfl rfl ?_
  have hz_1812 : ∀ j, aI S_1809 q_161 j = 0 := fun j9 => (hf_1811.ai (mem_old hm_1747) (fun h9 => h9) j9).trans (hz_1750 j9)
  have hz_1813 : ∀ j, aI S_1809 q_266 j = 0 := fun j9 => (hf_1811.ai (mem_old hm_1753) (fun h9 => h9) j9).trans (hz_1756 j9)
  have hz_1814 : ∀ j, aI S_1809 q_295 j = 0 := fun j9 => (hf_1811.ai (mem_old hm_1757) (fun h9 => h9) j9).trans (hz_1760 j9)
  have hz_1815 : ∀ j, aI S_1809 q_524 j = 0 := fun j9 => (hf_1811.ai (mem_old hm_1761) (fun h9 => h9) j9).trans (hz_1764 j9)
  have hz_1816 : ∀ j, aI S_1809 q_565 j = 0 := fun j9 => (hf_1811.ai (mem_old hm_1765) (fun h9 => h9) j9).trans (hz_1768 j9)
  have hz_1817 : ∀ j, aI S_1809 q_610 j = 0 := fun j9 => (hf_1811.ai (mem_old hm_1769) (fun h9 => h9) j9).trans (hz_1772 j9)
  have hm_1818 : h ∈ hL S_1809 := hf_1811.mem (mem_old hm_1745)
  have hk_1819 : Kd S_1809 h 9 := hf_1811.kd (mem_old hm_1745) (kd_nO (k := 10) hq_1795 hm_1745 hk_1746)
  have hm_1820 : q_161 ∈ hL S_1809 := hf_1811.mem (mem_old hm_1747)
  have hk_1821 : Kd S_1809 q_161 20 := hf_1811.kd (mem_old hm_1747) (kd_nO (k := 10) hq_1795 hm_1747 hk_1748)
  have hn_1822 : Ln S_1809 q_161 16 := hf_1811.ln (mem_old hm_1747) hn_1749
  have hm_1823 : q_1794 ∈ hL S_1809 := hf_1811.mem mem_new
  have hk_1824 : Kd S_1809 q_1794 10 := hf_1811.kd mem_new (kd_nO' (k := 10))
  have hm_1825 : q_266 ∈ hL S_1809 := hf_1811.mem (mem_old hm_1753)
  have hk_1826 : Kd S_1809 q_266 13 := hf_1811.kd (mem_old hm_1753) (kd_nO (k := 10) hq_1795 hm_1753 hk_1754)
  have hn_1827 : Ln S_1809 q_266 24000 := hf_1811.ln (mem_old hm_1753) hn_1755
  have hm_1828 : q_295 ∈ hL S_1809 := hf_1811.mem (mem_old hm_1757)
  have hk_1829 : Kd S_1809 q_295 14 := hf_1811.kd (mem_old hm_1757) (kd_nO (k := 10) hq_1795 hm_1757 hk_1758)
  have hn_1830 : Ln S_1809 q_295 16 := hf_1811.ln (mem_old hm_1757) hn_1759
  have hm_1831 : q_524 ∈ hL S_1809 := hf_1811.mem (mem_old hm_1761)
  have hk_1832 : Kd S_1809 q_524 18 := hf_1811.kd (mem_old hm_1761) (kd_nO (k := 10) hq_1795 hm_1761 hk_1762)
  have hn_1833 : Ln S_1809 q_524 3 := hf_1811.ln (mem_old hm_1761) hn_1763
  have hm_1834 : q_565 ∈ hL S_1809 := hf_1811.mem (mem_old hm_1765)
  have hk_1835 : Kd S_1809 q_565 19 := hf_1811.kd (mem_old hm_1765) (kd_nO (k := 10) hq_1795 hm_1765 hk_1766)
  have hn_1836 : Ln S_1809 q_565 4 := hf_1811.ln (mem_old hm_1765) hn_1767
  have hm_1837 : q_610 ∈ hL S_1809 := hf_1811.mem (mem_old hm_1769)
  have hk_1838 : Kd S_1809 q_610 14 := hf_1811.kd (mem_old hm_1769) (kd_nO (k := 10) hq_1795 hm_1769 hk_1770)
  have hn_1839 : Ln S_1809 q_610 12 := hf_1811.ln (mem_old hm_1769) hn_1771
  have hv_1840 : hR S_1809 900 h = (some s0) := hf_1811.fr (mem_old hm_1745) (fun q9 => (fun e9 => absurd (((kd_nO (k := 10) hq_1795 hm_1745 hk_1746)).symm.trans ((congrArg (hK _) e9).trans (kd_nO' (k := 10)))) (by decide)) q9) (rd_nOR (k := 10) hq_1795 hm_1745 hv_1776)
  have hv_1841 : hR S_1809 901 h = (some q_1) := hf_1811.fr (mem_old hm_1745) (fun q9 => (fun e9 => absurd (((kd_nO (k := 10) hq_1795 hm_1745 hk_1746)).symm.trans ((congrArg (hK _) e9).trans (kd_nO' (k := 10)))) (by decide)) q9) (rd_nOR (k := 10) hq_1795 hm_1745 hv_1777)
  have hv_1842 : hR S_1809 902 h = (some q_41) := hf_1811.fr (mem_old hm_1745) (fun q9 => (fun e9 => absurd (((kd_nO (k := 10) hq_1795 hm_1745 hk_1746)).symm.trans ((congrArg (hK _) e9).trans (kd_nO' (k := 10)))) (by decide)) q9) (rd_nOR (k := 10) hq_1795 hm_1745 hv_1778)
  have hv_1843 : hR S_1809 903 h = (some q_126) := hf_1811.fr (mem_old hm_1745) (fun q9 => (fun e9 => absurd (((kd_nO (k := 10) hq_1795 hm_1745 hk_1746)).symm.trans ((congrArg (hK _) e9).trans (kd_nO' (k := 10)))) (by decide)) q9) (rd_nOR (k := 10) hq_1795 hm_1745 hv_1779)
  have hv_1844 : hR S_1809 904 h = (some q_161) := hf_1811.fr (mem_old hm_1745) (fun q9 => (fun e9 => absurd (((kd_nO (k := 10) hq_1795 hm_1745 hk_1746)).symm.trans ((congrArg (hK _) e9).trans (kd_nO' (k := 10)))) (by decide)) q9) (rd_nOR (k := 10) hq_1795 hm_1745 hv_1780)
  have hv_1845 : hR S_1809 905 h = (some q_183) := hf_1811.fr (mem_old hm_1745) (fun q9 => (fun e9 => absurd (((kd_nO (k := 10) hq_1795 hm_1745 hk_1746)).symm.trans ((congrArg (hK _) e9).trans (kd_nO' (k := 10)))) (by decide)) q9) (rd_nOR (k := 10) hq_1795 hm_1745 hv_1781)
  have hv_1846 : hR S_1809 906 h = (some q_224) := hf_1811.fr (mem_old hm_1745) (fun q9 => (fun e9 => absurd (((kd_nO (k := 10) hq_1795 hm_1745 hk_1746)).symm.trans ((congrArg (hK _) e9).trans (kd_nO' (k := 10)))) (by decide)) q9) (rd_nOR (k := 10) hq_1795 hm_1745 hv_1782)
  have hv_1847 : hR S_1809 907 h = (some q_266) := hf_1811.fr (mem_old hm_1745) (fun q9 => (fun e9 => absurd (((kd_nO (k := 10) hq_1795 hm_1745 hk_1746)).symm.trans ((congrArg (hK _) e9).trans (kd_nO' (k := 10)))) (by decide)) q9) (rd_nOR (k := 10) hq_1795 hm_1745 hv_1783)
  have hv_1848 : hR S_1809 908 h = (some q_295) := hf_1811.fr (mem_old hm_1745) (fun q9 => (fun e9 => absurd (((kd_nO (k := 10) hq_1795 hm_1745 hk_1746)).symm.trans ((congrArg (hK _) e9).trans (kd_nO' (k := 10)))) (by decide)) q9) (rd_nOR (k := 10) hq_1795 hm_1745 hv_1784)
  have hv_1849 : hR S_1809 909 h = (some q_328) := hf_1811.fr (mem_old hm_1745) (fun q9 => (fun e9 => absurd (((kd_nO (k := 10) hq_1795 hm_1745 hk_1746)).symm.trans ((congrArg (hK _) e9).trans (kd_nO' (k := 10)))) (by decide)) q9) (rd_nOR (k := 10) hq_1795 hm_1745 hv_1785)
  have hv_1850 : hR S_1809 910 h = (some q_425) := hf_1811.fr (mem_old hm_1745) (fun q9 => (fun e9 => absurd (((kd_nO (k := 10) hq_1795 hm_1745 hk_1746)).symm.trans ((congrArg (hK _) e9).trans (kd_nO' (k := 10)))) (by decide)) q9) (rd_nOR (k := 10) hq_1795 hm_1745 hv_1786)
  have hv_1851 : hR S_1809 911 h = (some q_524) := hf_1811.fr (mem_old hm_1745) (fun q9 => (fun e9 => absurd (((kd_nO (k := 10) hq_1795 hm_1745 hk_1746)).symm.trans ((congrArg (hK _) e9).trans (kd_nO' (k := 10)))) (by decide)) q9) (rd_nOR (k := 10) hq_1795 hm_1745 hv_1787)
  have hv_1852 : hR S_1809 912 h = (some q_565) := hf_1811.fr (mem_old hm_1745) (fun q9 => (fun e9 => absurd (((kd_nO (k := 10) hq_1795 hm_1745 hk_1746)).symm.trans ((congrArg (hK _) e9).trans (kd_nO' (k := 10)))) (by decide)) q9) (rd_nOR (k := 10) hq_1795 hm_1745 hv_1788)
  have hv_1853 : hR S_1809 917 h = (some q_610) := hf_1811.fr (mem_old hm_1745) (fun q9 => (fun e9 => absurd (((kd_nO (k := 10) hq_1795 hm_1745 hk_1746)).symm.trans ((congrArg (hK _) e9).trans (kd_nO' (k := 10)))) (by decide)) q9) (rd_nOR (k := 10) hq_1795 hm_1745 hv_1789)
  have hf_1854 : Fm (fun _ _ => False) (fun f9 b9 => b9 = h) (fun _ => False) S S_1809 := hf_1798.then hf_1811 (fun a9 ha9 => ⟨(fun f9 h9 => (fun h9 => h9.elim (fun h8 => absurd (h8.2 ▸ ha9) hz_1796) (fun h8 => absurd (h8.2 ▸ ha9) hz_1796)) h9), (fun f9 h9 => (fun h8 => absurd (h8 ▸ ha9) hz_1796) h9), (fun h9 => h9.elim)⟩)
  have hN_1855 : NL S (L_1736 ++ [q_1794]) S_1809 := NL.mono (show NL S (L_1736 ++ [q_1794]) (nO S_1742 q_1794 10) from NL.nO hN_1791 hq_1795 hz_1796) (fun a9 h9 => hf_1811.mem h9)
  have hG_1856 : Gs h gs_1740 S_1809 := Gs.fm (show Gs h gs_1740 (nO S_1742 q_1794 10) from Gs.nO hG_1792 hq_1795) hf_1811 (fun g9 hg9 p9 hp9 => gn_1797 g9 hg9 p9 hp9)
  have hE_1857 : ELs S_1809 q_161 [q_661, q_784, q_914, q_1038, q_1162, q_1292, q_1416, q_1540, q_1670] := ELs.fm (ELs.nO (S := S_1742) hE_1793) hf_1811 (mem_old hm_1747) (fun h9 => h9)
  have hz_1858 : q_1799 ∉ hL S := fun h9 => e_1802 (hf_1798.mem h9)
  have hN_1859 : NL S ((L_1736 ++ [q_1794]) ++ [q_1799]) S_1809 := NL.app (show NL S (L_1736 ++ [q_1794]) (nO S_1742 q_1794 10) from NL.nO hN_1791 hq_1795 hz_1796) hNl_1807 (fun a9 h9 => hf_1811.mem h9) (fun a9 h9 => hf_1798.mem h9)
  obtain ⟨L_1860, eL_1861⟩ : ∃ L9 : List Nat, L9 = ((L_1736 ++ [q_1794]) ++ [q_1799]) := ⟨_, rfl⟩
  rw [← eL_1861] at hN_1859
  have hGt_1862 : Gt 1 [q_1794, q_1799] S_1809 := ⟨fun i9 k9 h9 => (match i9, h9 with | 0, h9 => (by have e9 : (10 : Nat) = k9 := Option.some.inj h9; subst e9; exact ⟨hm_1823, hk_1824⟩) | 1, h9 => (by have e9 : (15 : Nat) = k9 := Option.some.inj h9; subst e9; exact ⟨e_1803, e_1804⟩) | i9 + 2, h9 => absurd h9 (by simp [gT])), (List.forall_mem_cons.mpr ⟨e_1805, (fun _ h9 => absurd h9 List.not_mem_nil)⟩), (List.forall_mem_cons.mpr ⟨e_1806, (fun _ h9 => absurd h9 List.not_mem_nil)⟩), (fun _ h9 => absurd h9 List.not_mem_nil)⟩
  have hG_1863 : Gs h (gs_1740 ++ [(1, [q_1794, q_1799])]) S_1809 := Gs.snoc hG_1856 (by decide) hGt_1862 (List.forall_mem_cons.mpr ⟨(own_ne hz_1796 hm0_9), (fun _ h9 => absurd h9 List.not_mem_nil)⟩)
  obtain ⟨gs_1864, eG_1865⟩ : ∃ G9 : List (Nat × List Nat), G9 = gs_1740 ++ [(1, [q_1794, q_1799])] := ⟨_, rfl⟩
  rw [← eG_1865] at hG_1863
  refine j_aast (j := 9) (ci := 10) C 20  (by decide) rfl dX9_init_159 hm_1820 hk_1821 (inr_of (n := 16) hn_1822 (vp_lit (by decide))) (by decide) hm_1823 hk_1824 rfl ?_
  have hf_1868 : Fm (fun _ _ => False) (fun f9 b9 => b9 = h) (fun _ => False) S (tR S_1809 q_161 9 (some q_1794)) := (hf_1854.tR _ _ (fun h9 => absurd h9 hz_164))
  obtain ⟨S_1866, eS_1867⟩ : ∃ S9 : Hp, S9 = (tR S_1809 q_161 9 (some q_1794)) := ⟨_, rfl⟩
  refine J.eq (S' := S_1866) eS_1867.symm rfl rfl ?_
  have hm_1869 : h ∈ hL S_1866 := by rw [eS_1867]; exact hm_1818
  have hk_1870 : Kd S_1866 h 9 := by rw [eS_1867]; exact hk_1819
  have hm_1871 : q_161 ∈ hL S_1866 := by rw [eS_1867]; exact hm_1820
  have hk_1872 : Kd S_1866 q_161 20 := by rw [eS_1867]; exact hk_1821
  have hn_1873 : Ln S_1866 q_161 16 := by rw [eS_1867]; exact hn_1822
  have hz_1874 : ∀ j, aI S_1866 q_161 j = 0 := by rw [eS_1867]; exact hz_1812
  have hm_1875 : q_1794 ∈ hL S_1866 := by rw [eS_1867]; exact hm_1823
  have hk_1876 : Kd S_1866 q_1794 10 := by rw [eS_1867]; exact hk_1824
  have hm_1877 : q_266 ∈ hL S_1866 := by rw [eS_1867]; exact hm_1825
  have hk_1878 : Kd S_1866 q_266 13 := by rw [eS_1867]; exact hk_1826
  have hn_1879 : Ln S_1866 q_266 24000 := by rw [eS_1867]; exact hn_1827
  have hz_1880 : ∀ j, aI S_1866 q_266 j = 0 := by rw [eS_1867]; exact hz_1813
  have hm_1881 : q_295 ∈ hL S_1866 := by rw [eS_1867]; exact hm_1828
  have hk_1882 : Kd S_1866 q_295 14 := by rw [eS_1867]; exact hk_1829
  have hn_1883 : Ln S_1866 q_295 16 := by rw [eS_1867]; exact hn_1830
  have hz_1884 : ∀ j, aI S_1866 q_295 j = 0 := by rw [eS_1867]; exact hz_1814
  have hm_1885 : q_524 ∈ hL S_1866 := by rw [eS_1867]; exact hm_1831
  have hk_1886 : Kd S_1866 q_524 18 := by rw [eS_1867]; exact hk_1832
  have hn_1887 : Ln S_1866 q_524 3 := by rw [eS_1867]; exact hn_1833
  have hz_1888 : ∀ j, aI S_1866 q_524 j = 0 := by rw [eS_1867]; exact hz_1815
  have hm_1889 : q_565 ∈ hL S_1866 := by rw [eS_1867]; exact hm_1834
  have hk_1890 : Kd S_1866 q_565 19 := by rw [eS_1867]; exact hk_1835
  have hn_1891 : Ln S_1866 q_565 4 := by rw [eS_1867]; exact hn_1836
  have hz_1892 : ∀ j, aI S_1866 q_565 j = 0 := by rw [eS_1867]; exact hz_1816
  have hm_1893 : q_610 ∈ hL S_1866 := by rw [eS_1867]; exact hm_1837
  have hk_1894 : Kd S_1866 q_610 14 := by rw [eS_1867]; exact hk_1838
  have hn_1895 : Ln S_1866 q_610 12 := by rw [eS_1867]; exact hn_1839
  have hz_1896 : ∀ j, aI S_1866 q_610 j = 0 := by rw [eS_1867]; exact hz_1817
  have hv_1897 : hI S_1866 1000 q_1794 = 1 := by rw [eS_1867]; exact e_1800
  have hv_1898 : hI S_1866 1001 q_1794 = 1 := by rw [eS_1867]; exact e_1801
  have hv_1899 : hR S_1866 1003 q_1794 = (some q_1799) := by rw [eS_1867]; exact e_1806
  have hv_1900 : hR S_1866 900 h = (some s0) := by rw [eS_1867]; exact hv_1840
  have hv_1901 : hR S_1866 901 h = (some q_1) := by rw [eS_1867]; exact hv_1841
  have hv_1902 : hR S_1866 902 h = (some q_41) := by rw [eS_1867]; exact hv_1842
  have hv_1903 : hR S_1866 903 h = (some q_126) := by rw [eS_1867]; exact hv_1843
  have hv_1904 : hR S_1866 904 h = (some q_161) := by rw [eS_1867]; exact hv_1844
  have hv_1905 : hR S_1866 905 h = (some q_183) := by rw [eS_1867]; exact hv_1845
  have hv_1906 : hR S_1866 906 h = (some q_224) := by rw [eS_1867]; exact hv_1846
  have hv_1907 : hR S_1866 907 h = (some q_266) := by rw [eS_1867]; exact hv_1847
  have hv_1908 : hR S_1866 908 h = (some q_295) := by rw [eS_1867]; exact hv_1848
  have hv_1909 : hR S_1866 909 h = (some q_328) := by rw [eS_1867]; exact hv_1849
  have hv_1910 : hR S_1866 910 h = (some q_425) := by rw [eS_1867]; exact hv_1850
  have hv_1911 : hR S_1866 911 h = (some q_524) := by rw [eS_1867]; exact hv_1851
  have hv_1912 : hR S_1866 912 h = (some q_565) := by rw [eS_1867]; exact hv_1852
  have hv_1913 : hR S_1866 917 h = (some q_610) := by rw [eS_1867]; exact hv_1853
  have hf_1914 : Fm (fun _ _ => False) (fun f9 b9 => b9 = h) (fun _ => False) S S_1866 := by rw [eS_1867]; exact hf_1868
  have hN_1915 : NL S L_1860 S_1866 := by rw [eS_1867]; exact (NL.tR (S := S_1809) hN_1859)
  have hG_1916 : Gs h gs_1864 S_1866 := by rw [eS_1867]; exact (Gs.tR (S := S_1809) hG_1863)
  have hE_1917 : ELs S_1866 q_161 [q_661, q_784, q_914, q_1038, q_1162, q_1292, q_1416, q_1540, q_1670, q_1794] := by rw [eS_1867]; exact (show ELs (tR S_1809 q_161 9 (some q_1794)) q_161 [q_661, q_784, q_914, q_1038, q_1162, q_1292, q_1416, q_1540, q_1670, q_1794] from ELs.snoc hE_1857 rfl)
  refine j_iinc (q := 0) (v := 10) (lv' := [(2, .int 10), (0, .ref h), (1, .ref s0)]) C dX9_init_160 rfl (by decide) (by rw [hn9]; decide) rfl ?_
  refine j_goto (tgt := 138) C dX9_init_163 (by decide) ?_
  refine j_iload_n C dX9_init_138 rfl 0 rfl ?_
  refine j_aload_n C dX9_init_139 rfl 1 rfl ?_
  show J _ _ _ _ _ 140 _
  refine j_getr (f := 904) (v := q_161) C flX9_34 dX9_init_140 hm_1869 hk_1870 (by decide) rfl hv_1904 ?_
  refine j_alen (v := 16) C dX9_init_143 hm_1871 hk_1872 (by decide) (by decide) (len_of (n := 16) hn_1873 (by decide)) ?_
  refine j_ic_ge (tgt := 166) C dX9_init_144 (by decide) (fun c9 => absurd c9 (by decide)) (fun c9 => ?_)
  refine j_aload_n C dX9_init_147 rfl 1 rfl ?_
  refine j_getr (f := 904) (v := q_161) C flX9_34 dX9_init_148 hm_1869 hk_1870 (by decide) rfl hv_1904 ?_
  refine j_iload_n C dX9_init_151 rfl 0 rfl ?_
  refine j_new (N := 4) C (ci := 10) rfl rfl klX9_32 knX10 kiX10 (M.cells (by decide)) (M.slots (by decide)) dX9_init_152 (fun q_1918 hq_1919 => ?_)
  have hz_1920 : q_1918 ∉ hL S := fun h9 => hq_1919 (hf_1914.mem h9)
  have gn_1921 : ∀ g9 ∈ gs_1864, ∀ p9 ∈ (gT g9.1).2.2, g9.2.getD p9.2.1 0 ≠ q_1918 := Gs.ne hG_1916 hq_1919
  refine j_dup C dX9_init_155 rfl ?_
  show J _ _ _ _ _ 156 _
  have hf_1922 : Fm (fun _ _ => False) (fun f9 b9 => b9 = h) (fun _ => False) S (nO S_1866 q_1918 10) := (hf_1914.nO _ hq_1919)
  refine j_callI C [] [.ref q_1918, .int 10, .ref q_161] mlX9_38 mcX10_init (c_X10_init (nO S_1866 q_1918 10) q_1918 mem_new (kd_nO' (k := 10))) (M.rm (by decide) (by decide) (Nat.le_of_ble_eq_true rfl) (Nat.le_of_ble_eq_true rfl)) rfl rfl (Nat.le_of_ble_eq_true rfl) dX9_init_156 (fun r_1932 S_1933 hp_1934 => ?_)
  obtain ⟨rfl, hf_1935, e_1924, e_1925, q_1923, e_1926, e_1927, e_1928, e_1929, e_1930, hNl_1931⟩ := hp_1934
  refine J.eq (st' := [.ref q_1918, .int 10, .ref q_161]) rfl rfl rfl ?_
  have hz_1936 : ∀ j, aI S_1933 q_161 j = 0 := fun j9 => (hf_1935.ai (mem_old hm_1871) (fun h9 => h9) j9).trans (hz_1874 j9)
  have hz_1937 : ∀ j, aI S_1933 q_266 j = 0 := fun j9 => (hf_1935.ai (mem_old hm_1877) (fun h9 => h9) j9).trans (hz_1880 j9)
  have hz_1938 : ∀ j, aI S_1933 q_295 j = 0 := fun j9 => (hf_1935.ai (mem_old hm_1881) (fun h9 => h9) j9).trans (hz_1884 j9)
  have hz_1939 : ∀ j, aI S_1933 q_524 j = 0 := fun j9 => (hf_1935.ai (mem_old hm_1885) (fun h9 => h9) j9).trans (hz_1888 j9)
  have hz_1940 : ∀ j, aI S_1933 q_565 j = 0 := fun j9 => (hf_1935.ai (mem_old hm_1889) (fun h9 => h9) j9).trans (hz_1892 j9)
  have hz_1941 : ∀ j, aI S_1933 q_610 j = 0 := fun j9 => (hf_1935.ai (mem_old hm_1893) (fun h9 => h9) j9).trans (hz_1896 j9)
  have hm_1942 : h ∈ hL S_1933 := hf_1935.mem (mem_old hm_1869)
  have hk_1943 : Kd S_1933 h 9 := hf_1935.kd (mem_old hm_1869) (kd_nO (k := 10) hq_1919 hm_1869 hk_1870)
  have hm_1944 : q_161 ∈ hL S_1933 := hf_1935.mem (mem_old hm_1871)
  have hk_1945 : Kd S_1933 q_161 20 := hf_1935.kd (mem_old hm_1871) (kd_nO (k := 10) hq_1919 hm_1871 hk_1872)
  have hn_1946 : Ln S_1933 q_161 16 := hf_1935.ln (mem_old hm_1871) hn_1873
  have hm_1947 : q_1918 ∈ hL S_1933 := hf_1935.mem mem_new
  have hk_1948 : Kd S_1933 q_1918 10 := hf_1935.kd mem_new (kd_nO' (k := 10))
  have hm_1949 : q_266 ∈ hL S_1933 := hf_1935.mem (mem_old hm_1877)
  have hk_1950 : Kd S_1933 q_266 13 := hf_1935.kd (mem_old hm_1877) (kd_nO (k := 10) hq_1919 hm_1877 hk_1878)
  have hn_1951 : Ln S_1933 q_266 24000 := hf_1935.ln (mem_old hm_1877) hn_1879
  have hm_1952 : q_295 ∈ hL S_1933 := hf_1935.mem (mem_old hm_1881)
  have hk_1953 : Kd S_1933 q_295 14 := hf_1935.kd (mem_old hm_1881) (kd_nO (k := 10) hq_1919 hm_1881 hk_1882)
  have hn_1954 : Ln S_1933 q_295 16 := hf_1935.ln (mem_old hm_1881) hn_1883
  have hm_1955 : q_524 ∈ hL S_1933 := hf_1935.mem (mem_old hm_1885)
  have hk_1956 : Kd S_1933 q_524 18 := hf_1935.kd (mem_old hm_1885) (kd_nO (k := 10) hq_1919 hm_1885 hk_1886)
  have hn_1957 : Ln S_1933 q_524 3 := hf_1935.ln (mem_old hm_1885) hn_1887
  have hm_1958 : q_565 ∈ hL S_1933 := hf_1935.mem (mem_old hm_1889)
  have hk_1959 : Kd S_1933 q_565 19 := hf_1935.kd (mem_old hm_1889) (kd_nO (k := 10) hq_1919 hm_1889 hk_1890)
  have hn_1960 : Ln S_1933 q_565 4 := hf_1935.ln (mem_old hm_1889) hn_1891
  have hm_1961 : q_610 ∈ hL S_1933 := hf_1935.mem (mem_old hm_1893)
  have hk_1962 : Kd S_1933 q_610 14 := hf_1935.kd (mem_old hm_1893) (kd_nO (k := 10) hq_1919 hm_1893 hk_1894)
  have hn_1963 : Ln S_1933 q_610 12 := hf_1935.ln (mem_old hm_1893) hn_1895
  have hv_1964 : hR S_1933 900 h = (some s0) := hf_1935.fr (mem_old hm_1869) (fun q9 => (fun e9 => absurd (((kd_nO (k := 10) hq_1919 hm_1869 hk_1870)).symm.trans ((congrArg (hK _) e9).trans (kd_nO' (k := 10)))) (by decide)) q9) (rd_nOR (k := 10) hq_1919 hm_1869 hv_1900)
  have hv_1965 : hR S_1933 901 h = (some q_1) := hf_1935.fr (mem_old hm_1869) (fun q9 => (fun e9 => absurd (((kd_nO (k := 10) hq_1919 hm_1869 hk_1870)).symm.trans ((congrArg (hK _) e9).trans (kd_nO' (k := 10)))) (by decide)) q9) (rd_nOR (k := 10) hq_1919 hm_1869 hv_1901)
  have hv_1966 : hR S_1933 902 h = (some q_41) := hf_1935.fr (mem_old hm_1869) (fun q9 => (fun e9 => absurd (((kd_nO (k := 10) hq_1919 hm_1869 hk_1870)).symm.trans ((congrArg (hK _) e9).trans (kd_nO' (k := 10)))) (by decide)) q9) (rd_nOR (k := 10) hq_1919 hm_1869 hv_1902)
  have hv_1967 : hR S_1933 903 h = (some q_126) := hf_1935.fr (mem_old hm_1869) (fun q9 => (fun e9 => absurd (((kd_nO (k := 10) hq_1919 hm_1869 hk_1870)).symm.trans ((congrArg (hK _) e9).trans (kd_nO' (k := 10)))) (by decide)) q9) (rd_nOR (k := 10) hq_1919 hm_1869 hv_1903)
  have hv_1968 : hR S_1933 904 h = (some q_161) := hf_1935.fr (mem_old hm_1869) (fun q9 => (fun e9 => absurd (((kd_nO (k := 10) hq_1919 hm_1869 hk_1870)).symm.trans ((congrArg (hK _) e9).trans (kd_nO' (k := 10)))) (by decide)) q9) (rd_nOR (k := 10) hq_1919 hm_1869 hv_1904)
  have hv_1969 : hR S_1933 905 h = (some q_183) := hf_1935.fr (mem_old hm_1869) (fun q9 => (fun e9 => absurd (((kd_nO (k := 10) hq_1919 hm_1869 hk_1870)).symm.trans ((congrArg (hK _) e9).trans (kd_nO' (k := 10)))) (by decide)) q9) (rd_nOR (k := 10) hq_1919 hm_1869 hv_1905)
  have hv_1970 : hR S_1933 906 h = (some q_224) := hf_1935.fr (mem_old hm_1869) (fun q9 => (fun e9 => absurd (((kd_nO (k := 10) hq_1919 hm_1869 hk_1870)).symm.trans ((congrArg (hK _) e9).trans (kd_nO' (k := 10)))) (by decide)) q9) (rd_nOR (k := 10) hq_1919 hm_1869 hv_1906)
  have hv_1971 : hR S_1933 907 h = (some q_266) := hf_1935.fr (mem_old hm_1869) (fun q9 => (fun e9 => absurd (((kd_nO (k := 10) hq_1919 hm_1869 hk_1870)).symm.trans ((congrArg (hK _) e9).trans (kd_nO' (k := 10)))) (by decide)) q9) (rd_nOR (k := 10) hq_1919 hm_1869 hv_1907)
  have hv_1972 : hR S_1933 908 h = (some q_295) := hf_1935.fr (mem_old hm_1869) (fun q9 => (fun e9 => absurd (((kd_nO (k := 10) hq_1919 hm_1869 hk_1870)).symm.trans ((congrArg (hK _) e9).trans (kd_nO' (k := 10)))) (by decide)) q9) (rd_nOR (k := 10) hq_1919 hm_1869 hv_1908)
  have hv_1973 : hR S_1933 909 h = (some q_328) := hf_1935.fr (mem_old hm_1869) (fun q9 => (fun e9 => absurd (((kd_nO (k := 10) hq_1919 hm_1869 hk_1870)).symm.trans ((congrArg (hK _) e9).trans (kd_nO' (k := 10)))) (by decide)) q9) (rd_nOR (k := 10) hq_1919 hm_1869 hv_1909)
  have hv_1974 : hR S_1933 910 h = (some q_425) := hf_1935.fr (mem_old hm_1869) (fun q9 => (fun e9 => absurd (((kd_nO (k := 10) hq_1919 hm_1869 hk_1870)).symm.trans ((congrArg (hK _) e9).trans (kd_nO' (k := 10)))) (by decide)) q9) (rd_nOR (k := 10) hq_1919 hm_1869 hv_1910)
  have hv_1975 : hR S_1933 911 h = (some q_524) := hf_1935.fr (mem_old hm_1869) (fun q9 => (fun e9 => absurd (((kd_nO (k := 10) hq_1919 hm_1869 hk_1870)).symm.trans ((congrArg (hK _) e9).trans (kd_nO' (k := 10)))) (by decide)) q9) (rd_nOR (k := 10) hq_1919 hm_1869 hv_1911)
  have hv_1976 : hR S_1933 912 h = (some q_565) := hf_1935.fr (mem_old hm_1869) (fun q9 => (fun e9 => absurd (((kd_nO (k := 10) hq_1919 hm_1869 hk_1870)).symm.trans ((congrArg (hK _) e9).trans (kd_nO' (k := 10)))) (by decide)) q9) (rd_nOR (k := 10) hq_1919 hm_1869 hv_1912)
  have hv_1977 : hR S_1933 917 h = (some q_610) := hf_1935.fr (mem_old hm_1869) (fun q9 => (fun e9 => absurd (((kd_nO (k := 10) hq_1919 hm_1869 hk_1870)).symm.trans ((congrArg (hK _) e9).trans (kd_nO' (k := 10)))) (by decide)) q9) (rd_nOR (k := 10) hq_1919 hm_1869 hv_1913)
  have hf_1978 : Fm (fun _ _ => False) (fun f9 b9 => b9 = h) (fun _ => False) S S_1933 := hf_1922.then hf_1935 (fun a9 ha9 => ⟨(fun f9 h9 => (fun h9 => h9.elim (fun h8 => absurd (h8.2 ▸ ha9) hz_1920) (fun h8 => absurd (h8.2 ▸ ha9) hz_1920)) h9), (fun f9 h9 => (fun h8 => absurd (h8 ▸ ha9) hz_1920) h9), (fun h9 => h9.elim)⟩)
  have hN_1979 : NL S (L_1860 ++ [q_1918]) S_1933 := NL.mono (show NL S (L_1860 ++ [q_1918]) (nO S_1866 q_1918 10) from NL.nO hN_1915 hq_1919 hz_1920) (fun a9 h9 => hf_1935.mem h9)
  have hG_1980 : Gs h gs_1864 S_1933 := Gs.fm (show Gs h gs_1864 (nO S_1866 q_1918 10) from Gs.nO hG_1916 hq_1919) hf_1935 (fun g9 hg9 p9 hp9 => gn_1921 g9 hg9 p9 hp9)
  have hE_1981 : ELs S_1933 q_161 [q_661, q_784, q_914, q_1038, q_1162, q_1292, q_1416, q_1540, q_1670, q_1794] := ELs.fm (ELs.nO (S := S_1866) hE_1917) hf_1935 (mem_old hm_1871) (fun h9 => h9)
  have hz_1982 : q_1923 ∉ hL S := fun h9 => e_1926 (hf_1922.mem h9)
  have hN_1983 : NL S ((L_1860 ++ [q_1918]) ++ [q_1923]) S_1933 := NL.app (show NL S (L_1860 ++ [q_1918]) (nO S_1866 q_1918 10) from NL.nO hN_1915 hq_1919 hz_1920) hNl_1931 (fun a9 h9 => hf_1935.mem h9) (fun a9 h9 => hf_1922.mem h9)
  obtain ⟨L_1984, eL_1985⟩ : ∃ L9 : List Nat, L9 = ((L_1860 ++ [q_1918]) ++ [q_1923]) := ⟨_, rfl⟩
  rw [← eL_1985] at hN_1983
  have hGt_1986 : Gt 1 [q_1918, q_1923] S_1933 := ⟨fun i9 k9 h9 => (match i9, h9 with | 0, h9 => (by have e9 : (10 : Nat) = k9 := Option.some.inj h9; subst e9; exact ⟨hm_1947, hk_1948⟩) | 1, h9 => (by have e9 : (15 : Nat) = k9 := Option.some.inj h9; subst e9; exact ⟨e_1927, e_1928⟩) | i9 + 2, h9 => absurd h9 (by simp [gT])), (List.forall_mem_cons.mpr ⟨e_1929, (fun _ h9 => absurd h9 List.not_mem_nil)⟩), (List.forall_mem_cons.mpr ⟨e_1930, (fun _ h9 => absurd h9 List.not_mem_nil)⟩), (fun _ h9 => absurd h9 List.not_mem_nil)⟩
  have hG_1987 : Gs h (gs_1864 ++ [(1, [q_1918, q_1923])]) S_1933 := Gs.snoc hG_1980 (by decide) hGt_1986 (List.forall_mem_cons.mpr ⟨(own_ne hz_1920 hm0_9), (fun _ h9 => absurd h9 List.not_mem_nil)⟩)
  obtain ⟨gs_1988, eG_1989⟩ : ∃ G9 : List (Nat × List Nat), G9 = gs_1864 ++ [(1, [q_1918, q_1923])] := ⟨_, rfl⟩
  rw [← eG_1989] at hG_1987
  refine j_aast (j := 10) (ci := 10) C 20  (by decide) rfl dX9_init_159 hm_1944 hk_1945 (inr_of (n := 16) hn_1946 (vp_lit (by decide))) (by decide) hm_1947 hk_1948 rfl ?_
  have hf_1992 : Fm (fun _ _ => False) (fun f9 b9 => b9 = h) (fun _ => False) S (tR S_1933 q_161 10 (some q_1918)) := (hf_1978.tR _ _ (fun h9 => absurd h9 hz_164))
  obtain ⟨S_1990, eS_1991⟩ : ∃ S9 : Hp, S9 = (tR S_1933 q_161 10 (some q_1918)) := ⟨_, rfl⟩
  refine J.eq (S' := S_1990) eS_1991.symm rfl rfl ?_
  have hm_1993 : h ∈ hL S_1990 := by rw [eS_1991]; exact hm_1942
  have hk_1994 : Kd S_1990 h 9 := by rw [eS_1991]; exact hk_1943
  have hm_1995 : q_161 ∈ hL S_1990 := by rw [eS_1991]; exact hm_1944
  have hk_1996 : Kd S_1990 q_161 20 := by rw [eS_1991]; exact hk_1945
  have hn_1997 : Ln S_1990 q_161 16 := by rw [eS_1991]; exact hn_1946
  have hz_1998 : ∀ j, aI S_1990 q_161 j = 0 := by rw [eS_1991]; exact hz_1936
  have hm_1999 : q_1918 ∈ hL S_1990 := by rw [eS_1991]; exact hm_1947
  have hk_2000 : Kd S_1990 q_1918 10 := by rw [eS_1991]; exact hk_1948
  have hm_2001 : q_266 ∈ hL S_1990 := by rw [eS_1991]; exact hm_1949
  have hk_2002 : Kd S_1990 q_266 13 := by rw [eS_1991]; exact hk_1950
  have hn_2003 : Ln S_1990 q_266 24000 := by rw [eS_1991]; exact hn_1951
  have hz_2004 : ∀ j, aI S_1990 q_266 j = 0 := by rw [eS_1991]; exact hz_1937
  have hm_2005 : q_295 ∈ hL S_1990 := by rw [eS_1991]; exact hm_1952
  have hk_2006 : Kd S_1990 q_295 14 := by rw [eS_1991]; exact hk_1953
  have hn_2007 : Ln S_1990 q_295 16 := by rw [eS_1991]; exact hn_1954
  have hz_2008 : ∀ j, aI S_1990 q_295 j = 0 := by rw [eS_1991]; exact hz_1938
  have hm_2009 : q_524 ∈ hL S_1990 := by rw [eS_1991]; exact hm_1955
  have hk_2010 : Kd S_1990 q_524 18 := by rw [eS_1991]; exact hk_1956
  have hn_2011 : Ln S_1990 q_524 3 := by rw [eS_1991]; exact hn_1957
  have hz_2012 : ∀ j, aI S_1990 q_524 j = 0 := by rw [eS_1991]; exact hz_1939
  have hm_2013 : q_565 ∈ hL S_1990 := by rw [eS_1991]; exact hm_1958
  have hk_2014 : Kd S_1990 q_565 19 := by rw [eS_1991]; exact hk_1959
  have hn_2015 : Ln S_1990 q_565 4 := by rw [eS_1991]; exact hn_1960
  have hz_2016 : ∀ j, aI S_1990 q_565 j = 0 := by rw [eS_1991]; exact hz_1940
  have hm_2017 : q_610 ∈ hL S_1990 := by rw [eS_1991]; exact hm_1961
  have hk_2018 : Kd S_1990 q_610 14 := by rw [eS_1991]; exact hk_1962
  have hn_2019 : Ln S_1990 q_610 12 := by rw [eS_1991]; exact hn_1963
  have hz_2020 : ∀ j, aI S_1990 q_610 j = 0 := by rw [eS_1991]; exact hz_1941
  have hv_2021 : hI S_1990 1000 q_1918 = 1 := by rw [eS_1991]; exact e_1924
  have hv_2022 : hI S_1990 1001 q_1918 = 1 := by rw [eS_1991]; exact e_1925
  have hv_2023 : hR S_1990 1003 q_1918 = (some q_1923) := by rw [eS_1991]; exact e_1930
  have hv_2024 : hR S_1990 900 h = (some s0) := by rw [eS_1991]; exact hv_1964
  have hv_2025 : hR S_1990 901 h = (some q_1) := by rw [eS_1991]; exact hv_1965
  have hv_2026 : hR S_1990 902 h = (some q_41) := by rw [eS_1991]; exact hv_1966
  have hv_2027 : hR S_1990 903 h = (some q_126) := by rw [eS_1991]; exact hv_1967
  have hv_2028 : hR S_1990 904 h = (some q_161) := by rw [eS_1991]; exact hv_1968
  have hv_2029 : hR S_1990 905 h = (some q_183) := by rw [eS_1991]; exact hv_1969
  have hv_2030 : hR S_1990 906 h = (some q_224) := by rw [eS_1991]; exact hv_1970
  have hv_2031 : hR S_1990 907 h = (some q_266) := by rw [eS_1991]; exact hv_1971
  have hv_2032 : hR S_1990 908 h = (some q_295) := by rw [eS_1991]; exact hv_1972
  have hv_2033 : hR S_1990 909 h = (some q_328) := by rw [eS_1991]; exact hv_1973
  have hv_2034 : hR S_1990 910 h = (some q_425) := by rw [eS_1991]; exact hv_1974
  have hv_2035 : hR S_1990 911 h = (some q_524) := by rw [eS_1991]; exact hv_1975
  have hv_2036 : hR S_1990 912 h = (some q_565) := by rw [eS_1991]; exact hv_1976
  have hv_2037 : hR S_1990 917 h = (some q_610) := by rw [eS_1991]; exact hv_1977
  have hf_2038 : Fm (fun _ _ => False) (fun f9 b9 => b9 = h) (fun _ => False) S S_1990 := by rw [eS_1991]; exact hf_1992
  have hN_2039 : NL S L_1984 S_1990 := by rw [eS_1991]; exact (NL.tR (S := S_1933) hN_1983)
  have hG_2040 : Gs h gs_1988 S_1990 := by rw [eS_1991]; exact (Gs.tR (S := S_1933) hG_1987)
  have hE_2041 : ELs S_1990 q_161 [q_661, q_784, q_914, q_1038, q_1162, q_1292, q_1416, q_1540, q_1670, q_1794, q_1918] := by rw [eS_1991]; exact (show ELs (tR S_1933 q_161 10 (some q_1918)) q_161 [q_661, q_784, q_914, q_1038, q_1162, q_1292, q_1416, q_1540, q_1670, q_1794, q_1918] from ELs.snoc hE_1981 rfl)
  refine j_iinc (q := 0) (v := 11) (lv' := [(2, .int 11), (0, .ref h), (1, .ref s0)]) C dX9_init_160 rfl (by decide) (by rw [hn9]; decide) rfl ?_
  refine j_goto (tgt := 138) C dX9_init_163 (by decide) ?_
  exact x9_t4 (q_1 := q_1) (q_5 := q_5) (q_6 := q_6) (q_41 := q_41) (q_47 := q_47) (q_48 := q_48) (q_49 := q_49) (q_50 := q_50) (q_51 := q_51) (q_52 := q_52) (q_53 := q_53) (q_54 := q_54) (q_126 := q_126) (q_132 := q_132) (q_161 := q_161) (q_183 := q_183) (q_188 := q_188) (q_224 := q_224) (q_230 := q_230) (q_266 := q_266) (q_295 := q_295) (q_328 := q_328) (q_333 := q_333) (q_334 := q_334) (q_335 := q_335) (q_336 := q_336) (q_337 := q_337) (q_338 := q_338) (q_339 := q_339) (q_340 := q_340) (q_425 := q_425) (q_431 := q_431) (q_432 := q_432) (q_433 := q_433) (q_434 := q_434) (q_435 := q_435) (q_436 := q_436) (q_437 := q_437) (q_438 := q_438) (q_524 := q_524) (q_565 := q_565) (q_610 := q_610) (q_661 := q_661) (q_666 := q_666) (q_784 := q_784) (q_789 := q_789) (q_914 := q_914) (q_919 := q_919) (q_1038 := q_1038) (q_1043 := q_1043) (q_1162 := q_1162) (q_1167 := q_1167) (q_1292 := q_1292) (q_1297 := q_1297) (q_1416 := q_1416) (q_1421 := q_1421) (q_1540 := q_1540) (q_1545 := q_1545) (q_1670 := q_1670) (q_1675 := q_1675) (q_1794 := q_1794) (q_1799 := q_1799) (q_1918 := q_1918) (q_1923 := q_1923) hn9 C M hm9 hm0_9 hz_164 hz_269 hz_297 hz_527 hz_567 hz_612 hm_1993 hk_1994 hm_1995 hk_1996 hn_1997 hz_1998 hm_2001 hk_2002 hn_2003 hz_2004 hm_2005 hk_2006 hn_2007 hz_2008 hm_2009 hk_2010 hn_2011 hz_2012 hm_2013 hk_2014 hn_2015 hz_2016 hm_2017 hk_2018 hn_2019 hz_2020 hv_2024 hv_2025 hv_2026 hv_2027 hv_2028 hv_2029 hv_2030 hv_2031 hv_2032 hv_2033 hv_2034 hv_2035 hv_2036 hv_2037 (by have h9 := hN_2039; rw [eL_1985, eL_1861, eL_1737, eL_1667] at h9; simpa only [List.nil_append, List.cons_append, List.append_assoc] using h9) (by have h9 := hG_2040; rw [eG_1989, eG_1865, eG_1741, eG_1669] at h9; simpa only [List.nil_append, List.cons_append, List.append_assoc] using h9) hE_2041 hf_2038

set_option maxRecDepth 100000 in
set_option maxHeartbeats 8000000 in
theorem x9_t2 {x : JX} {S S_1234 : Hp} {h s0 q_1 q_5 q_6 q_41 q_47 q_48 q_49 q_50 q_51 q_52 q_53 q_54 q_126 q_132 q_161 q_183 q_188 q_224 q_230 q_266 q_295 q_328 q_333 q_334 q_335 q_336 q_337 q_338 q_339 q_340 q_425 q_431 q_432 q_433 q_434 q_435 q_436 q_437 q_438 q_524 q_565 q_610 q_661 q_666 q_784 q_789 q_914 q_919 q_1038 q_1043 q_1162 q_1167 : Nat} (hn9 : x_n x = 3) (C : CB x RX9 cX9_init) (M : CM x 4 113 68424 none S (fun r S' => r = none ∧ Fm (fun _ _ => False) (fun f9 b9 => b9 = h) (fun _ => False) S S' ∧ hR S' 900 h = some s0 ∧ ∃ l : List Nat, Wt s9K s9N s9P s9Q (fun i => (h :: l).getD i 0) S' ∧ l.length = 105 ∧ NL S l S' ∧ (∀ j, aI S' ((h :: l).getD 6 0) j = 0) ∧ (∀ j, aI S' ((h :: l).getD 9 0) j = 0) ∧ (∀ j, aI S' ((h :: l).getD 14 0) j = 0) ∧ (∀ j, aI S' ((h :: l).getD 19 0) j = 0))) (hm9 : (x_meth x).name = yX9_init.name) (hm0_9 : h ∈ hL S) (hz_164 : q_161 ∉ hL S) (hz_269 : q_266 ∉ hL S) (hz_297 : q_295 ∉ hL S) (hz_527 : q_524 ∉ hL S) (hz_567 : q_565 ∉ hL S) (hz_612 : q_610 ∉ hL S) (hm_1237 : h ∈ hL S_1234) (hk_1238 : Kd S_1234 h 9) (hm_1241 : q_161 ∈ hL S_1234) (hk_1242 : Kd S_1234 q_161 20) (hn_1243 : Ln S_1234 q_161 16) (hz_1244 : ∀ j, aI S_1234 q_161 j = 0) (hm_1245 : q_266 ∈ hL S_1234) (hk_1246 : Kd S_1234 q_266 13) (hn_1247 : Ln S_1234 q_266 24000) (hz_1248 : ∀ j, aI S_1234 q_266 j = 0) (hm_1249 : q_295 ∈ hL S_1234) (hk_1250 : Kd S_1234 q_295 14) (hn_1251 : Ln S_1234 q_295 16) (hz_1252 : ∀ j, aI S_1234 q_295 j = 0) (hm_1253 : q_524 ∈ hL S_1234) (hk_1254 : Kd S_1234 q_524 18) (hn_1255 : Ln S_1234 q_524 3) (hz_1256 : ∀ j, aI S_1234 q_524 j = 0) (hm_1257 : q_565 ∈ hL S_1234) (hk_1258 : Kd S_1234 q_565 19) (hn_1259 : Ln S_1234 q_565 4) (hz_1260 : ∀ j, aI S_1234 q_565 j = 0) (hm_1261 : q_610 ∈ hL S_1234) (hk_1262 : Kd S_1234 q_610 14) (hn_1263 : Ln S_1234 q_610 12) (hz_1264 : ∀ j, aI S_1234 q_610 j = 0) (hv_1268 : hR S_1234 900 h = (some s0)) (hv_1269 : hR S_1234 901 h = (some q_1)) (hv_1270 : hR S_1234 902 h = (some q_41)) (hv_1271 : hR S_1234 903 h = (some q_126)) (hv_1272 : hR S_1234 904 h = (some q_161)) (hv_1273 : hR S_1234 905 h = (some q_183)) (hv_1274 : hR S_1234 906 h = (some q_224)) (hv_1275 : hR S_1234 907 h = (some q_266)) (hv_1276 : hR S_1234 908 h = (some q_295)) (hv_1277 : hR S_1234 909 h = (some q_328)) (hv_1278 : hR S_1234 910 h = (some q_425)) (hv_1279 : hR S_1234 911 h = (some q_524)) (hv_1280 : hR S_1234 912 h = (some q_565)) (hv_1281 : hR S_1234 917 h = (some q_610)) (hN_1286 : NL S [q_1, q_5, q_6, q_41, q_47, q_48, q_49, q_50, q_51, q_52, q_53, q_54, q_126, q_132, q_161, q_183, q_188, q_224, q_230, q_266, q_295, q_328, q_333, q_334, q_335, q_336, q_337, q_338, q_339, q_340, q_425, q_431, q_432, q_433, q_434, q_435, q_436, q_437, q_438, q_524, q_565, q_610, q_661, q_666, q_784, q_789, q_914, q_919, q_1038, q_1043, q_1162, q_1167] S_1234) (hG_1287 : Gs h [(3, [q_1, q_5, q_6]), (4, [q_41, q_47, q_48, q_49, q_50, q_51, q_52, q_53, q_54]), (0, [q_126, q_132]), (1, [q_183, q_188]), (0, [q_224, q_230]), (2, [q_328, q_333, q_334, q_335, q_336, q_337, q_338, q_339, q_340]), (2, [q_425, q_431, q_432, q_433, q_434, q_435, q_436, q_437, q_438]), (1, [q_661, q_666]), (1, [q_784, q_789]), (1, [q_914, q_919]), (1, [q_1038, q_1043]), (1, [q_1162, q_1167])] S_1234) (hE_1285 : ELs S_1234 q_161 [q_661, q_784, q_914, q_1038, q_1162]) (hf_1282 : Fm (fun _ _ => False) (fun f9 b9 => b9 = h) (fun _ => False) S S_1234) : J x (0 + 1 + 4 + 1 + 8 + 1 + 1 + 1 + 1 + 1 + 1 + 1 + 1 + 1 + 1 + 8 + 1 + 8 + 1 + 1 + 1 + 1 + 1 + 1 + 1 + 1 + 1 + 1 + 1 + 1 + 1) (0 + 15 + 20045 + 10 + 23174 + 1 + 16 + 16 + 4 + 16 + 1 + 16 + 24000 + 16 + 21 + 117 + 21 + 117 + 3 + 4 + 12 + 4 + 16 + 4 + 16 + 4 + 16 + 4 + 16 + 4 + 16) S_1234 [(2, .int 5), (0, .ref h), (1, .ref s0)] 138 [] := by
  obtain ⟨L_1288, eL_1289⟩ : ∃ L9 : List Nat, L9 = [q_1, q_5, q_6, q_41, q_47, q_48, q_49, q_50, q_51, q_52, q_53, q_54, q_126, q_132, q_161, q_183, q_188, q_224, q_230, q_266, q_295, q_328, q_333, q_334, q_335, q_336, q_337, q_338, q_339, q_340, q_425, q_431, q_432, q_433, q_434, q_435, q_436, q_437, q_438, q_524, q_565, q_610, q_661, q_666, q_784, q_789, q_914, q_919, q_1038, q_1043, q_1162, q_1167] := ⟨_, rfl⟩
  rw [← eL_1289] at hN_1286
  obtain ⟨gs_1290, eG_1291⟩ : ∃ G9 : List (Nat × List Nat), G9 = [(3, [q_1, q_5, q_6]), (4, [q_41, q_47, q_48, q_49, q_50, q_51, q_52, q_53, q_54]), (0, [q_126, q_132]), (1, [q_183, q_188]), (0, [q_224, q_230]), (2, [q_328, q_333, q_334, q_335, q_336, q_337, q_338, q_339, q_340]), (2, [q_425, q_431, q_432, q_433, q_434, q_435, q_436, q_437, q_438]), (1, [q_661, q_666]), (1, [q_784, q_789]), (1, [q_914, q_919]), (1, [q_1038, q_1043]), (1, [q_1162, q_1167])] := ⟨_, rfl⟩
  rw [← eG_1291] at hG_1287
  refine j_iload_n C dX9_init_138 rfl 0 rfl ?_
  refine j_aload_n C dX9_init_139 rfl 1 rfl ?_
  refine j_getr (f := 904) (v := q_161) C flX9_34 dX9_init_140 hm_1237 hk_1238 (by decide) rfl hv_1272 ?_
  refine j_alen (v := 16) C dX9_init_143 hm_1241 hk_1242 (by decide) (by decide) (len_of (n := 16) hn_1243 (by decide)) ?_
  refine j_ic_ge (tgt := 166) C dX9_init_144 (by decide) (fun c9 => absurd c9 (by decide)) (fun c9 => ?_)
  refine j_aload_n C dX9_init_147 rfl 1 rfl ?_
  refine j_getr (f := 904) (v := q_161) C flX9_34 dX9_init_148 hm_1237 hk_1238 (by decide) rfl hv_1272 ?_
  refine j_iload_n C dX9_init_151 rfl 0 rfl ?_
  show J _ _ _ _ _ 152 _
  refine j_new (N := 4) C (ci := 10) rfl rfl klX9_32 knX10 kiX10 (M.cells (by decide)) (M.slots (by decide)) dX9_init_152 (fun q_1292 hq_1293 => ?_)
  have hz_1294 : q_1292 ∉ hL S := fun h9 => hq_1293 (hf_1282.mem h9)
  have gn_1295 : ∀ g9 ∈ gs_1290, ∀ p9 ∈ (gT g9.1).2.2, g9.2.getD p9.2.1 0 ≠ q_1292 := Gs.ne hG_1287 hq_1293
  refine j_dup C dX9_init_155 rfl ?_
  have hf_1296 : Fm (fun _ _ => False) (fun f9 b9 => b9 = h) (fun _ => False) S (nO S_1234 q_1292 10) := (hf_1282.nO _ hq_1293)
  refine j_callI C [] [.ref q_1292, .int 5, .ref q_161] mlX9_38 mcX10_init (c_X10_init (nO S_1234 q_1292 10) q_1292 mem_new (kd_nO' (k := 10))) (M.rm (by decide) (by decide) (Nat.le_of_ble_eq_true rfl) (Nat.le_of_ble_eq_true rfl)) rfl rfl (Nat.le_of_ble_eq_true rfl) dX9_init_156 (fun r_1306 S_1307 hp_1308 => ?_)
  obtain ⟨rfl, hf_1309, e_1298, e_1299, q_1297, e_1300, e_1301, e_1302, e_1303, e_1304, hNl_1305⟩ := hp_1308
  refine J.eq (st' := [.ref q_1292, .int 5, .ref q_161]) rfl rfl rfl ?_
  have hz_1310 : ∀ j, aI S_1307 q_161 j = 0 := fun j9 => (hf_1309.ai (mem_old hm_1241) (fun h9 => h9) j9).trans (hz_1244 j9)
  have hz_1311 : ∀ j, aI S_1307 q_266 j = 0 := fun j9 => (hf_1309.ai (mem_old hm_1245) (fun h9 => h9) j9).trans (hz_1248 j9)
  have hz_1312 : ∀ j, aI S_1307 q_295 j = 0 := fun j9 => (hf_1309.ai (mem_old hm_1249) (fun h9 => h9) j9).trans (hz_1252 j9)
  have hz_1313 : ∀ j, aI S_1307 q_524 j = 0 := fun j9 => (hf_1309.ai (mem_old hm_1253) (fun h9 => h9) j9).trans (hz_1256 j9)
  have hz_1314 : ∀ j, aI S_1307 q_565 j = 0 := fun j9 => (hf_1309.ai (mem_old hm_1257) (fun h9 => h9) j9).trans (hz_1260 j9)
  have hz_1315 : ∀ j, aI S_1307 q_610 j = 0 := fun j9 => (hf_1309.ai (mem_old hm_1261) (fun h9 => h9) j9).trans (hz_1264 j9)
  have hm_1316 : h ∈ hL S_1307 := hf_1309.mem (mem_old hm_1237)
  have hk_1317 : Kd S_1307 h 9 := hf_1309.kd (mem_old hm_1237) (kd_nO (k := 10) hq_1293 hm_1237 hk_1238)
  have hm_1318 : q_1292 ∈ hL S_1307 := hf_1309.mem mem_new
  have hk_1319 : Kd S_1307 q_1292 10 := hf_1309.kd mem_new (kd_nO' (k := 10))
  have hm_1320 : q_161 ∈ hL S_1307 := hf_1309.mem (mem_old hm_1241)
  have hk_1321 : Kd S_1307 q_161 20 := hf_1309.kd (mem_old hm_1241) (kd_nO (k := 10) hq_1293 hm_1241 hk_1242)
  have hn_1322 : Ln S_1307 q_161 16 := hf_1309.ln (mem_old hm_1241) hn_1243
  have hm_1323 : q_266 ∈ hL S_1307 := hf_1309.mem (mem_old hm_1245)
  have hk_1324 : Kd S_1307 q_266 13 := hf_1309.kd (mem_old hm_1245) (kd_nO (k := 10) hq_1293 hm_1245 hk_1246)
  have hn_1325 : Ln S_1307 q_266 24000 := hf_1309.ln (mem_old hm_1245) hn_1247
  have hm_1326 : q_295 ∈ hL S_1307 := hf_1309.mem (mem_old hm_1249)
  have hk_1327 : Kd S_1307 q_295 14 := hf_1309.kd (mem_old hm_1249) (kd_nO (k := 10) hq_1293 hm_1249 hk_1250)
  have hn_1328 : Ln S_1307 q_295 16 := hf_1309.ln (mem_old hm_1249) hn_1251
  have hm_1329 : q_524 ∈ hL S_1307 := hf_1309.mem (mem_old hm_1253)
  have hk_1330 : Kd S_1307 q_524 18 := hf_1309.kd (mem_old hm_1253) (kd_nO (k := 10) hq_1293 hm_1253 hk_1254)
  have hn_1331 : Ln S_1307 q_524 3 := hf_1309.ln (mem_old hm_1253) hn_1255
  have hm_1332 : q_565 ∈ hL S_1307 := hf_1309.mem (mem_old hm_1257)
  have hk_1333 : Kd S_1307 q_565 19 := hf_1309.kd (mem_old hm_1257) (kd_nO (k := 10) hq_1293 hm_1257 hk_1258)
  have hn_1334 : Ln S_1307 q_565 4 := hf_1309.ln (mem_old hm_1257) hn_1259
  have hm_1335 : q_610 ∈ hL S_1307 := hf_1309.mem (mem_old hm_1261)
  have hk_1336 : Kd S_1307 q_610 14 := hf_1309.kd (mem_old hm_1261) (kd_nO (k := 10) hq_1293 hm_1261 hk_1262)
  have hn_1337 : Ln S_1307 q_610 12 := hf_1309.ln (mem_old hm_1261) hn_1263
  have hv_1338 : hR S_1307 900 h = (some s0) := hf_1309.fr (mem_old hm_1237) (fun q9 => (fun e9 => absurd (((kd_nO (k := 10) hq_1293 hm_1237 hk_1238)).symm.trans ((congrArg (hK _) e9).trans (kd_nO' (k := 10)))) (by decide)) q9) (rd_nOR (k := 10) hq_1293 hm_1237 hv_1268)
  have hv_1339 : hR S_1307 901 h = (some q_1) := hf_1309.fr (mem_old hm_1237) (fun q9 => (fun e9 => absurd (((kd_nO (k := 10) hq_1293 hm_1237 hk_1238)).symm.trans ((congrArg (hK _) e9).trans (kd_nO' (k := 10)))) (by decide)) q9) (rd_nOR (k := 10) hq_1293 hm_1237 hv_1269)
  have hv_1340 : hR S_1307 902 h = (some q_41) := hf_1309.fr (mem_old hm_1237) (fun q9 => (fun e9 => absurd (((kd_nO (k := 10) hq_1293 hm_1237 hk_1238)).symm.trans ((congrArg (hK _) e9).trans (kd_nO' (k := 10)))) (by decide)) q9) (rd_nOR (k := 10) hq_1293 hm_1237 hv_1270)
  have hv_1341 : hR S_1307 903 h = (some q_126) := hf_1309.fr (mem_old hm_1237) (fun q9 => (fun e9 => absurd (((kd_nO (k := 10) hq_1293 hm_1237 hk_1238)).symm.trans ((congrArg (hK _) e9).trans (kd_nO' (k := 10)))) (by decide)) q9) (rd_nOR (k := 10) hq_1293 hm_1237 hv_1271)
  have hv_1342 : hR S_1307 904 h = (some q_161) := hf_1309.fr (mem_old hm_1237) (fun q9 => (fun e9 => absurd (((kd_nO (k := 10) hq_1293 hm_1237 hk_1238)).symm.trans ((congrArg (hK _) e9).trans (kd_nO' (k := 10)))) (by decide)) q9) (rd_nOR (k := 10) hq_1293 hm_1237 hv_1272)
  have hv_1343 : hR S_1307 905 h = (some q_183) := hf_1309.fr (mem_old hm_1237) (fun q9 => (fun e9 => absurd (((kd_nO (k := 10) hq_1293 hm_1237 hk_1238)).symm.trans ((congrArg (hK _) e9).trans (kd_nO' (k := 10)))) (by decide)) q9) (rd_nOR (k := 10) hq_1293 hm_1237 hv_1273)
  have hv_1344 : hR S_1307 906 h = (some q_224) := hf_1309.fr (mem_old hm_1237) (fun q9 => (fun e9 => absurd (((kd_nO (k := 10) hq_1293 hm_1237 hk_1238)).symm.trans ((congrArg (hK _) e9).trans (kd_nO' (k := 10)))) (by decide)) q9) (rd_nOR (k := 10) hq_1293 hm_1237 hv_1274)
  have hv_1345 : hR S_1307 907 h = (some q_266) := hf_1309.fr (mem_old hm_1237) (fun q9 => (fun e9 => absurd (((kd_nO (k := 10) hq_1293 hm_1237 hk_1238)).symm.trans ((congrArg (hK _) e9).trans (kd_nO' (k := 10)))) (by decide)) q9) (rd_nOR (k := 10) hq_1293 hm_1237 hv_1275)
  have hv_1346 : hR S_1307 908 h = (some q_295) := hf_1309.fr (mem_old hm_1237) (fun q9 => (fun e9 => absurd (((kd_nO (k := 10) hq_1293 hm_1237 hk_1238)).symm.trans ((congrArg (hK _) e9).trans (kd_nO' (k := 10)))) (by decide)) q9) (rd_nOR (k := 10) hq_1293 hm_1237 hv_1276)
  have hv_1347 : hR S_1307 909 h = (some q_328) := hf_1309.fr (mem_old hm_1237) (fun q9 => (fun e9 => absurd (((kd_nO (k := 10) hq_1293 hm_1237 hk_1238)).symm.trans ((congrArg (hK _) e9).trans (kd_nO' (k := 10)))) (by decide)) q9) (rd_nOR (k := 10) hq_1293 hm_1237 hv_1277)
  have hv_1348 : hR S_1307 910 h = (some q_425) := hf_1309.fr (mem_old hm_1237) (fun q9 => (fun e9 => absurd (((kd_nO (k := 10) hq_1293 hm_1237 hk_1238)).symm.trans ((congrArg (hK _) e9).trans (kd_nO' (k := 10)))) (by decide)) q9) (rd_nOR (k := 10) hq_1293 hm_1237 hv_1278)
  have hv_1349 : hR S_1307 911 h = (some q_524) := hf_1309.fr (mem_old hm_1237) (fun q9 => (fun e9 => absurd (((kd_nO (k := 10) hq_1293 hm_1237 hk_1238)).symm.trans ((congrArg (hK _) e9).trans (kd_nO' (k := 10)))) (by decide)) q9) (rd_nOR (k := 10) hq_1293 hm_1237 hv_1279)
  have hv_1350 : hR S_1307 912 h = (some q_565) := hf_1309.fr (mem_old hm_1237) (fun q9 => (fun e9 => absurd (((kd_nO (k := 10) hq_1293 hm_1237 hk_1238)).symm.trans ((congrArg (hK _) e9).trans (kd_nO' (k := 10)))) (by decide)) q9) (rd_nOR (k := 10) hq_1293 hm_1237 hv_1280)
  have hv_1351 : hR S_1307 917 h = (some q_610) := hf_1309.fr (mem_old hm_1237) (fun q9 => (fun e9 => absurd (((kd_nO (k := 10) hq_1293 hm_1237 hk_1238)).symm.trans ((congrArg (hK _) e9).trans (kd_nO' (k := 10)))) (by decide)) q9) (rd_nOR (k := 10) hq_1293 hm_1237 hv_1281)
  have hf_1352 : Fm (fun _ _ => False) (fun f9 b9 => b9 = h) (fun _ => False) S S_1307 := hf_1296.then hf_1309 (fun a9 ha9 => ⟨(fun f9 h9 => (fun h9 => h9.elim (fun h8 => absurd (h8.2 ▸ ha9) hz_1294) (fun h8 => absurd (h8.2 ▸ ha9) hz_1294)) h9), (fun f9 h9 => (fun h8 => absurd (h8 ▸ ha9) hz_1294) h9), (fun h9 => h9.elim)⟩)
  have hN_1353 : NL S (L_1288 ++ [q_1292]) S_1307 := NL.mono (show NL S (L_1288 ++ [q_1292]) (nO S_1234 q_1292 10) from NL.nO hN_1286 hq_1293 hz_1294) (fun a9 h9 => hf_1309.mem h9)
  have hG_1354 : Gs h gs_1290 S_1307 := Gs.fm (show Gs h gs_1290 (nO S_1234 q_1292 10) from Gs.nO hG_1287 hq_1293) hf_1309 (fun g9 hg9 p9 hp9 => gn_1295 g9 hg9 p9 hp9)
  have hE_1355 : ELs S_1307 q_161 [q_661, q_784, q_914, q_1038, q_1162] := ELs.fm (ELs.nO (S := S_1234) hE_1285) hf_1309 (mem_old hm_1241) (fun h9 => h9)
  have hz_1356 : q_1297 ∉ hL S := fun h9 => e_1300 (hf_1296.mem h9)
  have hN_1357 : NL S ((L_1288 ++ [q_1292]) ++ [q_1297]) S_1307 := NL.app (show NL S (L_1288 ++ [q_1292]) (nO S_1234 q_1292 10) from NL.nO hN_1286 hq_1293 hz_1294) hNl_1305 (fun a9 h9 => hf_1309.mem h9) (fun a9 h9 => hf_1296.mem h9)
  obtain ⟨L_1358, eL_1359⟩ : ∃ L9 : List Nat, L9 = ((L_1288 ++ [q_1292]) ++ [q_1297]) := ⟨_, rfl⟩
  rw [← eL_1359] at hN_1357
  have hGt_1360 : Gt 1 [q_1292, q_1297] S_1307 := ⟨fun i9 k9 h9 => (match i9, h9 with | 0, h9 => (by have e9 : (10 : Nat) = k9 := Option.some.inj h9; subst e9; exact ⟨hm_1318, hk_1319⟩) | 1, h9 => (by have e9 : (15 : Nat) = k9 := Option.some.inj h9; subst e9; exact ⟨e_1301, e_1302⟩) | i9 + 2, h9 => absurd h9 (by simp [gT])), (List.forall_mem_cons.mpr ⟨e_1303, (fun _ h9 => absurd h9 List.not_mem_nil)⟩), (List.forall_mem_cons.mpr ⟨e_1304, (fun _ h9 => absurd h9 List.not_mem_nil)⟩), (fun _ h9 => absurd h9 List.not_mem_nil)⟩
  have hG_1361 : Gs h (gs_1290 ++ [(1, [q_1292, q_1297])]) S_1307 := Gs.snoc hG_1354 (by decide) hGt_1360 (List.forall_mem_cons.mpr ⟨(own_ne hz_1294 hm0_9), (fun _ h9 => absurd h9 List.not_mem_nil)⟩)
  obtain ⟨gs_1362, eG_1363⟩ : ∃ G9 : List (Nat × List Nat), G9 = gs_1290 ++ [(1, [q_1292, q_1297])] := ⟨_, rfl⟩
  rw [← eG_1363] at hG_1361
  refine j_aast (j := 5) (ci := 10) C 20  (by decide) rfl dX9_init_159 hm_1320 hk_1321 (inr_of (n := 16) hn_1322 (vp_lit (by decide))) (by decide) hm_1318 hk_1319 rfl ?_
  have hf_1366 : Fm (fun _ _ => False) (fun f9 b9 => b9 = h) (fun _ => False) S (tR S_1307 q_161 5 (some q_1292)) := (hf_1352.tR _ _ (fun h9 => absurd h9 hz_164))
  obtain ⟨S_1364, eS_1365⟩ : ∃ S9 : Hp, S9 = (tR S_1307 q_161 5 (some q_1292)) := ⟨_, rfl⟩
  refine J.eq (S' := S_1364) eS_1365.symm rfl rfl ?_
  have hm_1367 : h ∈ hL S_1364 := by rw [eS_1365]; exact hm_1316
  have hk_1368 : Kd S_1364 h 9 := by rw [eS_1365]; exact hk_1317
  have hm_1369 : q_1292 ∈ hL S_1364 := by rw [eS_1365]; exact hm_1318
  have hk_1370 : Kd S_1364 q_1292 10 := by rw [eS_1365]; exact hk_1319
  have hm_1371 : q_161 ∈ hL S_1364 := by rw [eS_1365]; exact hm_1320
  have hk_1372 : Kd S_1364 q_161 20 := by rw [eS_1365]; exact hk_1321
  have hn_1373 : Ln S_1364 q_161 16 := by rw [eS_1365]; exact hn_1322
  have hz_1374 : ∀ j, aI S_1364 q_161 j = 0 := by rw [eS_1365]; exact hz_1310
  have hm_1375 : q_266 ∈ hL S_1364 := by rw [eS_1365]; exact hm_1323
  have hk_1376 : Kd S_1364 q_266 13 := by rw [eS_1365]; exact hk_1324
  have hn_1377 : Ln S_1364 q_266 24000 := by rw [eS_1365]; exact hn_1325
  have hz_1378 : ∀ j, aI S_1364 q_266 j = 0 := by rw [eS_1365]; exact hz_1311
  have hm_1379 : q_295 ∈ hL S_1364 := by rw [eS_1365]; exact hm_1326
  have hk_1380 : Kd S_1364 q_295 14 := by rw [eS_1365]; exact hk_1327
  have hn_1381 : Ln S_1364 q_295 16 := by rw [eS_1365]; exact hn_1328
  have hz_1382 : ∀ j, aI S_1364 q_295 j = 0 := by rw [eS_1365]; exact hz_1312
  have hm_1383 : q_524 ∈ hL S_1364 := by rw [eS_1365]; exact hm_1329
  have hk_1384 : Kd S_1364 q_524 18 := by rw [eS_1365]; exact hk_1330
  have hn_1385 : Ln S_1364 q_524 3 := by rw [eS_1365]; exact hn_1331
  have hz_1386 : ∀ j, aI S_1364 q_524 j = 0 := by rw [eS_1365]; exact hz_1313
  have hm_1387 : q_565 ∈ hL S_1364 := by rw [eS_1365]; exact hm_1332
  have hk_1388 : Kd S_1364 q_565 19 := by rw [eS_1365]; exact hk_1333
  have hn_1389 : Ln S_1364 q_565 4 := by rw [eS_1365]; exact hn_1334
  have hz_1390 : ∀ j, aI S_1364 q_565 j = 0 := by rw [eS_1365]; exact hz_1314
  have hm_1391 : q_610 ∈ hL S_1364 := by rw [eS_1365]; exact hm_1335
  have hk_1392 : Kd S_1364 q_610 14 := by rw [eS_1365]; exact hk_1336
  have hn_1393 : Ln S_1364 q_610 12 := by rw [eS_1365]; exact hn_1337
  have hz_1394 : ∀ j, aI S_1364 q_610 j = 0 := by rw [eS_1365]; exact hz_1315
  have hv_1395 : hI S_1364 1000 q_1292 = 1 := by rw [eS_1365]; exact e_1298
  have hv_1396 : hI S_1364 1001 q_1292 = 1 := by rw [eS_1365]; exact e_1299
  have hv_1397 : hR S_1364 1003 q_1292 = (some q_1297) := by rw [eS_1365]; exact e_1304
  have hv_1398 : hR S_1364 900 h = (some s0) := by rw [eS_1365]; exact hv_1338
  have hv_1399 : hR S_1364 901 h = (some q_1) := by rw [eS_1365]; exact hv_1339
  have hv_1400 : hR S_1364 902 h = (some q_41) := by rw [eS_1365]; exact hv_1340
  have hv_1401 : hR S_1364 903 h = (some q_126) := by rw [eS_1365]; exact hv_1341
  have hv_1402 : hR S_1364 904 h = (some q_161) := by rw [eS_1365]; exact hv_1342
  have hv_1403 : hR S_1364 905 h = (some q_183) := by rw [eS_1365]; exact hv_1343
  have hv_1404 : hR S_1364 906 h = (some q_224) := by rw [eS_1365]; exact hv_1344
  have hv_1405 : hR S_1364 907 h = (some q_266) := by rw [eS_1365]; exact hv_1345
  have hv_1406 : hR S_1364 908 h = (some q_295) := by rw [eS_1365]; exact hv_1346
  have hv_1407 : hR S_1364 909 h = (some q_328) := by rw [eS_1365]; exact hv_1347
  have hv_1408 : hR S_1364 910 h = (some q_425) := by rw [eS_1365]; exact hv_1348
  have hv_1409 : hR S_1364 911 h = (some q_524) := by rw [eS_1365]; exact hv_1349
  have hv_1410 : hR S_1364 912 h = (some q_565) := by rw [eS_1365]; exact hv_1350
  have hv_1411 : hR S_1364 917 h = (some q_610) := by rw [eS_1365]; exact hv_1351
  have hf_1412 : Fm (fun _ _ => False) (fun f9 b9 => b9 = h) (fun _ => False) S S_1364 := by rw [eS_1365]; exact hf_1366
  have hN_1413 : NL S L_1358 S_1364 := by rw [eS_1365]; exact (NL.tR (S := S_1307) hN_1357)
  have hG_1414 : Gs h gs_1362 S_1364 := by rw [eS_1365]; exact (Gs.tR (S := S_1307) hG_1361)
  have hE_1415 : ELs S_1364 q_161 [q_661, q_784, q_914, q_1038, q_1162, q_1292] := by rw [eS_1365]; exact (show ELs (tR S_1307 q_161 5 (some q_1292)) q_161 [q_661, q_784, q_914, q_1038, q_1162, q_1292] from ELs.snoc hE_1355 rfl)
  refine j_iinc (q := 0) (v := 6) (lv' := [(2, .int 6), (0, .ref h), (1, .ref s0)]) C dX9_init_160 rfl (by decide) (by rw [hn9]; decide) rfl ?_
  refine j_goto (tgt := 138) C dX9_init_163 (by decide) ?_
  refine j_iload_n C dX9_init_138 rfl 0 rfl ?_
  refine j_aload_n C dX9_init_139 rfl 1 rfl ?_
  show J _ _ _ _ _ 140 _
  refine j_getr (f := 904) (v := q_161) C flX9_34 dX9_init_140 hm_1367 hk_1368 (by decide) rfl hv_1402 ?_
  refine j_alen (v := 16) C dX9_init_143 hm_1371 hk_1372 (by decide) (by decide) (len_of (n := 16) hn_1373 (by decide)) ?_
  refine j_ic_ge (tgt := 166) C dX9_init_144 (by decide) (fun c9 => absurd c9 (by decide)) (fun c9 => ?_)
  refine j_aload_n C dX9_init_147 rfl 1 rfl ?_
  refine j_getr (f := 904) (v := q_161) C flX9_34 dX9_init_148 hm_1367 hk_1368 (by decide) rfl hv_1402 ?_
  refine j_iload_n C dX9_init_151 rfl 0 rfl ?_
  refine j_new (N := 4) C (ci := 10) rfl rfl klX9_32 knX10 kiX10 (M.cells (by decide)) (M.slots (by decide)) dX9_init_152 (fun q_1416 hq_1417 => ?_)
  have hz_1418 : q_1416 ∉ hL S := fun h9 => hq_1417 (hf_1412.mem h9)
  have gn_1419 : ∀ g9 ∈ gs_1362, ∀ p9 ∈ (gT g9.1).2.2, g9.2.getD p9.2.1 0 ≠ q_1416 := Gs.ne hG_1414 hq_1417
  refine j_dup C dX9_init_155 rfl ?_
  show J _ _ _ _ _ 156 _
  have hf_1420 : Fm (fun _ _ => False) (fun f9 b9 => b9 = h) (fun _ => False) S (nO S_1364 q_1416 10) := (hf_1412.nO _ hq_1417)
  refine j_callI C [] [.ref q_1416, .int 6, .ref q_161] mlX9_38 mcX10_init (c_X10_init (nO S_1364 q_1416 10) q_1416 mem_new (kd_nO' (k := 10))) (M.rm (by decide) (by decide) (Nat.le_of_ble_eq_true rfl) (Nat.le_of_ble_eq_true rfl)) rfl rfl (Nat.le_of_ble_eq_true rfl) dX9_init_156 (fun r_1430 S_1431 hp_1432 => ?_)
  obtain ⟨rfl, hf_1433, e_1422, e_1423, q_1421, e_1424, e_1425, e_1426, e_1427, e_1428, hNl_1429⟩ := hp_1432
  refine J.eq (st' := [.ref q_1416, .int 6, .ref q_161]) rfl rfl rfl ?_
  have hz_1434 : ∀ j, aI S_1431 q_161 j = 0 := fun j9 => (hf_1433.ai (mem_old hm_1371) (fun h9 => h9) j9).trans (hz_1374 j9)
  have hz_1435 : ∀ j, aI S_1431 q_266 j = 0 := fun j9 => (hf_1433.ai (mem_old hm_1375) (fun h9 => h9) j9).trans (hz_1378 j9)
  have hz_1436 : ∀ j, aI S_1431 q_295 j = 0 := fun j9 => (hf_1433.ai (mem_old hm_1379) (fun h9 => h9) j9).trans (hz_1382 j9)
  have hz_1437 : ∀ j, aI S_1431 q_524 j = 0 := fun j9 => (hf_1433.ai (mem_old hm_1383) (fun h9 => h9) j9).trans (hz_1386 j9)
  have hz_1438 : ∀ j, aI S_1431 q_565 j = 0 := fun j9 => (hf_1433.ai (mem_old hm_1387) (fun h9 => h9) j9).trans (hz_1390 j9)
  have hz_1439 : ∀ j, aI S_1431 q_610 j = 0 := fun j9 => (hf_1433.ai (mem_old hm_1391) (fun h9 => h9) j9).trans (hz_1394 j9)
  have hm_1440 : h ∈ hL S_1431 := hf_1433.mem (mem_old hm_1367)
  have hk_1441 : Kd S_1431 h 9 := hf_1433.kd (mem_old hm_1367) (kd_nO (k := 10) hq_1417 hm_1367 hk_1368)
  have hm_1442 : q_1416 ∈ hL S_1431 := hf_1433.mem mem_new
  have hk_1443 : Kd S_1431 q_1416 10 := hf_1433.kd mem_new (kd_nO' (k := 10))
  have hm_1444 : q_161 ∈ hL S_1431 := hf_1433.mem (mem_old hm_1371)
  have hk_1445 : Kd S_1431 q_161 20 := hf_1433.kd (mem_old hm_1371) (kd_nO (k := 10) hq_1417 hm_1371 hk_1372)
  have hn_1446 : Ln S_1431 q_161 16 := hf_1433.ln (mem_old hm_1371) hn_1373
  have hm_1447 : q_266 ∈ hL S_1431 := hf_1433.mem (mem_old hm_1375)
  have hk_1448 : Kd S_1431 q_266 13 := hf_1433.kd (mem_old hm_1375) (kd_nO (k := 10) hq_1417 hm_1375 hk_1376)
  have hn_1449 : Ln S_1431 q_266 24000 := hf_1433.ln (mem_old hm_1375) hn_1377
  have hm_1450 : q_295 ∈ hL S_1431 := hf_1433.mem (mem_old hm_1379)
  have hk_1451 : Kd S_1431 q_295 14 := hf_1433.kd (mem_old hm_1379) (kd_nO (k := 10) hq_1417 hm_1379 hk_1380)
  have hn_1452 : Ln S_1431 q_295 16 := hf_1433.ln (mem_old hm_1379) hn_1381
  have hm_1453 : q_524 ∈ hL S_1431 := hf_1433.mem (mem_old hm_1383)
  have hk_1454 : Kd S_1431 q_524 18 := hf_1433.kd (mem_old hm_1383) (kd_nO (k := 10) hq_1417 hm_1383 hk_1384)
  have hn_1455 : Ln S_1431 q_524 3 := hf_1433.ln (mem_old hm_1383) hn_1385
  have hm_1456 : q_565 ∈ hL S_1431 := hf_1433.mem (mem_old hm_1387)
  have hk_1457 : Kd S_1431 q_565 19 := hf_1433.kd (mem_old hm_1387) (kd_nO (k := 10) hq_1417 hm_1387 hk_1388)
  have hn_1458 : Ln S_1431 q_565 4 := hf_1433.ln (mem_old hm_1387) hn_1389
  have hm_1459 : q_610 ∈ hL S_1431 := hf_1433.mem (mem_old hm_1391)
  have hk_1460 : Kd S_1431 q_610 14 := hf_1433.kd (mem_old hm_1391) (kd_nO (k := 10) hq_1417 hm_1391 hk_1392)
  have hn_1461 : Ln S_1431 q_610 12 := hf_1433.ln (mem_old hm_1391) hn_1393
  have hv_1462 : hR S_1431 900 h = (some s0) := hf_1433.fr (mem_old hm_1367) (fun q9 => (fun e9 => absurd (((kd_nO (k := 10) hq_1417 hm_1367 hk_1368)).symm.trans ((congrArg (hK _) e9).trans (kd_nO' (k := 10)))) (by decide)) q9) (rd_nOR (k := 10) hq_1417 hm_1367 hv_1398)
  have hv_1463 : hR S_1431 901 h = (some q_1) := hf_1433.fr (mem_old hm_1367) (fun q9 => (fun e9 => absurd (((kd_nO (k := 10) hq_1417 hm_1367 hk_1368)).symm.trans ((congrArg (hK _) e9).trans (kd_nO' (k := 10)))) (by decide)) q9) (rd_nOR (k := 10) hq_1417 hm_1367 hv_1399)
  have hv_1464 : hR S_1431 902 h = (some q_41) := hf_1433.fr (mem_old hm_1367) (fun q9 => (fun e9 => absurd (((kd_nO (k := 10) hq_1417 hm_1367 hk_1368)).symm.trans ((congrArg (hK _) e9).trans (kd_nO' (k := 10)))) (by decide)) q9) (rd_nOR (k := 10) hq_1417 hm_1367 hv_1400)
  have hv_1465 : hR S_1431 903 h = (some q_126) := hf_1433.fr (mem_old hm_1367) (fun q9 => (fun e9 => absurd (((kd_nO (k := 10) hq_1417 hm_1367 hk_1368)).symm.trans ((congrArg (hK _) e9).trans (kd_nO' (k := 10)))) (by decide)) q9) (rd_nOR (k := 10) hq_1417 hm_1367 hv_1401)
  have hv_1466 : hR S_1431 904 h = (some q_161) := hf_1433.fr (mem_old hm_1367) (fun q9 => (fun e9 => absurd (((kd_nO (k := 10) hq_1417 hm_1367 hk_1368)).symm.trans ((congrArg (hK _) e9).trans (kd_nO' (k := 10)))) (by decide)) q9) (rd_nOR (k := 10) hq_1417 hm_1367 hv_1402)
  have hv_1467 : hR S_1431 905 h = (some q_183) := hf_1433.fr (mem_old hm_1367) (fun q9 => (fun e9 => absurd (((kd_nO (k := 10) hq_1417 hm_1367 hk_1368)).symm.trans ((congrArg (hK _) e9).trans (kd_nO' (k := 10)))) (by decide)) q9) (rd_nOR (k := 10) hq_1417 hm_1367 hv_1403)
  have hv_1468 : hR S_1431 906 h = (some q_224) := hf_1433.fr (mem_old hm_1367) (fun q9 => (fun e9 => absurd (((kd_nO (k := 10) hq_1417 hm_1367 hk_1368)).symm.trans ((congrArg (hK _) e9).trans (kd_nO' (k := 10)))) (by decide)) q9) (rd_nOR (k := 10) hq_1417 hm_1367 hv_1404)
  have hv_1469 : hR S_1431 907 h = (some q_266) := hf_1433.fr (mem_old hm_1367) (fun q9 => (fun e9 => absurd (((kd_nO (k := 10) hq_1417 hm_1367 hk_1368)).symm.trans ((congrArg (hK _) e9).trans (kd_nO' (k := 10)))) (by decide)) q9) (rd_nOR (k := 10) hq_1417 hm_1367 hv_1405)
  have hv_1470 : hR S_1431 908 h = (some q_295) := hf_1433.fr (mem_old hm_1367) (fun q9 => (fun e9 => absurd (((kd_nO (k := 10) hq_1417 hm_1367 hk_1368)).symm.trans ((congrArg (hK _) e9).trans (kd_nO' (k := 10)))) (by decide)) q9) (rd_nOR (k := 10) hq_1417 hm_1367 hv_1406)
  have hv_1471 : hR S_1431 909 h = (some q_328) := hf_1433.fr (mem_old hm_1367) (fun q9 => (fun e9 => absurd (((kd_nO (k := 10) hq_1417 hm_1367 hk_1368)).symm.trans ((congrArg (hK _) e9).trans (kd_nO' (k := 10)))) (by decide)) q9) (rd_nOR (k := 10) hq_1417 hm_1367 hv_1407)
  have hv_1472 : hR S_1431 910 h = (some q_425) := hf_1433.fr (mem_old hm_1367) (fun q9 => (fun e9 => absurd (((kd_nO (k := 10) hq_1417 hm_1367 hk_1368)).symm.trans ((congrArg (hK _) e9).trans (kd_nO' (k := 10)))) (by decide)) q9) (rd_nOR (k := 10) hq_1417 hm_1367 hv_1408)
  have hv_1473 : hR S_1431 911 h = (some q_524) := hf_1433.fr (mem_old hm_1367) (fun q9 => (fun e9 => absurd (((kd_nO (k := 10) hq_1417 hm_1367 hk_1368)).symm.trans ((congrArg (hK _) e9).trans (kd_nO' (k := 10)))) (by decide)) q9) (rd_nOR (k := 10) hq_1417 hm_1367 hv_1409)
  have hv_1474 : hR S_1431 912 h = (some q_565) := hf_1433.fr (mem_old hm_1367) (fun q9 => (fun e9 => absurd (((kd_nO (k := 10) hq_1417 hm_1367 hk_1368)).symm.trans ((congrArg (hK _) e9).trans (kd_nO' (k := 10)))) (by decide)) q9) (rd_nOR (k := 10) hq_1417 hm_1367 hv_1410)
  have hv_1475 : hR S_1431 917 h = (some q_610) := hf_1433.fr (mem_old hm_1367) (fun q9 => (fun e9 => absurd (((kd_nO (k := 10) hq_1417 hm_1367 hk_1368)).symm.trans ((congrArg (hK _) e9).trans (kd_nO' (k := 10)))) (by decide)) q9) (rd_nOR (k := 10) hq_1417 hm_1367 hv_1411)
  have hf_1476 : Fm (fun _ _ => False) (fun f9 b9 => b9 = h) (fun _ => False) S S_1431 := hf_1420.then hf_1433 (fun a9 ha9 => ⟨(fun f9 h9 => (fun h9 => h9.elim (fun h8 => absurd (h8.2 ▸ ha9) hz_1418) (fun h8 => absurd (h8.2 ▸ ha9) hz_1418)) h9), (fun f9 h9 => (fun h8 => absurd (h8 ▸ ha9) hz_1418) h9), (fun h9 => h9.elim)⟩)
  have hN_1477 : NL S (L_1358 ++ [q_1416]) S_1431 := NL.mono (show NL S (L_1358 ++ [q_1416]) (nO S_1364 q_1416 10) from NL.nO hN_1413 hq_1417 hz_1418) (fun a9 h9 => hf_1433.mem h9)
  have hG_1478 : Gs h gs_1362 S_1431 := Gs.fm (show Gs h gs_1362 (nO S_1364 q_1416 10) from Gs.nO hG_1414 hq_1417) hf_1433 (fun g9 hg9 p9 hp9 => gn_1419 g9 hg9 p9 hp9)
  have hE_1479 : ELs S_1431 q_161 [q_661, q_784, q_914, q_1038, q_1162, q_1292] := ELs.fm (ELs.nO (S := S_1364) hE_1415) hf_1433 (mem_old hm_1371) (fun h9 => h9)
  have hz_1480 : q_1421 ∉ hL S := fun h9 => e_1424 (hf_1420.mem h9)
  have hN_1481 : NL S ((L_1358 ++ [q_1416]) ++ [q_1421]) S_1431 := NL.app (show NL S (L_1358 ++ [q_1416]) (nO S_1364 q_1416 10) from NL.nO hN_1413 hq_1417 hz_1418) hNl_1429 (fun a9 h9 => hf_1433.mem h9) (fun a9 h9 => hf_1420.mem h9)
  obtain ⟨L_1482, eL_1483⟩ : ∃ L9 : List Nat, L9 = ((L_1358 ++ [q_1416]) ++ [q_1421]) := ⟨_, rfl⟩
  rw [← eL_1483] at hN_1481
  have hGt_1484 : Gt 1 [q_1416, q_1421] S_1431 := ⟨fun i9 k9 h9 => (match i9, h9 with | 0, h9 => (by have e9 : (10 : Nat) = k9 := Option.some.inj h9; subst e9; exact ⟨hm_1442, hk_1443⟩) | 1, h9 => (by have e9 : (15 : Nat) = k9 := Option.some.inj h9; subst e9; exact ⟨e_1425, e_1426⟩) | i9 + 2, h9 => absurd h9 (by simp [gT])), (List.forall_mem_cons.mpr ⟨e_1427, (fun _ h9 => absurd h9 List.not_mem_nil)⟩), (List.forall_mem_cons.mpr ⟨e_1428, (fun _ h9 => absurd h9 List.not_mem_nil)⟩), (fun _ h9 => absurd h9 List.not_mem_nil)⟩
  have hG_1485 : Gs h (gs_1362 ++ [(1, [q_1416, q_1421])]) S_1431 := Gs.snoc hG_1478 (by decide) hGt_1484 (List.forall_mem_cons.mpr ⟨(own_ne hz_1418 hm0_9), (fun _ h9 => absurd h9 List.not_mem_nil)⟩)
  obtain ⟨gs_1486, eG_1487⟩ : ∃ G9 : List (Nat × List Nat), G9 = gs_1362 ++ [(1, [q_1416, q_1421])] := ⟨_, rfl⟩
  rw [← eG_1487] at hG_1485
  refine j_aast (j := 6) (ci := 10) C 20  (by decide) rfl dX9_init_159 hm_1444 hk_1445 (inr_of (n := 16) hn_1446 (vp_lit (by decide))) (by decide) hm_1442 hk_1443 rfl ?_
  have hf_1490 : Fm (fun _ _ => False) (fun f9 b9 => b9 = h) (fun _ => False) S (tR S_1431 q_161 6 (some q_1416)) := (hf_1476.tR _ _ (fun h9 => absurd h9 hz_164))
  obtain ⟨S_1488, eS_1489⟩ : ∃ S9 : Hp, S9 = (tR S_1431 q_161 6 (some q_1416)) := ⟨_, rfl⟩
  refine J.eq (S' := S_1488) eS_1489.symm rfl rfl ?_
  have hm_1491 : h ∈ hL S_1488 := by rw [eS_1489]; exact hm_1440
  have hk_1492 : Kd S_1488 h 9 := by rw [eS_1489]; exact hk_1441
  have hm_1493 : q_1416 ∈ hL S_1488 := by rw [eS_1489]; exact hm_1442
  have hk_1494 : Kd S_1488 q_1416 10 := by rw [eS_1489]; exact hk_1443
  have hm_1495 : q_161 ∈ hL S_1488 := by rw [eS_1489]; exact hm_1444
  have hk_1496 : Kd S_1488 q_161 20 := by rw [eS_1489]; exact hk_1445
  have hn_1497 : Ln S_1488 q_161 16 := by rw [eS_1489]; exact hn_1446
  have hz_1498 : ∀ j, aI S_1488 q_161 j = 0 := by rw [eS_1489]; exact hz_1434
  have hm_1499 : q_266 ∈ hL S_1488 := by rw [eS_1489]; exact hm_1447
  have hk_1500 : Kd S_1488 q_266 13 := by rw [eS_1489]; exact hk_1448
  have hn_1501 : Ln S_1488 q_266 24000 := by rw [eS_1489]; exact hn_1449
  have hz_1502 : ∀ j, aI S_1488 q_266 j = 0 := by rw [eS_1489]; exact hz_1435
  have hm_1503 : q_295 ∈ hL S_1488 := by rw [eS_1489]; exact hm_1450
  have hk_1504 : Kd S_1488 q_295 14 := by rw [eS_1489]; exact hk_1451
  have hn_1505 : Ln S_1488 q_295 16 := by rw [eS_1489]; exact hn_1452
  have hz_1506 : ∀ j, aI S_1488 q_295 j = 0 := by rw [eS_1489]; exact hz_1436
  have hm_1507 : q_524 ∈ hL S_1488 := by rw [eS_1489]; exact hm_1453
  have hk_1508 : Kd S_1488 q_524 18 := by rw [eS_1489]; exact hk_1454
  have hn_1509 : Ln S_1488 q_524 3 := by rw [eS_1489]; exact hn_1455
  have hz_1510 : ∀ j, aI S_1488 q_524 j = 0 := by rw [eS_1489]; exact hz_1437
  have hm_1511 : q_565 ∈ hL S_1488 := by rw [eS_1489]; exact hm_1456
  have hk_1512 : Kd S_1488 q_565 19 := by rw [eS_1489]; exact hk_1457
  have hn_1513 : Ln S_1488 q_565 4 := by rw [eS_1489]; exact hn_1458
  have hz_1514 : ∀ j, aI S_1488 q_565 j = 0 := by rw [eS_1489]; exact hz_1438
  have hm_1515 : q_610 ∈ hL S_1488 := by rw [eS_1489]; exact hm_1459
  have hk_1516 : Kd S_1488 q_610 14 := by rw [eS_1489]; exact hk_1460
  have hn_1517 : Ln S_1488 q_610 12 := by rw [eS_1489]; exact hn_1461
  have hz_1518 : ∀ j, aI S_1488 q_610 j = 0 := by rw [eS_1489]; exact hz_1439
  have hv_1519 : hI S_1488 1000 q_1416 = 1 := by rw [eS_1489]; exact e_1422
  have hv_1520 : hI S_1488 1001 q_1416 = 1 := by rw [eS_1489]; exact e_1423
  have hv_1521 : hR S_1488 1003 q_1416 = (some q_1421) := by rw [eS_1489]; exact e_1428
  have hv_1522 : hR S_1488 900 h = (some s0) := by rw [eS_1489]; exact hv_1462
  have hv_1523 : hR S_1488 901 h = (some q_1) := by rw [eS_1489]; exact hv_1463
  have hv_1524 : hR S_1488 902 h = (some q_41) := by rw [eS_1489]; exact hv_1464
  have hv_1525 : hR S_1488 903 h = (some q_126) := by rw [eS_1489]; exact hv_1465
  have hv_1526 : hR S_1488 904 h = (some q_161) := by rw [eS_1489]; exact hv_1466
  have hv_1527 : hR S_1488 905 h = (some q_183) := by rw [eS_1489]; exact hv_1467
  have hv_1528 : hR S_1488 906 h = (some q_224) := by rw [eS_1489]; exact hv_1468
  have hv_1529 : hR S_1488 907 h = (some q_266) := by rw [eS_1489]; exact hv_1469
  have hv_1530 : hR S_1488 908 h = (some q_295) := by rw [eS_1489]; exact hv_1470
  have hv_1531 : hR S_1488 909 h = (some q_328) := by rw [eS_1489]; exact hv_1471
  have hv_1532 : hR S_1488 910 h = (some q_425) := by rw [eS_1489]; exact hv_1472
  have hv_1533 : hR S_1488 911 h = (some q_524) := by rw [eS_1489]; exact hv_1473
  have hv_1534 : hR S_1488 912 h = (some q_565) := by rw [eS_1489]; exact hv_1474
  have hv_1535 : hR S_1488 917 h = (some q_610) := by rw [eS_1489]; exact hv_1475
  have hf_1536 : Fm (fun _ _ => False) (fun f9 b9 => b9 = h) (fun _ => False) S S_1488 := by rw [eS_1489]; exact hf_1490
  have hN_1537 : NL S L_1482 S_1488 := by rw [eS_1489]; exact (NL.tR (S := S_1431) hN_1481)
  have hG_1538 : Gs h gs_1486 S_1488 := by rw [eS_1489]; exact (Gs.tR (S := S_1431) hG_1485)
  have hE_1539 : ELs S_1488 q_161 [q_661, q_784, q_914, q_1038, q_1162, q_1292, q_1416] := by rw [eS_1489]; exact (show ELs (tR S_1431 q_161 6 (some q_1416)) q_161 [q_661, q_784, q_914, q_1038, q_1162, q_1292, q_1416] from ELs.snoc hE_1479 rfl)
  refine j_iinc (q := 0) (v := 7) (lv' := [(2, .int 7), (0, .ref h), (1, .ref s0)]) C dX9_init_160 rfl (by decide) (by rw [hn9]; decide) rfl ?_
  refine j_goto (tgt := 138) C dX9_init_163 (by decide) ?_
  refine j_iload_n C dX9_init_138 rfl 0 rfl ?_
  refine j_aload_n C dX9_init_139 rfl 1 rfl ?_
  refine j_getr (f := 904) (v := q_161) C flX9_34 dX9_init_140 hm_1491 hk_1492 (by decide) rfl hv_1526 ?_
  refine j_alen (v := 16) C dX9_init_143 hm_1495 hk_1496 (by decide) (by decide) (len_of (n := 16) hn_1497 (by decide)) ?_
  show J _ _ _ _ _ 144 _
  refine j_ic_ge (tgt := 166) C dX9_init_144 (by decide) (fun c9 => absurd c9 (by decide)) (fun c9 => ?_)
  refine j_aload_n C dX9_init_147 rfl 1 rfl ?_
  refine j_getr (f := 904) (v := q_161) C flX9_34 dX9_init_148 hm_1491 hk_1492 (by decide) rfl hv_1526 ?_
  refine j_iload_n C dX9_init_151 rfl 0 rfl ?_
  refine j_new (N := 4) C (ci := 10) rfl rfl klX9_32 knX10 kiX10 (M.cells (by decide)) (M.slots (by decide)) dX9_init_152 (fun q_1540 hq_1541 => ?_)
  have hz_1542 : q_1540 ∉ hL S := fun h9 => hq_1541 (hf_1536.mem h9)
  have gn_1543 : ∀ g9 ∈ gs_1486, ∀ p9 ∈ (gT g9.1).2.2, g9.2.getD p9.2.1 0 ≠ q_1540 := Gs.ne hG_1538 hq_1541
  refine j_dup C dX9_init_155 rfl ?_
  have hf_1544 : Fm (fun _ _ => False) (fun f9 b9 => b9 = h) (fun _ => False) S (nO S_1488 q_1540 10) := (hf_1536.nO _ hq_1541)
  refine j_callI C [] [.ref q_1540, .int 7, .ref q_161] mlX9_38 mcX10_init (c_X10_init (nO S_1488 q_1540 10) q_1540 mem_new (kd_nO' (k := 10))) (M.rm (by decide) (by decide) (Nat.le_of_ble_eq_true rfl) (Nat.le_of_ble_eq_true rfl)) rfl rfl (Nat.le_of_ble_eq_true rfl) dX9_init_156 (fun r_1554 S_1555 hp_1556 => ?_)
  obtain ⟨rfl, hf_1557, e_1546, e_1547, q_1545, e_1548, e_1549, e_1550, e_1551, e_1552, hNl_1553⟩ := hp_1556
  refine J.eq (st' := [.ref q_1540, .int 7, .ref q_161]) rfl rfl rfl ?_
  have hz_1558 : ∀ j, aI S_1555 q_161 j = 0 := fun j9 => (hf_1557.ai (mem_old hm_1495) (fun h9 => h9) j9).trans (hz_1498 j9)
  have hz_1559 : ∀ j, aI S_1555 q_266 j = 0 := fun j9 => (hf_1557.ai (mem_old hm_1499) (fun h9 => h9) j9).trans (hz_1502 j9)
  have hz_1560 : ∀ j, aI S_1555 q_295 j = 0 := fun j9 => (hf_1557.ai (mem_old hm_1503) (fun h9 => h9) j9).trans (hz_1506 j9)
  have hz_1561 : ∀ j, aI S_1555 q_524 j = 0 := fun j9 => (hf_1557.ai (mem_old hm_1507) (fun h9 => h9) j9).trans (hz_1510 j9)
  have hz_1562 : ∀ j, aI S_1555 q_565 j = 0 := fun j9 => (hf_1557.ai (mem_old hm_1511) (fun h9 => h9) j9).trans (hz_1514 j9)
  have hz_1563 : ∀ j, aI S_1555 q_610 j = 0 := fun j9 => (hf_1557.ai (mem_old hm_1515) (fun h9 => h9) j9).trans (hz_1518 j9)
  have hm_1564 : h ∈ hL S_1555 := hf_1557.mem (mem_old hm_1491)
  have hk_1565 : Kd S_1555 h 9 := hf_1557.kd (mem_old hm_1491) (kd_nO (k := 10) hq_1541 hm_1491 hk_1492)
  have hm_1566 : q_1540 ∈ hL S_1555 := hf_1557.mem mem_new
  have hk_1567 : Kd S_1555 q_1540 10 := hf_1557.kd mem_new (kd_nO' (k := 10))
  have hm_1568 : q_161 ∈ hL S_1555 := hf_1557.mem (mem_old hm_1495)
  have hk_1569 : Kd S_1555 q_161 20 := hf_1557.kd (mem_old hm_1495) (kd_nO (k := 10) hq_1541 hm_1495 hk_1496)
  have hn_1570 : Ln S_1555 q_161 16 := hf_1557.ln (mem_old hm_1495) hn_1497
  have hm_1571 : q_266 ∈ hL S_1555 := hf_1557.mem (mem_old hm_1499)
  have hk_1572 : Kd S_1555 q_266 13 := hf_1557.kd (mem_old hm_1499) (kd_nO (k := 10) hq_1541 hm_1499 hk_1500)
  have hn_1573 : Ln S_1555 q_266 24000 := hf_1557.ln (mem_old hm_1499) hn_1501
  have hm_1574 : q_295 ∈ hL S_1555 := hf_1557.mem (mem_old hm_1503)
  have hk_1575 : Kd S_1555 q_295 14 := hf_1557.kd (mem_old hm_1503) (kd_nO (k := 10) hq_1541 hm_1503 hk_1504)
  have hn_1576 : Ln S_1555 q_295 16 := hf_1557.ln (mem_old hm_1503) hn_1505
  have hm_1577 : q_524 ∈ hL S_1555 := hf_1557.mem (mem_old hm_1507)
  have hk_1578 : Kd S_1555 q_524 18 := hf_1557.kd (mem_old hm_1507) (kd_nO (k := 10) hq_1541 hm_1507 hk_1508)
  have hn_1579 : Ln S_1555 q_524 3 := hf_1557.ln (mem_old hm_1507) hn_1509
  have hm_1580 : q_565 ∈ hL S_1555 := hf_1557.mem (mem_old hm_1511)
  have hk_1581 : Kd S_1555 q_565 19 := hf_1557.kd (mem_old hm_1511) (kd_nO (k := 10) hq_1541 hm_1511 hk_1512)
  have hn_1582 : Ln S_1555 q_565 4 := hf_1557.ln (mem_old hm_1511) hn_1513
  have hm_1583 : q_610 ∈ hL S_1555 := hf_1557.mem (mem_old hm_1515)
  have hk_1584 : Kd S_1555 q_610 14 := hf_1557.kd (mem_old hm_1515) (kd_nO (k := 10) hq_1541 hm_1515 hk_1516)
  have hn_1585 : Ln S_1555 q_610 12 := hf_1557.ln (mem_old hm_1515) hn_1517
  have hv_1586 : hR S_1555 900 h = (some s0) := hf_1557.fr (mem_old hm_1491) (fun q9 => (fun e9 => absurd (((kd_nO (k := 10) hq_1541 hm_1491 hk_1492)).symm.trans ((congrArg (hK _) e9).trans (kd_nO' (k := 10)))) (by decide)) q9) (rd_nOR (k := 10) hq_1541 hm_1491 hv_1522)
  have hv_1587 : hR S_1555 901 h = (some q_1) := hf_1557.fr (mem_old hm_1491) (fun q9 => (fun e9 => absurd (((kd_nO (k := 10) hq_1541 hm_1491 hk_1492)).symm.trans ((congrArg (hK _) e9).trans (kd_nO' (k := 10)))) (by decide)) q9) (rd_nOR (k := 10) hq_1541 hm_1491 hv_1523)
  have hv_1588 : hR S_1555 902 h = (some q_41) := hf_1557.fr (mem_old hm_1491) (fun q9 => (fun e9 => absurd (((kd_nO (k := 10) hq_1541 hm_1491 hk_1492)).symm.trans ((congrArg (hK _) e9).trans (kd_nO' (k := 10)))) (by decide)) q9) (rd_nOR (k := 10) hq_1541 hm_1491 hv_1524)
  have hv_1589 : hR S_1555 903 h = (some q_126) := hf_1557.fr (mem_old hm_1491) (fun q9 => (fun e9 => absurd (((kd_nO (k := 10) hq_1541 hm_1491 hk_1492)).symm.trans ((congrArg (hK _) e9).trans (kd_nO' (k := 10)))) (by decide)) q9) (rd_nOR (k := 10) hq_1541 hm_1491 hv_1525)
  have hv_1590 : hR S_1555 904 h = (some q_161) := hf_1557.fr (mem_old hm_1491) (fun q9 => (fun e9 => absurd (((kd_nO (k := 10) hq_1541 hm_1491 hk_1492)).symm.trans ((congrArg (hK _) e9).trans (kd_nO' (k := 10)))) (by decide)) q9) (rd_nOR (k := 10) hq_1541 hm_1491 hv_1526)
  have hv_1591 : hR S_1555 905 h = (some q_183) := hf_1557.fr (mem_old hm_1491) (fun q9 => (fun e9 => absurd (((kd_nO (k := 10) hq_1541 hm_1491 hk_1492)).symm.trans ((congrArg (hK _) e9).trans (kd_nO' (k := 10)))) (by decide)) q9) (rd_nOR (k := 10) hq_1541 hm_1491 hv_1527)
  have hv_1592 : hR S_1555 906 h = (some q_224) := hf_1557.fr (mem_old hm_1491) (fun q9 => (fun e9 => absurd (((kd_nO (k := 10) hq_1541 hm_1491 hk_1492)).symm.trans ((congrArg (hK _) e9).trans (kd_nO' (k := 10)))) (by decide)) q9) (rd_nOR (k := 10) hq_1541 hm_1491 hv_1528)
  have hv_1593 : hR S_1555 907 h = (some q_266) := hf_1557.fr (mem_old hm_1491) (fun q9 => (fun e9 => absurd (((kd_nO (k := 10) hq_1541 hm_1491 hk_1492)).symm.trans ((congrArg (hK _) e9).trans (kd_nO' (k := 10)))) (by decide)) q9) (rd_nOR (k := 10) hq_1541 hm_1491 hv_1529)
  have hv_1594 : hR S_1555 908 h = (some q_295) := hf_1557.fr (mem_old hm_1491) (fun q9 => (fun e9 => absurd (((kd_nO (k := 10) hq_1541 hm_1491 hk_1492)).symm.trans ((congrArg (hK _) e9).trans (kd_nO' (k := 10)))) (by decide)) q9) (rd_nOR (k := 10) hq_1541 hm_1491 hv_1530)
  have hv_1595 : hR S_1555 909 h = (some q_328) := hf_1557.fr (mem_old hm_1491) (fun q9 => (fun e9 => absurd (((kd_nO (k := 10) hq_1541 hm_1491 hk_1492)).symm.trans ((congrArg (hK _) e9).trans (kd_nO' (k := 10)))) (by decide)) q9) (rd_nOR (k := 10) hq_1541 hm_1491 hv_1531)
  have hv_1596 : hR S_1555 910 h = (some q_425) := hf_1557.fr (mem_old hm_1491) (fun q9 => (fun e9 => absurd (((kd_nO (k := 10) hq_1541 hm_1491 hk_1492)).symm.trans ((congrArg (hK _) e9).trans (kd_nO' (k := 10)))) (by decide)) q9) (rd_nOR (k := 10) hq_1541 hm_1491 hv_1532)
  have hv_1597 : hR S_1555 911 h = (some q_524) := hf_1557.fr (mem_old hm_1491) (fun q9 => (fun e9 => absurd (((kd_nO (k := 10) hq_1541 hm_1491 hk_1492)).symm.trans ((congrArg (hK _) e9).trans (kd_nO' (k := 10)))) (by decide)) q9) (rd_nOR (k := 10) hq_1541 hm_1491 hv_1533)
  have hv_1598 : hR S_1555 912 h = (some q_565) := hf_1557.fr (mem_old hm_1491) (fun q9 => (fun e9 => absurd (((kd_nO (k := 10) hq_1541 hm_1491 hk_1492)).symm.trans ((congrArg (hK _) e9).trans (kd_nO' (k := 10)))) (by decide)) q9) (rd_nOR (k := 10) hq_1541 hm_1491 hv_1534)
  have hv_1599 : hR S_1555 917 h = (some q_610) := hf_1557.fr (mem_old hm_1491) (fun q9 => (fun e9 => absurd (((kd_nO (k := 10) hq_1541 hm_1491 hk_1492)).symm.trans ((congrArg (hK _) e9).trans (kd_nO' (k := 10)))) (by decide)) q9) (rd_nOR (k := 10) hq_1541 hm_1491 hv_1535)
  have hf_1600 : Fm (fun _ _ => False) (fun f9 b9 => b9 = h) (fun _ => False) S S_1555 := hf_1544.then hf_1557 (fun a9 ha9 => ⟨(fun f9 h9 => (fun h9 => h9.elim (fun h8 => absurd (h8.2 ▸ ha9) hz_1542) (fun h8 => absurd (h8.2 ▸ ha9) hz_1542)) h9), (fun f9 h9 => (fun h8 => absurd (h8 ▸ ha9) hz_1542) h9), (fun h9 => h9.elim)⟩)
  have hN_1601 : NL S (L_1482 ++ [q_1540]) S_1555 := NL.mono (show NL S (L_1482 ++ [q_1540]) (nO S_1488 q_1540 10) from NL.nO hN_1537 hq_1541 hz_1542) (fun a9 h9 => hf_1557.mem h9)
  have hG_1602 : Gs h gs_1486 S_1555 := Gs.fm (show Gs h gs_1486 (nO S_1488 q_1540 10) from Gs.nO hG_1538 hq_1541) hf_1557 (fun g9 hg9 p9 hp9 => gn_1543 g9 hg9 p9 hp9)
  have hE_1603 : ELs S_1555 q_161 [q_661, q_784, q_914, q_1038, q_1162, q_1292, q_1416] := ELs.fm (ELs.nO (S := S_1488) hE_1539) hf_1557 (mem_old hm_1495) (fun h9 => h9)
  have hz_1604 : q_1545 ∉ hL S := fun h9 => e_1548 (hf_1544.mem h9)
  have hN_1605 : NL S ((L_1482 ++ [q_1540]) ++ [q_1545]) S_1555 := NL.app (show NL S (L_1482 ++ [q_1540]) (nO S_1488 q_1540 10) from NL.nO hN_1537 hq_1541 hz_1542) hNl_1553 (fun a9 h9 => hf_1557.mem h9) (fun a9 h9 => hf_1544.mem h9)
  obtain ⟨L_1606, eL_1607⟩ : ∃ L9 : List Nat, L9 = ((L_1482 ++ [q_1540]) ++ [q_1545]) := ⟨_, rfl⟩
  rw [← eL_1607] at hN_1605
  have hGt_1608 : Gt 1 [q_1540, q_1545] S_1555 := ⟨fun i9 k9 h9 => (match i9, h9 with | 0, h9 => (by have e9 : (10 : Nat) = k9 := Option.some.inj h9; subst e9; exact ⟨hm_1566, hk_1567⟩) | 1, h9 => (by have e9 : (15 : Nat) = k9 := Option.some.inj h9; subst e9; exact ⟨e_1549, e_1550⟩) | i9 + 2, h9 => absurd h9 (by simp [gT])), (List.forall_mem_cons.mpr ⟨e_1551, (fun _ h9 => absurd h9 List.not_mem_nil)⟩), (List.forall_mem_cons.mpr ⟨e_1552, (fun _ h9 => absurd h9 List.not_mem_nil)⟩), (fun _ h9 => absurd h9 List.not_mem_nil)⟩
  have hG_1609 : Gs h (gs_1486 ++ [(1, [q_1540, q_1545])]) S_1555 := Gs.snoc hG_1602 (by decide) hGt_1608 (List.forall_mem_cons.mpr ⟨(own_ne hz_1542 hm0_9), (fun _ h9 => absurd h9 List.not_mem_nil)⟩)
  obtain ⟨gs_1610, eG_1611⟩ : ∃ G9 : List (Nat × List Nat), G9 = gs_1486 ++ [(1, [q_1540, q_1545])] := ⟨_, rfl⟩
  rw [← eG_1611] at hG_1609
  refine j_aast (j := 7) (ci := 10) C 20  (by decide) rfl dX9_init_159 hm_1568 hk_1569 (inr_of (n := 16) hn_1570 (vp_lit (by decide))) (by decide) hm_1566 hk_1567 rfl ?_
  have hf_1614 : Fm (fun _ _ => False) (fun f9 b9 => b9 = h) (fun _ => False) S (tR S_1555 q_161 7 (some q_1540)) := (hf_1600.tR _ _ (fun h9 => absurd h9 hz_164))
  obtain ⟨S_1612, eS_1613⟩ : ∃ S9 : Hp, S9 = (tR S_1555 q_161 7 (some q_1540)) := ⟨_, rfl⟩
  refine J.eq (S' := S_1612) eS_1613.symm rfl rfl ?_
  have hm_1615 : h ∈ hL S_1612 := by rw [eS_1613]; exact hm_1564
  have hk_1616 : Kd S_1612 h 9 := by rw [eS_1613]; exact hk_1565
  have hm_1617 : q_1540 ∈ hL S_1612 := by rw [eS_1613]; exact hm_1566
  have hk_1618 : Kd S_1612 q_1540 10 := by rw [eS_1613]; exact hk_1567
  have hm_1619 : q_161 ∈ hL S_1612 := by rw [eS_1613]; exact hm_1568
  have hk_1620 : Kd S_1612 q_161 20 := by rw [eS_1613]; exact hk_1569
  have hn_1621 : Ln S_1612 q_161 16 := by rw [eS_1613]; exact hn_1570
  have hz_1622 : ∀ j, aI S_1612 q_161 j = 0 := by rw [eS_1613]; exact hz_1558
  have hm_1623 : q_266 ∈ hL S_1612 := by rw [eS_1613]; exact hm_1571
  have hk_1624 : Kd S_1612 q_266 13 := by rw [eS_1613]; exact hk_1572
  have hn_1625 : Ln S_1612 q_266 24000 := by rw [eS_1613]; exact hn_1573
  have hz_1626 : ∀ j, aI S_1612 q_266 j = 0 := by rw [eS_1613]; exact hz_1559
  have hm_1627 : q_295 ∈ hL S_1612 := by rw [eS_1613]; exact hm_1574
  have hk_1628 : Kd S_1612 q_295 14 := by rw [eS_1613]; exact hk_1575
  have hn_1629 : Ln S_1612 q_295 16 := by rw [eS_1613]; exact hn_1576
  have hz_1630 : ∀ j, aI S_1612 q_295 j = 0 := by rw [eS_1613]; exact hz_1560
  have hm_1631 : q_524 ∈ hL S_1612 := by rw [eS_1613]; exact hm_1577
  have hk_1632 : Kd S_1612 q_524 18 := by rw [eS_1613]; exact hk_1578
  have hn_1633 : Ln S_1612 q_524 3 := by rw [eS_1613]; exact hn_1579
  have hz_1634 : ∀ j, aI S_1612 q_524 j = 0 := by rw [eS_1613]; exact hz_1561
  have hm_1635 : q_565 ∈ hL S_1612 := by rw [eS_1613]; exact hm_1580
  have hk_1636 : Kd S_1612 q_565 19 := by rw [eS_1613]; exact hk_1581
  have hn_1637 : Ln S_1612 q_565 4 := by rw [eS_1613]; exact hn_1582
  have hz_1638 : ∀ j, aI S_1612 q_565 j = 0 := by rw [eS_1613]; exact hz_1562
  have hm_1639 : q_610 ∈ hL S_1612 := by rw [eS_1613]; exact hm_1583
  have hk_1640 : Kd S_1612 q_610 14 := by rw [eS_1613]; exact hk_1584
  have hn_1641 : Ln S_1612 q_610 12 := by rw [eS_1613]; exact hn_1585
  have hz_1642 : ∀ j, aI S_1612 q_610 j = 0 := by rw [eS_1613]; exact hz_1563
  have hv_1643 : hI S_1612 1000 q_1540 = 1 := by rw [eS_1613]; exact e_1546
  have hv_1644 : hI S_1612 1001 q_1540 = 1 := by rw [eS_1613]; exact e_1547
  have hv_1645 : hR S_1612 1003 q_1540 = (some q_1545) := by rw [eS_1613]; exact e_1552
  have hv_1646 : hR S_1612 900 h = (some s0) := by rw [eS_1613]; exact hv_1586
  have hv_1647 : hR S_1612 901 h = (some q_1) := by rw [eS_1613]; exact hv_1587
  have hv_1648 : hR S_1612 902 h = (some q_41) := by rw [eS_1613]; exact hv_1588
  have hv_1649 : hR S_1612 903 h = (some q_126) := by rw [eS_1613]; exact hv_1589
  have hv_1650 : hR S_1612 904 h = (some q_161) := by rw [eS_1613]; exact hv_1590
  have hv_1651 : hR S_1612 905 h = (some q_183) := by rw [eS_1613]; exact hv_1591
  have hv_1652 : hR S_1612 906 h = (some q_224) := by rw [eS_1613]; exact hv_1592
  have hv_1653 : hR S_1612 907 h = (some q_266) := by rw [eS_1613]; exact hv_1593
  have hv_1654 : hR S_1612 908 h = (some q_295) := by rw [eS_1613]; exact hv_1594
  have hv_1655 : hR S_1612 909 h = (some q_328) := by rw [eS_1613]; exact hv_1595
  have hv_1656 : hR S_1612 910 h = (some q_425) := by rw [eS_1613]; exact hv_1596
  have hv_1657 : hR S_1612 911 h = (some q_524) := by rw [eS_1613]; exact hv_1597
  have hv_1658 : hR S_1612 912 h = (some q_565) := by rw [eS_1613]; exact hv_1598
  have hv_1659 : hR S_1612 917 h = (some q_610) := by rw [eS_1613]; exact hv_1599
  have hf_1660 : Fm (fun _ _ => False) (fun f9 b9 => b9 = h) (fun _ => False) S S_1612 := by rw [eS_1613]; exact hf_1614
  have hN_1661 : NL S L_1606 S_1612 := by rw [eS_1613]; exact (NL.tR (S := S_1555) hN_1605)
  have hG_1662 : Gs h gs_1610 S_1612 := by rw [eS_1613]; exact (Gs.tR (S := S_1555) hG_1609)
  have hE_1663 : ELs S_1612 q_161 [q_661, q_784, q_914, q_1038, q_1162, q_1292, q_1416, q_1540] := by rw [eS_1613]; exact (show ELs (tR S_1555 q_161 7 (some q_1540)) q_161 [q_661, q_784, q_914, q_1038, q_1162, q_1292, q_1416, q_1540] from ELs.snoc hE_1603 rfl)
  show J _ _ _ _ _ 160 _
  refine j_iinc (q := 0) (v := 8) (lv' := [(2, .int 8), (0, .ref h), (1, .ref s0)]) C dX9_init_160 rfl (by decide) (by rw [hn9]; decide) rfl ?_
  refine j_goto (tgt := 138) C dX9_init_163 (by decide) ?_
  exact x9_t3 (q_1 := q_1) (q_5 := q_5) (q_6 := q_6) (q_41 := q_41) (q_47 := q_47) (q_48 := q_48) (q_49 := q_49) (q_50 := q_50) (q_51 := q_51) (q_52 := q_52) (q_53 := q_53) (q_54 := q_54) (q_126 := q_126) (q_132 := q_132) (q_161 := q_161) (q_183 := q_183) (q_188 := q_188) (q_224 := q_224) (q_230 := q_230) (q_266 := q_266) (q_295 := q_295) (q_328 := q_328) (q_333 := q_333) (q_334 := q_334) (q_335 := q_335) (q_336 := q_336) (q_337 := q_337) (q_338 := q_338) (q_339 := q_339) (q_340 := q_340) (q_425 := q_425) (q_431 := q_431) (q_432 := q_432) (q_433 := q_433) (q_434 := q_434) (q_435 := q_435) (q_436 := q_436) (q_437 := q_437) (q_438 := q_438) (q_524 := q_524) (q_565 := q_565) (q_610 := q_610) (q_661 := q_661) (q_666 := q_666) (q_784 := q_784) (q_789 := q_789) (q_914 := q_914) (q_919 := q_919) (q_1038 := q_1038) (q_1043 := q_1043) (q_1162 := q_1162) (q_1167 := q_1167) (q_1292 := q_1292) (q_1297 := q_1297) (q_1416 := q_1416) (q_1421 := q_1421) (q_1540 := q_1540) (q_1545 := q_1545) hn9 C M hm9 hm0_9 hz_164 hz_269 hz_297 hz_527 hz_567 hz_612 hm_1615 hk_1616 hm_1619 hk_1620 hn_1621 hz_1622 hm_1623 hk_1624 hn_1625 hz_1626 hm_1627 hk_1628 hn_1629 hz_1630 hm_1631 hk_1632 hn_1633 hz_1634 hm_1635 hk_1636 hn_1637 hz_1638 hm_1639 hk_1640 hn_1641 hz_1642 hv_1646 hv_1647 hv_1648 hv_1649 hv_1650 hv_1651 hv_1652 hv_1653 hv_1654 hv_1655 hv_1656 hv_1657 hv_1658 hv_1659 (by have h9 := hN_1661; rw [eL_1607, eL_1483, eL_1359, eL_1289] at h9; simpa only [List.nil_append, List.cons_append, List.append_assoc] using h9) (by have h9 := hG_1662; rw [eG_1611, eG_1487, eG_1363, eG_1291] at h9; simpa only [List.nil_append, List.cons_append, List.append_assoc] using h9) hE_1663 hf_1660

set_option maxRecDepth 100000 in
set_option maxHeartbeats 8000000 in
theorem x9_t1 {x : JX} {S S_856 : Hp} {h s0 q_1 q_5 q_6 q_41 q_47 q_48 q_49 q_50 q_51 q_52 q_53 q_54 q_126 q_132 q_161 q_183 q_188 q_224 q_230 q_266 q_295 q_328 q_333 q_334 q_335 q_336 q_337 q_338 q_339 q_340 q_425 q_431 q_432 q_433 q_434 q_435 q_436 q_437 q_438 q_524 q_565 q_610 q_661 q_666 q_784 q_789 : Nat} (hn9 : x_n x = 3) (C : CB x RX9 cX9_init) (M : CM x 4 113 68424 none S (fun r S' => r = none ∧ Fm (fun _ _ => False) (fun f9 b9 => b9 = h) (fun _ => False) S S' ∧ hR S' 900 h = some s0 ∧ ∃ l : List Nat, Wt s9K s9N s9P s9Q (fun i => (h :: l).getD i 0) S' ∧ l.length = 105 ∧ NL S l S' ∧ (∀ j, aI S' ((h :: l).getD 6 0) j = 0) ∧ (∀ j, aI S' ((h :: l).getD 9 0) j = 0) ∧ (∀ j, aI S' ((h :: l).getD 14 0) j = 0) ∧ (∀ j, aI S' ((h :: l).getD 19 0) j = 0))) (hm9 : (x_meth x).name = yX9_init.name) (hm0_9 : h ∈ hL S) (hz_164 : q_161 ∉ hL S) (hz_269 : q_266 ∉ hL S) (hz_297 : q_295 ∉ hL S) (hz_527 : q_524 ∉ hL S) (hz_567 : q_565 ∉ hL S) (hz_612 : q_610 ∉ hL S) (hm_859 : h ∈ hL S_856) (hk_860 : Kd S_856 h 9) (hm_861 : q_161 ∈ hL S_856) (hk_862 : Kd S_856 q_161 20) (hn_863 : Ln S_856 q_161 16) (hz_864 : ∀ j, aI S_856 q_161 j = 0) (hm_865 : q_266 ∈ hL S_856) (hk_866 : Kd S_856 q_266 13) (hn_867 : Ln S_856 q_266 24000) (hz_868 : ∀ j, aI S_856 q_266 j = 0) (hm_869 : q_295 ∈ hL S_856) (hk_870 : Kd S_856 q_295 14) (hn_871 : Ln S_856 q_295 16) (hz_872 : ∀ j, aI S_856 q_295 j = 0) (hm_873 : q_524 ∈ hL S_856) (hk_874 : Kd S_856 q_524 18) (hn_875 : Ln S_856 q_524 3) (hz_876 : ∀ j, aI S_856 q_524 j = 0) (hm_877 : q_565 ∈ hL S_856) (hk_878 : Kd S_856 q_565 19) (hn_879 : Ln S_856 q_565 4) (hz_880 : ∀ j, aI S_856 q_565 j = 0) (hm_881 : q_610 ∈ hL S_856) (hk_882 : Kd S_856 q_610 14) (hn_883 : Ln S_856 q_610 12) (hz_884 : ∀ j, aI S_856 q_610 j = 0) (hv_890 : hR S_856 900 h = (some s0)) (hv_891 : hR S_856 901 h = (some q_1)) (hv_892 : hR S_856 902 h = (some q_41)) (hv_893 : hR S_856 903 h = (some q_126)) (hv_894 : hR S_856 904 h = (some q_161)) (hv_895 : hR S_856 905 h = (some q_183)) (hv_896 : hR S_856 906 h = (some q_224)) (hv_897 : hR S_856 907 h = (some q_266)) (hv_898 : hR S_856 908 h = (some q_295)) (hv_899 : hR S_856 909 h = (some q_328)) (hv_900 : hR S_856 910 h = (some q_425)) (hv_901 : hR S_856 911 h = (some q_524)) (hv_902 : hR S_856 912 h = (some q_565)) (hv_903 : hR S_856 917 h = (some q_610)) (hN_908 : NL S [q_1, q_5, q_6, q_41, q_47, q_48, q_49, q_50, q_51, q_52, q_53, q_54, q_126, q_132, q_161, q_183, q_188, q_224, q_230, q_266, q_295, q_328, q_333, q_334, q_335, q_336, q_337, q_338, q_339, q_340, q_425, q_431, q_432, q_433, q_434, q_435, q_436, q_437, q_438, q_524, q_565, q_610, q_661, q_666, q_784, q_789] S_856) (hG_909 : Gs h [(3, [q_1, q_5, q_6]), (4, [q_41, q_47, q_48, q_49, q_50, q_51, q_52, q_53, q_54]), (0, [q_126, q_132]), (1, [q_183, q_188]), (0, [q_224, q_230]), (2, [q_328, q_333, q_334, q_335, q_336, q_337, q_338, q_339, q_340]), (2, [q_425, q_431, q_432, q_433, q_434, q_435, q_436, q_437, q_438]), (1, [q_661, q_666]), (1, [q_784, q_789])] S_856) (hE_907 : ELs S_856 q_161 [q_661, q_784]) (hf_904 : Fm (fun _ _ => False) (fun f9 b9 => b9 = h) (fun _ => False) S S_856) : J x (0 + 1 + 4 + 1 + 8 + 1 + 1 + 1 + 1 + 1 + 1 + 1 + 1 + 1 + 1 + 8 + 1 + 8 + 1 + 1 + 1 + 1 + 1 + 1 + 1) (0 + 15 + 20045 + 10 + 23174 + 1 + 16 + 16 + 4 + 16 + 1 + 16 + 24000 + 16 + 21 + 117 + 21 + 117 + 3 + 4 + 12 + 4 + 16 + 4 + 16) S_856 [(2, .int 2), (0, .ref h), (1, .ref s0)] 138 [] := by
  obtain ⟨L_910, eL_911⟩ : ∃ L9 : List Nat, L9 = [q_1, q_5, q_6, q_41, q_47, q_48, q_49, q_50, q_51, q_52, q_53, q_54, q_126, q_132, q_161, q_183, q_188, q_224, q_230, q_266, q_295, q_328, q_333, q_334, q_335, q_336, q_337, q_338, q_339, q_340, q_425, q_431, q_432, q_433, q_434, q_435, q_436, q_437, q_438, q_524, q_565, q_610, q_661, q_666, q_784, q_789] := ⟨_, rfl⟩
  rw [← eL_911] at hN_908
  obtain ⟨gs_912, eG_913⟩ : ∃ G9 : List (Nat × List Nat), G9 = [(3, [q_1, q_5, q_6]), (4, [q_41, q_47, q_48, q_49, q_50, q_51, q_52, q_53, q_54]), (0, [q_126, q_132]), (1, [q_183, q_188]), (0, [q_224, q_230]), (2, [q_328, q_333, q_334, q_335, q_336, q_337, q_338, q_339, q_340]), (2, [q_425, q_431, q_432, q_433, q_434, q_435, q_436, q_437, q_438]), (1, [q_661, q_666]), (1, [q_784, q_789])] := ⟨_, rfl⟩
  rw [← eG_913] at hG_909
  refine j_iload_n C dX9_init_138 rfl 0 rfl ?_
  refine j_aload_n C dX9_init_139 rfl 1 rfl ?_
  show J _ _ _ _ _ 140 _
  refine j_getr (f := 904) (v := q_161) C flX9_34 dX9_init_140 hm_859 hk_860 (by decide) rfl hv_894 ?_
  refine j_alen (v := 16) C dX9_init_143 hm_861 hk_862 (by decide) (by decide) (len_of (n := 16) hn_863 (by decide)) ?_
  refine j_ic_ge (tgt := 166) C dX9_init_144 (by decide) (fun c9 => absurd c9 (by decide)) (fun c9 => ?_)
  refine j_aload_n C dX9_init_147 rfl 1 rfl ?_
  refine j_getr (f := 904) (v := q_161) C flX9_34 dX9_init_148 hm_859 hk_860 (by decide) rfl hv_894 ?_
  refine j_iload_n C dX9_init_151 rfl 0 rfl ?_
  refine j_new (N := 4) C (ci := 10) rfl rfl klX9_32 knX10 kiX10 (M.cells (by decide)) (M.slots (by decide)) dX9_init_152 (fun q_914 hq_915 => ?_)
  have hz_916 : q_914 ∉ hL S := fun h9 => hq_915 (hf_904.mem h9)
  have gn_917 : ∀ g9 ∈ gs_912, ∀ p9 ∈ (gT g9.1).2.2, g9.2.getD p9.2.1 0 ≠ q_914 := Gs.ne hG_909 hq_915
  refine j_dup C dX9_init_155 rfl ?_
  show J _ _ _ _ _ 156 _
  have hf_918 : Fm (fun _ _ => False) (fun f9 b9 => b9 = h) (fun _ => False) S (nO S_856 q_914 10) := (hf_904.nO _ hq_915)
  refine j_callI C [] [.ref q_914, .int 2, .ref q_161] mlX9_38 mcX10_init (c_X10_init (nO S_856 q_914 10) q_914 mem_new (kd_nO' (k := 10))) (M.rm (by decide) (by decide) (Nat.le_of_ble_eq_true rfl) (Nat.le_of_ble_eq_true rfl)) rfl rfl (Nat.le_of_ble_eq_true rfl) dX9_init_156 (fun r_928 S_929 hp_930 => ?_)
  obtain ⟨rfl, hf_931, e_920, e_921, q_919, e_922, e_923, e_924, e_925, e_926, hNl_927⟩ := hp_930
  refine J.eq (st' := [.ref q_914, .int 2, .ref q_161]) rfl rfl rfl ?_
  have hz_932 : ∀ j, aI S_929 q_161 j = 0 := fun j9 => (hf_931.ai (mem_old hm_861) (fun h9 => h9) j9).trans (hz_864 j9)
  have hz_933 : ∀ j, aI S_929 q_266 j = 0 := fun j9 => (hf_931.ai (mem_old hm_865) (fun h9 => h9) j9).trans (hz_868 j9)
  have hz_934 : ∀ j, aI S_929 q_295 j = 0 := fun j9 => (hf_931.ai (mem_old hm_869) (fun h9 => h9) j9).trans (hz_872 j9)
  have hz_935 : ∀ j, aI S_929 q_524 j = 0 := fun j9 => (hf_931.ai (mem_old hm_873) (fun h9 => h9) j9).trans (hz_876 j9)
  have hz_936 : ∀ j, aI S_929 q_565 j = 0 := fun j9 => (hf_931.ai (mem_old hm_877) (fun h9 => h9) j9).trans (hz_880 j9)
  have hz_937 : ∀ j, aI S_929 q_610 j = 0 := fun j9 => (hf_931.ai (mem_old hm_881) (fun h9 => h9) j9).trans (hz_884 j9)
  have hm_938 : h ∈ hL S_929 := hf_931.mem (mem_old hm_859)
  have hk_939 : Kd S_929 h 9 := hf_931.kd (mem_old hm_859) (kd_nO (k := 10) hq_915 hm_859 hk_860)
  have hm_940 : q_161 ∈ hL S_929 := hf_931.mem (mem_old hm_861)
  have hk_941 : Kd S_929 q_161 20 := hf_931.kd (mem_old hm_861) (kd_nO (k := 10) hq_915 hm_861 hk_862)
  have hn_942 : Ln S_929 q_161 16 := hf_931.ln (mem_old hm_861) hn_863
  have hm_943 : q_266 ∈ hL S_929 := hf_931.mem (mem_old hm_865)
  have hk_944 : Kd S_929 q_266 13 := hf_931.kd (mem_old hm_865) (kd_nO (k := 10) hq_915 hm_865 hk_866)
  have hn_945 : Ln S_929 q_266 24000 := hf_931.ln (mem_old hm_865) hn_867
  have hm_946 : q_295 ∈ hL S_929 := hf_931.mem (mem_old hm_869)
  have hk_947 : Kd S_929 q_295 14 := hf_931.kd (mem_old hm_869) (kd_nO (k := 10) hq_915 hm_869 hk_870)
  have hn_948 : Ln S_929 q_295 16 := hf_931.ln (mem_old hm_869) hn_871
  have hm_949 : q_524 ∈ hL S_929 := hf_931.mem (mem_old hm_873)
  have hk_950 : Kd S_929 q_524 18 := hf_931.kd (mem_old hm_873) (kd_nO (k := 10) hq_915 hm_873 hk_874)
  have hn_951 : Ln S_929 q_524 3 := hf_931.ln (mem_old hm_873) hn_875
  have hm_952 : q_565 ∈ hL S_929 := hf_931.mem (mem_old hm_877)
  have hk_953 : Kd S_929 q_565 19 := hf_931.kd (mem_old hm_877) (kd_nO (k := 10) hq_915 hm_877 hk_878)
  have hn_954 : Ln S_929 q_565 4 := hf_931.ln (mem_old hm_877) hn_879
  have hm_955 : q_610 ∈ hL S_929 := hf_931.mem (mem_old hm_881)
  have hk_956 : Kd S_929 q_610 14 := hf_931.kd (mem_old hm_881) (kd_nO (k := 10) hq_915 hm_881 hk_882)
  have hn_957 : Ln S_929 q_610 12 := hf_931.ln (mem_old hm_881) hn_883
  have hm_958 : q_914 ∈ hL S_929 := hf_931.mem mem_new
  have hk_959 : Kd S_929 q_914 10 := hf_931.kd mem_new (kd_nO' (k := 10))
  have hv_960 : hR S_929 900 h = (some s0) := hf_931.fr (mem_old hm_859) (fun q9 => (fun e9 => absurd (((kd_nO (k := 10) hq_915 hm_859 hk_860)).symm.trans ((congrArg (hK _) e9).trans (kd_nO' (k := 10)))) (by decide)) q9) (rd_nOR (k := 10) hq_915 hm_859 hv_890)
  have hv_961 : hR S_929 901 h = (some q_1) := hf_931.fr (mem_old hm_859) (fun q9 => (fun e9 => absurd (((kd_nO (k := 10) hq_915 hm_859 hk_860)).symm.trans ((congrArg (hK _) e9).trans (kd_nO' (k := 10)))) (by decide)) q9) (rd_nOR (k := 10) hq_915 hm_859 hv_891)
  have hv_962 : hR S_929 902 h = (some q_41) := hf_931.fr (mem_old hm_859) (fun q9 => (fun e9 => absurd (((kd_nO (k := 10) hq_915 hm_859 hk_860)).symm.trans ((congrArg (hK _) e9).trans (kd_nO' (k := 10)))) (by decide)) q9) (rd_nOR (k := 10) hq_915 hm_859 hv_892)
  have hv_963 : hR S_929 903 h = (some q_126) := hf_931.fr (mem_old hm_859) (fun q9 => (fun e9 => absurd (((kd_nO (k := 10) hq_915 hm_859 hk_860)).symm.trans ((congrArg (hK _) e9).trans (kd_nO' (k := 10)))) (by decide)) q9) (rd_nOR (k := 10) hq_915 hm_859 hv_893)
  have hv_964 : hR S_929 904 h = (some q_161) := hf_931.fr (mem_old hm_859) (fun q9 => (fun e9 => absurd (((kd_nO (k := 10) hq_915 hm_859 hk_860)).symm.trans ((congrArg (hK _) e9).trans (kd_nO' (k := 10)))) (by decide)) q9) (rd_nOR (k := 10) hq_915 hm_859 hv_894)
  have hv_965 : hR S_929 905 h = (some q_183) := hf_931.fr (mem_old hm_859) (fun q9 => (fun e9 => absurd (((kd_nO (k := 10) hq_915 hm_859 hk_860)).symm.trans ((congrArg (hK _) e9).trans (kd_nO' (k := 10)))) (by decide)) q9) (rd_nOR (k := 10) hq_915 hm_859 hv_895)
  have hv_966 : hR S_929 906 h = (some q_224) := hf_931.fr (mem_old hm_859) (fun q9 => (fun e9 => absurd (((kd_nO (k := 10) hq_915 hm_859 hk_860)).symm.trans ((congrArg (hK _) e9).trans (kd_nO' (k := 10)))) (by decide)) q9) (rd_nOR (k := 10) hq_915 hm_859 hv_896)
  have hv_967 : hR S_929 907 h = (some q_266) := hf_931.fr (mem_old hm_859) (fun q9 => (fun e9 => absurd (((kd_nO (k := 10) hq_915 hm_859 hk_860)).symm.trans ((congrArg (hK _) e9).trans (kd_nO' (k := 10)))) (by decide)) q9) (rd_nOR (k := 10) hq_915 hm_859 hv_897)
  have hv_968 : hR S_929 908 h = (some q_295) := hf_931.fr (mem_old hm_859) (fun q9 => (fun e9 => absurd (((kd_nO (k := 10) hq_915 hm_859 hk_860)).symm.trans ((congrArg (hK _) e9).trans (kd_nO' (k := 10)))) (by decide)) q9) (rd_nOR (k := 10) hq_915 hm_859 hv_898)
  have hv_969 : hR S_929 909 h = (some q_328) := hf_931.fr (mem_old hm_859) (fun q9 => (fun e9 => absurd (((kd_nO (k := 10) hq_915 hm_859 hk_860)).symm.trans ((congrArg (hK _) e9).trans (kd_nO' (k := 10)))) (by decide)) q9) (rd_nOR (k := 10) hq_915 hm_859 hv_899)
  have hv_970 : hR S_929 910 h = (some q_425) := hf_931.fr (mem_old hm_859) (fun q9 => (fun e9 => absurd (((kd_nO (k := 10) hq_915 hm_859 hk_860)).symm.trans ((congrArg (hK _) e9).trans (kd_nO' (k := 10)))) (by decide)) q9) (rd_nOR (k := 10) hq_915 hm_859 hv_900)
  have hv_971 : hR S_929 911 h = (some q_524) := hf_931.fr (mem_old hm_859) (fun q9 => (fun e9 => absurd (((kd_nO (k := 10) hq_915 hm_859 hk_860)).symm.trans ((congrArg (hK _) e9).trans (kd_nO' (k := 10)))) (by decide)) q9) (rd_nOR (k := 10) hq_915 hm_859 hv_901)
  have hv_972 : hR S_929 912 h = (some q_565) := hf_931.fr (mem_old hm_859) (fun q9 => (fun e9 => absurd (((kd_nO (k := 10) hq_915 hm_859 hk_860)).symm.trans ((congrArg (hK _) e9).trans (kd_nO' (k := 10)))) (by decide)) q9) (rd_nOR (k := 10) hq_915 hm_859 hv_902)
  have hv_973 : hR S_929 917 h = (some q_610) := hf_931.fr (mem_old hm_859) (fun q9 => (fun e9 => absurd (((kd_nO (k := 10) hq_915 hm_859 hk_860)).symm.trans ((congrArg (hK _) e9).trans (kd_nO' (k := 10)))) (by decide)) q9) (rd_nOR (k := 10) hq_915 hm_859 hv_903)
  have hf_974 : Fm (fun _ _ => False) (fun f9 b9 => b9 = h) (fun _ => False) S S_929 := hf_918.then hf_931 (fun a9 ha9 => ⟨(fun f9 h9 => (fun h9 => h9.elim (fun h8 => absurd (h8.2 ▸ ha9) hz_916) (fun h8 => absurd (h8.2 ▸ ha9) hz_916)) h9), (fun f9 h9 => (fun h8 => absurd (h8 ▸ ha9) hz_916) h9), (fun h9 => h9.elim)⟩)
  have hN_975 : NL S (L_910 ++ [q_914]) S_929 := NL.mono (show NL S (L_910 ++ [q_914]) (nO S_856 q_914 10) from NL.nO hN_908 hq_915 hz_916) (fun a9 h9 => hf_931.mem h9)
  have hG_976 : Gs h gs_912 S_929 := Gs.fm (show Gs h gs_912 (nO S_856 q_914 10) from Gs.nO hG_909 hq_915) hf_931 (fun g9 hg9 p9 hp9 => gn_917 g9 hg9 p9 hp9)
  have hE_977 : ELs S_929 q_161 [q_661, q_784] := ELs.fm (ELs.nO (S := S_856) hE_907) hf_931 (mem_old hm_861) (fun h9 => h9)
  have hz_978 : q_919 ∉ hL S := fun h9 => e_922 (hf_918.mem h9)
  have hN_979 : NL S ((L_910 ++ [q_914]) ++ [q_919]) S_929 := NL.app (show NL S (L_910 ++ [q_914]) (nO S_856 q_914 10) from NL.nO hN_908 hq_915 hz_916) hNl_927 (fun a9 h9 => hf_931.mem h9) (fun a9 h9 => hf_918.mem h9)
  obtain ⟨L_980, eL_981⟩ : ∃ L9 : List Nat, L9 = ((L_910 ++ [q_914]) ++ [q_919]) := ⟨_, rfl⟩
  rw [← eL_981] at hN_979
  have hGt_982 : Gt 1 [q_914, q_919] S_929 := ⟨fun i9 k9 h9 => (match i9, h9 with | 0, h9 => (by have e9 : (10 : Nat) = k9 := Option.some.inj h9; subst e9; exact ⟨hm_958, hk_959⟩) | 1, h9 => (by have e9 : (15 : Nat) = k9 := Option.some.inj h9; subst e9; exact ⟨e_923, e_924⟩) | i9 + 2, h9 => absurd h9 (by simp [gT])), (List.forall_mem_cons.mpr ⟨e_925, (fun _ h9 => absurd h9 List.not_mem_nil)⟩), (List.forall_mem_cons.mpr ⟨e_926, (fun _ h9 => absurd h9 List.not_mem_nil)⟩), (fun _ h9 => absurd h9 List.not_mem_nil)⟩
  have hG_983 : Gs h (gs_912 ++ [(1, [q_914, q_919])]) S_929 := Gs.snoc hG_976 (by decide) hGt_982 (List.forall_mem_cons.mpr ⟨(own_ne hz_916 hm0_9), (fun _ h9 => absurd h9 List.not_mem_nil)⟩)
  obtain ⟨gs_984, eG_985⟩ : ∃ G9 : List (Nat × List Nat), G9 = gs_912 ++ [(1, [q_914, q_919])] := ⟨_, rfl⟩
  rw [← eG_985] at hG_983
  refine j_aast (j := 2) (ci := 10) C 20  (by decide) rfl dX9_init_159 hm_940 hk_941 (inr_of (n := 16) hn_942 (vp_lit (by decide))) (by decide) hm_958 hk_959 rfl ?_
  have hf_988 : Fm (fun _ _ => False) (fun f9 b9 => b9 = h) (fun _ => False) S (tR S_929 q_161 2 (some q_914)) := (hf_974.tR _ _ (fun h9 => absurd h9 hz_164))
  obtain ⟨S_986, eS_987⟩ : ∃ S9 : Hp, S9 = (tR S_929 q_161 2 (some q_914)) := ⟨_, rfl⟩
  refine J.eq (S' := S_986) eS_987.symm rfl rfl ?_
  have hm_989 : h ∈ hL S_986 := by rw [eS_987]; exact hm_938
  have hk_990 : Kd S_986 h 9 := by rw [eS_987]; exact hk_939
  have hm_991 : q_161 ∈ hL S_986 := by rw [eS_987]; exact hm_940
  have hk_992 : Kd S_986 q_161 20 := by rw [eS_987]; exact hk_941
  have hn_993 : Ln S_986 q_161 16 := by rw [eS_987]; exact hn_942
  have hz_994 : ∀ j, aI S_986 q_161 j = 0 := by rw [eS_987]; exact hz_932
  have hm_995 : q_266 ∈ hL S_986 := by rw [eS_987]; exact hm_943
  have hk_996 : Kd S_986 q_266 13 := by rw [eS_987]; exact hk_944
  have hn_997 : Ln S_986 q_266 24000 := by rw [eS_987]; exact hn_945
  have hz_998 : ∀ j, aI S_986 q_266 j = 0 := by rw [eS_987]; exact hz_933
  have hm_999 : q_295 ∈ hL S_986 := by rw [eS_987]; exact hm_946
  have hk_1000 : Kd S_986 q_295 14 := by rw [eS_987]; exact hk_947
  have hn_1001 : Ln S_986 q_295 16 := by rw [eS_987]; exact hn_948
  have hz_1002 : ∀ j, aI S_986 q_295 j = 0 := by rw [eS_987]; exact hz_934
  have hm_1003 : q_524 ∈ hL S_986 := by rw [eS_987]; exact hm_949
  have hk_1004 : Kd S_986 q_524 18 := by rw [eS_987]; exact hk_950
  have hn_1005 : Ln S_986 q_524 3 := by rw [eS_987]; exact hn_951
  have hz_1006 : ∀ j, aI S_986 q_524 j = 0 := by rw [eS_987]; exact hz_935
  have hm_1007 : q_565 ∈ hL S_986 := by rw [eS_987]; exact hm_952
  have hk_1008 : Kd S_986 q_565 19 := by rw [eS_987]; exact hk_953
  have hn_1009 : Ln S_986 q_565 4 := by rw [eS_987]; exact hn_954
  have hz_1010 : ∀ j, aI S_986 q_565 j = 0 := by rw [eS_987]; exact hz_936
  have hm_1011 : q_610 ∈ hL S_986 := by rw [eS_987]; exact hm_955
  have hk_1012 : Kd S_986 q_610 14 := by rw [eS_987]; exact hk_956
  have hn_1013 : Ln S_986 q_610 12 := by rw [eS_987]; exact hn_957
  have hz_1014 : ∀ j, aI S_986 q_610 j = 0 := by rw [eS_987]; exact hz_937
  have hm_1015 : q_914 ∈ hL S_986 := by rw [eS_987]; exact hm_958
  have hk_1016 : Kd S_986 q_914 10 := by rw [eS_987]; exact hk_959
  have hv_1017 : hI S_986 1000 q_914 = 1 := by rw [eS_987]; exact e_920
  have hv_1018 : hI S_986 1001 q_914 = 1 := by rw [eS_987]; exact e_921
  have hv_1019 : hR S_986 1003 q_914 = (some q_919) := by rw [eS_987]; exact e_926
  have hv_1020 : hR S_986 900 h = (some s0) := by rw [eS_987]; exact hv_960
  have hv_1021 : hR S_986 901 h = (some q_1) := by rw [eS_987]; exact hv_961
  have hv_1022 : hR S_986 902 h = (some q_41) := by rw [eS_987]; exact hv_962
  have hv_1023 : hR S_986 903 h = (some q_126) := by rw [eS_987]; exact hv_963
  have hv_1024 : hR S_986 904 h = (some q_161) := by rw [eS_987]; exact hv_964
  have hv_1025 : hR S_986 905 h = (some q_183) := by rw [eS_987]; exact hv_965
  have hv_1026 : hR S_986 906 h = (some q_224) := by rw [eS_987]; exact hv_966
  have hv_1027 : hR S_986 907 h = (some q_266) := by rw [eS_987]; exact hv_967
  have hv_1028 : hR S_986 908 h = (some q_295) := by rw [eS_987]; exact hv_968
  have hv_1029 : hR S_986 909 h = (some q_328) := by rw [eS_987]; exact hv_969
  have hv_1030 : hR S_986 910 h = (some q_425) := by rw [eS_987]; exact hv_970
  have hv_1031 : hR S_986 911 h = (some q_524) := by rw [eS_987]; exact hv_971
  have hv_1032 : hR S_986 912 h = (some q_565) := by rw [eS_987]; exact hv_972
  have hv_1033 : hR S_986 917 h = (some q_610) := by rw [eS_987]; exact hv_973
  have hf_1034 : Fm (fun _ _ => False) (fun f9 b9 => b9 = h) (fun _ => False) S S_986 := by rw [eS_987]; exact hf_988
  have hN_1035 : NL S L_980 S_986 := by rw [eS_987]; exact (NL.tR (S := S_929) hN_979)
  have hG_1036 : Gs h gs_984 S_986 := by rw [eS_987]; exact (Gs.tR (S := S_929) hG_983)
  have hE_1037 : ELs S_986 q_161 [q_661, q_784, q_914] := by rw [eS_987]; exact (show ELs (tR S_929 q_161 2 (some q_914)) q_161 [q_661, q_784, q_914] from ELs.snoc hE_977 rfl)
  refine j_iinc (q := 0) (v := 3) (lv' := [(2, .int 3), (0, .ref h), (1, .ref s0)]) C dX9_init_160 rfl (by decide) (by rw [hn9]; decide) rfl ?_
  refine j_goto (tgt := 138) C dX9_init_163 (by decide) ?_
  refine j_iload_n C dX9_init_138 rfl 0 rfl ?_
  refine j_aload_n C dX9_init_139 rfl 1 rfl ?_
  refine j_getr (f := 904) (v := q_161) C flX9_34 dX9_init_140 hm_989 hk_990 (by decide) rfl hv_1024 ?_
  refine j_alen (v := 16) C dX9_init_143 hm_991 hk_992 (by decide) (by decide) (len_of (n := 16) hn_993 (by decide)) ?_
  show J _ _ _ _ _ 144 _
  refine j_ic_ge (tgt := 166) C dX9_init_144 (by decide) (fun c9 => absurd c9 (by decide)) (fun c9 => ?_)
  refine j_aload_n C dX9_init_147 rfl 1 rfl ?_
  refine j_getr (f := 904) (v := q_161) C flX9_34 dX9_init_148 hm_989 hk_990 (by decide) rfl hv_1024 ?_
  refine j_iload_n C dX9_init_151 rfl 0 rfl ?_
  refine j_new (N := 4) C (ci := 10) rfl rfl klX9_32 knX10 kiX10 (M.cells (by decide)) (M.slots (by decide)) dX9_init_152 (fun q_1038 hq_1039 => ?_)
  have hz_1040 : q_1038 ∉ hL S := fun h9 => hq_1039 (hf_1034.mem h9)
  have gn_1041 : ∀ g9 ∈ gs_984, ∀ p9 ∈ (gT g9.1).2.2, g9.2.getD p9.2.1 0 ≠ q_1038 := Gs.ne hG_1036 hq_1039
  refine j_dup C dX9_init_155 rfl ?_
  have hf_1042 : Fm (fun _ _ => False) (fun f9 b9 => b9 = h) (fun _ => False) S (nO S_986 q_1038 10) := (hf_1034.nO _ hq_1039)
  refine j_callI C [] [.ref q_1038, .int 3, .ref q_161] mlX9_38 mcX10_init (c_X10_init (nO S_986 q_1038 10) q_1038 mem_new (kd_nO' (k := 10))) (M.rm (by decide) (by decide) (Nat.le_of_ble_eq_true rfl) (Nat.le_of_ble_eq_true rfl)) rfl rfl (Nat.le_of_ble_eq_true rfl) dX9_init_156 (fun r_1052 S_1053 hp_1054 => ?_)
  obtain ⟨rfl, hf_1055, e_1044, e_1045, q_1043, e_1046, e_1047, e_1048, e_1049, e_1050, hNl_1051⟩ := hp_1054
  refine J.eq (st' := [.ref q_1038, .int 3, .ref q_161]) rfl rfl rfl ?_
  have hz_1056 : ∀ j, aI S_1053 q_161 j = 0 := fun j9 => (hf_1055.ai (mem_old hm_991) (fun h9 => h9) j9).trans (hz_994 j9)
  have hz_1057 : ∀ j, aI S_1053 q_266 j = 0 := fun j9 => (hf_1055.ai (mem_old hm_995) (fun h9 => h9) j9).trans (hz_998 j9)
  have hz_1058 : ∀ j, aI S_1053 q_295 j = 0 := fun j9 => (hf_1055.ai (mem_old hm_999) (fun h9 => h9) j9).trans (hz_1002 j9)
  have hz_1059 : ∀ j, aI S_1053 q_524 j = 0 := fun j9 => (hf_1055.ai (mem_old hm_1003) (fun h9 => h9) j9).trans (hz_1006 j9)
  have hz_1060 : ∀ j, aI S_1053 q_565 j = 0 := fun j9 => (hf_1055.ai (mem_old hm_1007) (fun h9 => h9) j9).trans (hz_1010 j9)
  have hz_1061 : ∀ j, aI S_1053 q_610 j = 0 := fun j9 => (hf_1055.ai (mem_old hm_1011) (fun h9 => h9) j9).trans (hz_1014 j9)
  have hm_1062 : h ∈ hL S_1053 := hf_1055.mem (mem_old hm_989)
  have hk_1063 : Kd S_1053 h 9 := hf_1055.kd (mem_old hm_989) (kd_nO (k := 10) hq_1039 hm_989 hk_990)
  have hm_1064 : q_1038 ∈ hL S_1053 := hf_1055.mem mem_new
  have hk_1065 : Kd S_1053 q_1038 10 := hf_1055.kd mem_new (kd_nO' (k := 10))
  have hm_1066 : q_161 ∈ hL S_1053 := hf_1055.mem (mem_old hm_991)
  have hk_1067 : Kd S_1053 q_161 20 := hf_1055.kd (mem_old hm_991) (kd_nO (k := 10) hq_1039 hm_991 hk_992)
  have hn_1068 : Ln S_1053 q_161 16 := hf_1055.ln (mem_old hm_991) hn_993
  have hm_1069 : q_266 ∈ hL S_1053 := hf_1055.mem (mem_old hm_995)
  have hk_1070 : Kd S_1053 q_266 13 := hf_1055.kd (mem_old hm_995) (kd_nO (k := 10) hq_1039 hm_995 hk_996)
  have hn_1071 : Ln S_1053 q_266 24000 := hf_1055.ln (mem_old hm_995) hn_997
  have hm_1072 : q_295 ∈ hL S_1053 := hf_1055.mem (mem_old hm_999)
  have hk_1073 : Kd S_1053 q_295 14 := hf_1055.kd (mem_old hm_999) (kd_nO (k := 10) hq_1039 hm_999 hk_1000)
  have hn_1074 : Ln S_1053 q_295 16 := hf_1055.ln (mem_old hm_999) hn_1001
  have hm_1075 : q_524 ∈ hL S_1053 := hf_1055.mem (mem_old hm_1003)
  have hk_1076 : Kd S_1053 q_524 18 := hf_1055.kd (mem_old hm_1003) (kd_nO (k := 10) hq_1039 hm_1003 hk_1004)
  have hn_1077 : Ln S_1053 q_524 3 := hf_1055.ln (mem_old hm_1003) hn_1005
  have hm_1078 : q_565 ∈ hL S_1053 := hf_1055.mem (mem_old hm_1007)
  have hk_1079 : Kd S_1053 q_565 19 := hf_1055.kd (mem_old hm_1007) (kd_nO (k := 10) hq_1039 hm_1007 hk_1008)
  have hn_1080 : Ln S_1053 q_565 4 := hf_1055.ln (mem_old hm_1007) hn_1009
  have hm_1081 : q_610 ∈ hL S_1053 := hf_1055.mem (mem_old hm_1011)
  have hk_1082 : Kd S_1053 q_610 14 := hf_1055.kd (mem_old hm_1011) (kd_nO (k := 10) hq_1039 hm_1011 hk_1012)
  have hn_1083 : Ln S_1053 q_610 12 := hf_1055.ln (mem_old hm_1011) hn_1013
  have hv_1084 : hR S_1053 900 h = (some s0) := hf_1055.fr (mem_old hm_989) (fun q9 => (fun e9 => absurd (((kd_nO (k := 10) hq_1039 hm_989 hk_990)).symm.trans ((congrArg (hK _) e9).trans (kd_nO' (k := 10)))) (by decide)) q9) (rd_nOR (k := 10) hq_1039 hm_989 hv_1020)
  have hv_1085 : hR S_1053 901 h = (some q_1) := hf_1055.fr (mem_old hm_989) (fun q9 => (fun e9 => absurd (((kd_nO (k := 10) hq_1039 hm_989 hk_990)).symm.trans ((congrArg (hK _) e9).trans (kd_nO' (k := 10)))) (by decide)) q9) (rd_nOR (k := 10) hq_1039 hm_989 hv_1021)
  have hv_1086 : hR S_1053 902 h = (some q_41) := hf_1055.fr (mem_old hm_989) (fun q9 => (fun e9 => absurd (((kd_nO (k := 10) hq_1039 hm_989 hk_990)).symm.trans ((congrArg (hK _) e9).trans (kd_nO' (k := 10)))) (by decide)) q9) (rd_nOR (k := 10) hq_1039 hm_989 hv_1022)
  have hv_1087 : hR S_1053 903 h = (some q_126) := hf_1055.fr (mem_old hm_989) (fun q9 => (fun e9 => absurd (((kd_nO (k := 10) hq_1039 hm_989 hk_990)).symm.trans ((congrArg (hK _) e9).trans (kd_nO' (k := 10)))) (by decide)) q9) (rd_nOR (k := 10) hq_1039 hm_989 hv_1023)
  have hv_1088 : hR S_1053 904 h = (some q_161) := hf_1055.fr (mem_old hm_989) (fun q9 => (fun e9 => absurd (((kd_nO (k := 10) hq_1039 hm_989 hk_990)).symm.trans ((congrArg (hK _) e9).trans (kd_nO' (k := 10)))) (by decide)) q9) (rd_nOR (k := 10) hq_1039 hm_989 hv_1024)
  have hv_1089 : hR S_1053 905 h = (some q_183) := hf_1055.fr (mem_old hm_989) (fun q9 => (fun e9 => absurd (((kd_nO (k := 10) hq_1039 hm_989 hk_990)).symm.trans ((congrArg (hK _) e9).trans (kd_nO' (k := 10)))) (by decide)) q9) (rd_nOR (k := 10) hq_1039 hm_989 hv_1025)
  have hv_1090 : hR S_1053 906 h = (some q_224) := hf_1055.fr (mem_old hm_989) (fun q9 => (fun e9 => absurd (((kd_nO (k := 10) hq_1039 hm_989 hk_990)).symm.trans ((congrArg (hK _) e9).trans (kd_nO' (k := 10)))) (by decide)) q9) (rd_nOR (k := 10) hq_1039 hm_989 hv_1026)
  have hv_1091 : hR S_1053 907 h = (some q_266) := hf_1055.fr (mem_old hm_989) (fun q9 => (fun e9 => absurd (((kd_nO (k := 10) hq_1039 hm_989 hk_990)).symm.trans ((congrArg (hK _) e9).trans (kd_nO' (k := 10)))) (by decide)) q9) (rd_nOR (k := 10) hq_1039 hm_989 hv_1027)
  have hv_1092 : hR S_1053 908 h = (some q_295) := hf_1055.fr (mem_old hm_989) (fun q9 => (fun e9 => absurd (((kd_nO (k := 10) hq_1039 hm_989 hk_990)).symm.trans ((congrArg (hK _) e9).trans (kd_nO' (k := 10)))) (by decide)) q9) (rd_nOR (k := 10) hq_1039 hm_989 hv_1028)
  have hv_1093 : hR S_1053 909 h = (some q_328) := hf_1055.fr (mem_old hm_989) (fun q9 => (fun e9 => absurd (((kd_nO (k := 10) hq_1039 hm_989 hk_990)).symm.trans ((congrArg (hK _) e9).trans (kd_nO' (k := 10)))) (by decide)) q9) (rd_nOR (k := 10) hq_1039 hm_989 hv_1029)
  have hv_1094 : hR S_1053 910 h = (some q_425) := hf_1055.fr (mem_old hm_989) (fun q9 => (fun e9 => absurd (((kd_nO (k := 10) hq_1039 hm_989 hk_990)).symm.trans ((congrArg (hK _) e9).trans (kd_nO' (k := 10)))) (by decide)) q9) (rd_nOR (k := 10) hq_1039 hm_989 hv_1030)
  have hv_1095 : hR S_1053 911 h = (some q_524) := hf_1055.fr (mem_old hm_989) (fun q9 => (fun e9 => absurd (((kd_nO (k := 10) hq_1039 hm_989 hk_990)).symm.trans ((congrArg (hK _) e9).trans (kd_nO' (k := 10)))) (by decide)) q9) (rd_nOR (k := 10) hq_1039 hm_989 hv_1031)
  have hv_1096 : hR S_1053 912 h = (some q_565) := hf_1055.fr (mem_old hm_989) (fun q9 => (fun e9 => absurd (((kd_nO (k := 10) hq_1039 hm_989 hk_990)).symm.trans ((congrArg (hK _) e9).trans (kd_nO' (k := 10)))) (by decide)) q9) (rd_nOR (k := 10) hq_1039 hm_989 hv_1032)
  have hv_1097 : hR S_1053 917 h = (some q_610) := hf_1055.fr (mem_old hm_989) (fun q9 => (fun e9 => absurd (((kd_nO (k := 10) hq_1039 hm_989 hk_990)).symm.trans ((congrArg (hK _) e9).trans (kd_nO' (k := 10)))) (by decide)) q9) (rd_nOR (k := 10) hq_1039 hm_989 hv_1033)
  have hf_1098 : Fm (fun _ _ => False) (fun f9 b9 => b9 = h) (fun _ => False) S S_1053 := hf_1042.then hf_1055 (fun a9 ha9 => ⟨(fun f9 h9 => (fun h9 => h9.elim (fun h8 => absurd (h8.2 ▸ ha9) hz_1040) (fun h8 => absurd (h8.2 ▸ ha9) hz_1040)) h9), (fun f9 h9 => (fun h8 => absurd (h8 ▸ ha9) hz_1040) h9), (fun h9 => h9.elim)⟩)
  have hN_1099 : NL S (L_980 ++ [q_1038]) S_1053 := NL.mono (show NL S (L_980 ++ [q_1038]) (nO S_986 q_1038 10) from NL.nO hN_1035 hq_1039 hz_1040) (fun a9 h9 => hf_1055.mem h9)
  have hG_1100 : Gs h gs_984 S_1053 := Gs.fm (show Gs h gs_984 (nO S_986 q_1038 10) from Gs.nO hG_1036 hq_1039) hf_1055 (fun g9 hg9 p9 hp9 => gn_1041 g9 hg9 p9 hp9)
  have hE_1101 : ELs S_1053 q_161 [q_661, q_784, q_914] := ELs.fm (ELs.nO (S := S_986) hE_1037) hf_1055 (mem_old hm_991) (fun h9 => h9)
  have hz_1102 : q_1043 ∉ hL S := fun h9 => e_1046 (hf_1042.mem h9)
  have hN_1103 : NL S ((L_980 ++ [q_1038]) ++ [q_1043]) S_1053 := NL.app (show NL S (L_980 ++ [q_1038]) (nO S_986 q_1038 10) from NL.nO hN_1035 hq_1039 hz_1040) hNl_1051 (fun a9 h9 => hf_1055.mem h9) (fun a9 h9 => hf_1042.mem h9)
  obtain ⟨L_1104, eL_1105⟩ : ∃ L9 : List Nat, L9 = ((L_980 ++ [q_1038]) ++ [q_1043]) := ⟨_, rfl⟩
  rw [← eL_1105] at hN_1103
  have hGt_1106 : Gt 1 [q_1038, q_1043] S_1053 := ⟨fun i9 k9 h9 => (match i9, h9 with | 0, h9 => (by have e9 : (10 : Nat) = k9 := Option.some.inj h9; subst e9; exact ⟨hm_1064, hk_1065⟩) | 1, h9 => (by have e9 : (15 : Nat) = k9 := Option.some.inj h9; subst e9; exact ⟨e_1047, e_1048⟩) | i9 + 2, h9 => absurd h9 (by simp [gT])), (List.forall_mem_cons.mpr ⟨e_1049, (fun _ h9 => absurd h9 List.not_mem_nil)⟩), (List.forall_mem_cons.mpr ⟨e_1050, (fun _ h9 => absurd h9 List.not_mem_nil)⟩), (fun _ h9 => absurd h9 List.not_mem_nil)⟩
  have hG_1107 : Gs h (gs_984 ++ [(1, [q_1038, q_1043])]) S_1053 := Gs.snoc hG_1100 (by decide) hGt_1106 (List.forall_mem_cons.mpr ⟨(own_ne hz_1040 hm0_9), (fun _ h9 => absurd h9 List.not_mem_nil)⟩)
  obtain ⟨gs_1108, eG_1109⟩ : ∃ G9 : List (Nat × List Nat), G9 = gs_984 ++ [(1, [q_1038, q_1043])] := ⟨_, rfl⟩
  rw [← eG_1109] at hG_1107
  refine j_aast (j := 3) (ci := 10) C 20  (by decide) rfl dX9_init_159 hm_1066 hk_1067 (inr_of (n := 16) hn_1068 (vp_lit (by decide))) (by decide) hm_1064 hk_1065 rfl ?_
  have hf_1112 : Fm (fun _ _ => False) (fun f9 b9 => b9 = h) (fun _ => False) S (tR S_1053 q_161 3 (some q_1038)) := (hf_1098.tR _ _ (fun h9 => absurd h9 hz_164))
  obtain ⟨S_1110, eS_1111⟩ : ∃ S9 : Hp, S9 = (tR S_1053 q_161 3 (some q_1038)) := ⟨_, rfl⟩
  refine J.eq (S' := S_1110) eS_1111.symm rfl rfl ?_
  have hm_1113 : h ∈ hL S_1110 := by rw [eS_1111]; exact hm_1062
  have hk_1114 : Kd S_1110 h 9 := by rw [eS_1111]; exact hk_1063
  have hm_1115 : q_1038 ∈ hL S_1110 := by rw [eS_1111]; exact hm_1064
  have hk_1116 : Kd S_1110 q_1038 10 := by rw [eS_1111]; exact hk_1065
  have hm_1117 : q_161 ∈ hL S_1110 := by rw [eS_1111]; exact hm_1066
  have hk_1118 : Kd S_1110 q_161 20 := by rw [eS_1111]; exact hk_1067
  have hn_1119 : Ln S_1110 q_161 16 := by rw [eS_1111]; exact hn_1068
  have hz_1120 : ∀ j, aI S_1110 q_161 j = 0 := by rw [eS_1111]; exact hz_1056
  have hm_1121 : q_266 ∈ hL S_1110 := by rw [eS_1111]; exact hm_1069
  have hk_1122 : Kd S_1110 q_266 13 := by rw [eS_1111]; exact hk_1070
  have hn_1123 : Ln S_1110 q_266 24000 := by rw [eS_1111]; exact hn_1071
  have hz_1124 : ∀ j, aI S_1110 q_266 j = 0 := by rw [eS_1111]; exact hz_1057
  have hm_1125 : q_295 ∈ hL S_1110 := by rw [eS_1111]; exact hm_1072
  have hk_1126 : Kd S_1110 q_295 14 := by rw [eS_1111]; exact hk_1073
  have hn_1127 : Ln S_1110 q_295 16 := by rw [eS_1111]; exact hn_1074
  have hz_1128 : ∀ j, aI S_1110 q_295 j = 0 := by rw [eS_1111]; exact hz_1058
  have hm_1129 : q_524 ∈ hL S_1110 := by rw [eS_1111]; exact hm_1075
  have hk_1130 : Kd S_1110 q_524 18 := by rw [eS_1111]; exact hk_1076
  have hn_1131 : Ln S_1110 q_524 3 := by rw [eS_1111]; exact hn_1077
  have hz_1132 : ∀ j, aI S_1110 q_524 j = 0 := by rw [eS_1111]; exact hz_1059
  have hm_1133 : q_565 ∈ hL S_1110 := by rw [eS_1111]; exact hm_1078
  have hk_1134 : Kd S_1110 q_565 19 := by rw [eS_1111]; exact hk_1079
  have hn_1135 : Ln S_1110 q_565 4 := by rw [eS_1111]; exact hn_1080
  have hz_1136 : ∀ j, aI S_1110 q_565 j = 0 := by rw [eS_1111]; exact hz_1060
  have hm_1137 : q_610 ∈ hL S_1110 := by rw [eS_1111]; exact hm_1081
  have hk_1138 : Kd S_1110 q_610 14 := by rw [eS_1111]; exact hk_1082
  have hn_1139 : Ln S_1110 q_610 12 := by rw [eS_1111]; exact hn_1083
  have hz_1140 : ∀ j, aI S_1110 q_610 j = 0 := by rw [eS_1111]; exact hz_1061
  have hv_1141 : hI S_1110 1000 q_1038 = 1 := by rw [eS_1111]; exact e_1044
  have hv_1142 : hI S_1110 1001 q_1038 = 1 := by rw [eS_1111]; exact e_1045
  have hv_1143 : hR S_1110 1003 q_1038 = (some q_1043) := by rw [eS_1111]; exact e_1050
  have hv_1144 : hR S_1110 900 h = (some s0) := by rw [eS_1111]; exact hv_1084
  have hv_1145 : hR S_1110 901 h = (some q_1) := by rw [eS_1111]; exact hv_1085
  have hv_1146 : hR S_1110 902 h = (some q_41) := by rw [eS_1111]; exact hv_1086
  have hv_1147 : hR S_1110 903 h = (some q_126) := by rw [eS_1111]; exact hv_1087
  have hv_1148 : hR S_1110 904 h = (some q_161) := by rw [eS_1111]; exact hv_1088
  have hv_1149 : hR S_1110 905 h = (some q_183) := by rw [eS_1111]; exact hv_1089
  have hv_1150 : hR S_1110 906 h = (some q_224) := by rw [eS_1111]; exact hv_1090
  have hv_1151 : hR S_1110 907 h = (some q_266) := by rw [eS_1111]; exact hv_1091
  have hv_1152 : hR S_1110 908 h = (some q_295) := by rw [eS_1111]; exact hv_1092
  have hv_1153 : hR S_1110 909 h = (some q_328) := by rw [eS_1111]; exact hv_1093
  have hv_1154 : hR S_1110 910 h = (some q_425) := by rw [eS_1111]; exact hv_1094
  have hv_1155 : hR S_1110 911 h = (some q_524) := by rw [eS_1111]; exact hv_1095
  have hv_1156 : hR S_1110 912 h = (some q_565) := by rw [eS_1111]; exact hv_1096
  have hv_1157 : hR S_1110 917 h = (some q_610) := by rw [eS_1111]; exact hv_1097
  have hf_1158 : Fm (fun _ _ => False) (fun f9 b9 => b9 = h) (fun _ => False) S S_1110 := by rw [eS_1111]; exact hf_1112
  have hN_1159 : NL S L_1104 S_1110 := by rw [eS_1111]; exact (NL.tR (S := S_1053) hN_1103)
  have hG_1160 : Gs h gs_1108 S_1110 := by rw [eS_1111]; exact (Gs.tR (S := S_1053) hG_1107)
  have hE_1161 : ELs S_1110 q_161 [q_661, q_784, q_914, q_1038] := by rw [eS_1111]; exact (show ELs (tR S_1053 q_161 3 (some q_1038)) q_161 [q_661, q_784, q_914, q_1038] from ELs.snoc hE_1101 rfl)
  show J _ _ _ _ _ 160 _
  refine j_iinc (q := 0) (v := 4) (lv' := [(2, .int 4), (0, .ref h), (1, .ref s0)]) C dX9_init_160 rfl (by decide) (by rw [hn9]; decide) rfl ?_
  refine j_goto (tgt := 138) C dX9_init_163 (by decide) ?_
  refine j_iload_n C dX9_init_138 rfl 0 rfl ?_
  refine j_aload_n C dX9_init_139 rfl 1 rfl ?_
  refine j_getr (f := 904) (v := q_161) C flX9_34 dX9_init_140 hm_1113 hk_1114 (by decide) rfl hv_1148 ?_
  refine j_alen (v := 16) C dX9_init_143 hm_1117 hk_1118 (by decide) (by decide) (len_of (n := 16) hn_1119 (by decide)) ?_
  refine j_ic_ge (tgt := 166) C dX9_init_144 (by decide) (fun c9 => absurd c9 (by decide)) (fun c9 => ?_)
  refine j_aload_n C dX9_init_147 rfl 1 rfl ?_
  show J _ _ _ _ _ 148 _
  refine j_getr (f := 904) (v := q_161) C flX9_34 dX9_init_148 hm_1113 hk_1114 (by decide) rfl hv_1148 ?_
  refine j_iload_n C dX9_init_151 rfl 0 rfl ?_
  refine j_new (N := 4) C (ci := 10) rfl rfl klX9_32 knX10 kiX10 (M.cells (by decide)) (M.slots (by decide)) dX9_init_152 (fun q_1162 hq_1163 => ?_)
  have hz_1164 : q_1162 ∉ hL S := fun h9 => hq_1163 (hf_1158.mem h9)
  have gn_1165 : ∀ g9 ∈ gs_1108, ∀ p9 ∈ (gT g9.1).2.2, g9.2.getD p9.2.1 0 ≠ q_1162 := Gs.ne hG_1160 hq_1163
  refine j_dup C dX9_init_155 rfl ?_
  have hf_1166 : Fm (fun _ _ => False) (fun f9 b9 => b9 = h) (fun _ => False) S (nO S_1110 q_1162 10) := (hf_1158.nO _ hq_1163)
  refine j_callI C [] [.ref q_1162, .int 4, .ref q_161] mlX9_38 mcX10_init (c_X10_init (nO S_1110 q_1162 10) q_1162 mem_new (kd_nO' (k := 10))) (M.rm (by decide) (by decide) (Nat.le_of_ble_eq_true rfl) (Nat.le_of_ble_eq_true rfl)) rfl rfl (Nat.le_of_ble_eq_true rfl) dX9_init_156 (fun r_1176 S_1177 hp_1178 => ?_)
  obtain ⟨rfl, hf_1179, e_1168, e_1169, q_1167, e_1170, e_1171, e_1172, e_1173, e_1174, hNl_1175⟩ := hp_1178
  refine J.eq (st' := [.ref q_1162, .int 4, .ref q_161]) rfl rfl rfl ?_
  have hz_1180 : ∀ j, aI S_1177 q_161 j = 0 := fun j9 => (hf_1179.ai (mem_old hm_1117) (fun h9 => h9) j9).trans (hz_1120 j9)
  have hz_1181 : ∀ j, aI S_1177 q_266 j = 0 := fun j9 => (hf_1179.ai (mem_old hm_1121) (fun h9 => h9) j9).trans (hz_1124 j9)
  have hz_1182 : ∀ j, aI S_1177 q_295 j = 0 := fun j9 => (hf_1179.ai (mem_old hm_1125) (fun h9 => h9) j9).trans (hz_1128 j9)
  have hz_1183 : ∀ j, aI S_1177 q_524 j = 0 := fun j9 => (hf_1179.ai (mem_old hm_1129) (fun h9 => h9) j9).trans (hz_1132 j9)
  have hz_1184 : ∀ j, aI S_1177 q_565 j = 0 := fun j9 => (hf_1179.ai (mem_old hm_1133) (fun h9 => h9) j9).trans (hz_1136 j9)
  have hz_1185 : ∀ j, aI S_1177 q_610 j = 0 := fun j9 => (hf_1179.ai (mem_old hm_1137) (fun h9 => h9) j9).trans (hz_1140 j9)
  have hm_1186 : h ∈ hL S_1177 := hf_1179.mem (mem_old hm_1113)
  have hk_1187 : Kd S_1177 h 9 := hf_1179.kd (mem_old hm_1113) (kd_nO (k := 10) hq_1163 hm_1113 hk_1114)
  have hm_1188 : q_1162 ∈ hL S_1177 := hf_1179.mem mem_new
  have hk_1189 : Kd S_1177 q_1162 10 := hf_1179.kd mem_new (kd_nO' (k := 10))
  have hm_1190 : q_161 ∈ hL S_1177 := hf_1179.mem (mem_old hm_1117)
  have hk_1191 : Kd S_1177 q_161 20 := hf_1179.kd (mem_old hm_1117) (kd_nO (k := 10) hq_1163 hm_1117 hk_1118)
  have hn_1192 : Ln S_1177 q_161 16 := hf_1179.ln (mem_old hm_1117) hn_1119
  have hm_1193 : q_266 ∈ hL S_1177 := hf_1179.mem (mem_old hm_1121)
  have hk_1194 : Kd S_1177 q_266 13 := hf_1179.kd (mem_old hm_1121) (kd_nO (k := 10) hq_1163 hm_1121 hk_1122)
  have hn_1195 : Ln S_1177 q_266 24000 := hf_1179.ln (mem_old hm_1121) hn_1123
  have hm_1196 : q_295 ∈ hL S_1177 := hf_1179.mem (mem_old hm_1125)
  have hk_1197 : Kd S_1177 q_295 14 := hf_1179.kd (mem_old hm_1125) (kd_nO (k := 10) hq_1163 hm_1125 hk_1126)
  have hn_1198 : Ln S_1177 q_295 16 := hf_1179.ln (mem_old hm_1125) hn_1127
  have hm_1199 : q_524 ∈ hL S_1177 := hf_1179.mem (mem_old hm_1129)
  have hk_1200 : Kd S_1177 q_524 18 := hf_1179.kd (mem_old hm_1129) (kd_nO (k := 10) hq_1163 hm_1129 hk_1130)
  have hn_1201 : Ln S_1177 q_524 3 := hf_1179.ln (mem_old hm_1129) hn_1131
  have hm_1202 : q_565 ∈ hL S_1177 := hf_1179.mem (mem_old hm_1133)
  have hk_1203 : Kd S_1177 q_565 19 := hf_1179.kd (mem_old hm_1133) (kd_nO (k := 10) hq_1163 hm_1133 hk_1134)
  have hn_1204 : Ln S_1177 q_565 4 := hf_1179.ln (mem_old hm_1133) hn_1135
  have hm_1205 : q_610 ∈ hL S_1177 := hf_1179.mem (mem_old hm_1137)
  have hk_1206 : Kd S_1177 q_610 14 := hf_1179.kd (mem_old hm_1137) (kd_nO (k := 10) hq_1163 hm_1137 hk_1138)
  have hn_1207 : Ln S_1177 q_610 12 := hf_1179.ln (mem_old hm_1137) hn_1139
  have hv_1208 : hR S_1177 900 h = (some s0) := hf_1179.fr (mem_old hm_1113) (fun q9 => (fun e9 => absurd (((kd_nO (k := 10) hq_1163 hm_1113 hk_1114)).symm.trans ((congrArg (hK _) e9).trans (kd_nO' (k := 10)))) (by decide)) q9) (rd_nOR (k := 10) hq_1163 hm_1113 hv_1144)
  have hv_1209 : hR S_1177 901 h = (some q_1) := hf_1179.fr (mem_old hm_1113) (fun q9 => (fun e9 => absurd (((kd_nO (k := 10) hq_1163 hm_1113 hk_1114)).symm.trans ((congrArg (hK _) e9).trans (kd_nO' (k := 10)))) (by decide)) q9) (rd_nOR (k := 10) hq_1163 hm_1113 hv_1145)
  have hv_1210 : hR S_1177 902 h = (some q_41) := hf_1179.fr (mem_old hm_1113) (fun q9 => (fun e9 => absurd (((kd_nO (k := 10) hq_1163 hm_1113 hk_1114)).symm.trans ((congrArg (hK _) e9).trans (kd_nO' (k := 10)))) (by decide)) q9) (rd_nOR (k := 10) hq_1163 hm_1113 hv_1146)
  have hv_1211 : hR S_1177 903 h = (some q_126) := hf_1179.fr (mem_old hm_1113) (fun q9 => (fun e9 => absurd (((kd_nO (k := 10) hq_1163 hm_1113 hk_1114)).symm.trans ((congrArg (hK _) e9).trans (kd_nO' (k := 10)))) (by decide)) q9) (rd_nOR (k := 10) hq_1163 hm_1113 hv_1147)
  have hv_1212 : hR S_1177 904 h = (some q_161) := hf_1179.fr (mem_old hm_1113) (fun q9 => (fun e9 => absurd (((kd_nO (k := 10) hq_1163 hm_1113 hk_1114)).symm.trans ((congrArg (hK _) e9).trans (kd_nO' (k := 10)))) (by decide)) q9) (rd_nOR (k := 10) hq_1163 hm_1113 hv_1148)
  have hv_1213 : hR S_1177 905 h = (some q_183) := hf_1179.fr (mem_old hm_1113) (fun q9 => (fun e9 => absurd (((kd_nO (k := 10) hq_1163 hm_1113 hk_1114)).symm.trans ((congrArg (hK _) e9).trans (kd_nO' (k := 10)))) (by decide)) q9) (rd_nOR (k := 10) hq_1163 hm_1113 hv_1149)
  have hv_1214 : hR S_1177 906 h = (some q_224) := hf_1179.fr (mem_old hm_1113) (fun q9 => (fun e9 => absurd (((kd_nO (k := 10) hq_1163 hm_1113 hk_1114)).symm.trans ((congrArg (hK _) e9).trans (kd_nO' (k := 10)))) (by decide)) q9) (rd_nOR (k := 10) hq_1163 hm_1113 hv_1150)
  have hv_1215 : hR S_1177 907 h = (some q_266) := hf_1179.fr (mem_old hm_1113) (fun q9 => (fun e9 => absurd (((kd_nO (k := 10) hq_1163 hm_1113 hk_1114)).symm.trans ((congrArg (hK _) e9).trans (kd_nO' (k := 10)))) (by decide)) q9) (rd_nOR (k := 10) hq_1163 hm_1113 hv_1151)
  have hv_1216 : hR S_1177 908 h = (some q_295) := hf_1179.fr (mem_old hm_1113) (fun q9 => (fun e9 => absurd (((kd_nO (k := 10) hq_1163 hm_1113 hk_1114)).symm.trans ((congrArg (hK _) e9).trans (kd_nO' (k := 10)))) (by decide)) q9) (rd_nOR (k := 10) hq_1163 hm_1113 hv_1152)
  have hv_1217 : hR S_1177 909 h = (some q_328) := hf_1179.fr (mem_old hm_1113) (fun q9 => (fun e9 => absurd (((kd_nO (k := 10) hq_1163 hm_1113 hk_1114)).symm.trans ((congrArg (hK _) e9).trans (kd_nO' (k := 10)))) (by decide)) q9) (rd_nOR (k := 10) hq_1163 hm_1113 hv_1153)
  have hv_1218 : hR S_1177 910 h = (some q_425) := hf_1179.fr (mem_old hm_1113) (fun q9 => (fun e9 => absurd (((kd_nO (k := 10) hq_1163 hm_1113 hk_1114)).symm.trans ((congrArg (hK _) e9).trans (kd_nO' (k := 10)))) (by decide)) q9) (rd_nOR (k := 10) hq_1163 hm_1113 hv_1154)
  have hv_1219 : hR S_1177 911 h = (some q_524) := hf_1179.fr (mem_old hm_1113) (fun q9 => (fun e9 => absurd (((kd_nO (k := 10) hq_1163 hm_1113 hk_1114)).symm.trans ((congrArg (hK _) e9).trans (kd_nO' (k := 10)))) (by decide)) q9) (rd_nOR (k := 10) hq_1163 hm_1113 hv_1155)
  have hv_1220 : hR S_1177 912 h = (some q_565) := hf_1179.fr (mem_old hm_1113) (fun q9 => (fun e9 => absurd (((kd_nO (k := 10) hq_1163 hm_1113 hk_1114)).symm.trans ((congrArg (hK _) e9).trans (kd_nO' (k := 10)))) (by decide)) q9) (rd_nOR (k := 10) hq_1163 hm_1113 hv_1156)
  have hv_1221 : hR S_1177 917 h = (some q_610) := hf_1179.fr (mem_old hm_1113) (fun q9 => (fun e9 => absurd (((kd_nO (k := 10) hq_1163 hm_1113 hk_1114)).symm.trans ((congrArg (hK _) e9).trans (kd_nO' (k := 10)))) (by decide)) q9) (rd_nOR (k := 10) hq_1163 hm_1113 hv_1157)
  have hf_1222 : Fm (fun _ _ => False) (fun f9 b9 => b9 = h) (fun _ => False) S S_1177 := hf_1166.then hf_1179 (fun a9 ha9 => ⟨(fun f9 h9 => (fun h9 => h9.elim (fun h8 => absurd (h8.2 ▸ ha9) hz_1164) (fun h8 => absurd (h8.2 ▸ ha9) hz_1164)) h9), (fun f9 h9 => (fun h8 => absurd (h8 ▸ ha9) hz_1164) h9), (fun h9 => h9.elim)⟩)
  have hN_1223 : NL S (L_1104 ++ [q_1162]) S_1177 := NL.mono (show NL S (L_1104 ++ [q_1162]) (nO S_1110 q_1162 10) from NL.nO hN_1159 hq_1163 hz_1164) (fun a9 h9 => hf_1179.mem h9)
  have hG_1224 : Gs h gs_1108 S_1177 := Gs.fm (show Gs h gs_1108 (nO S_1110 q_1162 10) from Gs.nO hG_1160 hq_1163) hf_1179 (fun g9 hg9 p9 hp9 => gn_1165 g9 hg9 p9 hp9)
  have hE_1225 : ELs S_1177 q_161 [q_661, q_784, q_914, q_1038] := ELs.fm (ELs.nO (S := S_1110) hE_1161) hf_1179 (mem_old hm_1117) (fun h9 => h9)
  have hz_1226 : q_1167 ∉ hL S := fun h9 => e_1170 (hf_1166.mem h9)
  have hN_1227 : NL S ((L_1104 ++ [q_1162]) ++ [q_1167]) S_1177 := NL.app (show NL S (L_1104 ++ [q_1162]) (nO S_1110 q_1162 10) from NL.nO hN_1159 hq_1163 hz_1164) hNl_1175 (fun a9 h9 => hf_1179.mem h9) (fun a9 h9 => hf_1166.mem h9)
  obtain ⟨L_1228, eL_1229⟩ : ∃ L9 : List Nat, L9 = ((L_1104 ++ [q_1162]) ++ [q_1167]) := ⟨_, rfl⟩
  rw [← eL_1229] at hN_1227
  have hGt_1230 : Gt 1 [q_1162, q_1167] S_1177 := ⟨fun i9 k9 h9 => (match i9, h9 with | 0, h9 => (by have e9 : (10 : Nat) = k9 := Option.some.inj h9; subst e9; exact ⟨hm_1188, hk_1189⟩) | 1, h9 => (by have e9 : (15 : Nat) = k9 := Option.some.inj h9; subst e9; exact ⟨e_1171, e_1172⟩) | i9 + 2, h9 => absurd h9 (by simp [gT])), (List.forall_mem_cons.mpr ⟨e_1173, (fun _ h9 => absurd h9 List.not_mem_nil)⟩), (List.forall_mem_cons.mpr ⟨e_1174, (fun _ h9 => absurd h9 List.not_mem_nil)⟩), (fun _ h9 => absurd h9 List.not_mem_nil)⟩
  have hG_1231 : Gs h (gs_1108 ++ [(1, [q_1162, q_1167])]) S_1177 := Gs.snoc hG_1224 (by decide) hGt_1230 (List.forall_mem_cons.mpr ⟨(own_ne hz_1164 hm0_9), (fun _ h9 => absurd h9 List.not_mem_nil)⟩)
  obtain ⟨gs_1232, eG_1233⟩ : ∃ G9 : List (Nat × List Nat), G9 = gs_1108 ++ [(1, [q_1162, q_1167])] := ⟨_, rfl⟩
  rw [← eG_1233] at hG_1231
  refine j_aast (j := 4) (ci := 10) C 20  (by decide) rfl dX9_init_159 hm_1190 hk_1191 (inr_of (n := 16) hn_1192 (vp_lit (by decide))) (by decide) hm_1188 hk_1189 rfl ?_
  have hf_1236 : Fm (fun _ _ => False) (fun f9 b9 => b9 = h) (fun _ => False) S (tR S_1177 q_161 4 (some q_1162)) := (hf_1222.tR _ _ (fun h9 => absurd h9 hz_164))
  obtain ⟨S_1234, eS_1235⟩ : ∃ S9 : Hp, S9 = (tR S_1177 q_161 4 (some q_1162)) := ⟨_, rfl⟩
  refine J.eq (S' := S_1234) eS_1235.symm rfl rfl ?_
  have hm_1237 : h ∈ hL S_1234 := by rw [eS_1235]; exact hm_1186
  have hk_1238 : Kd S_1234 h 9 := by rw [eS_1235]; exact hk_1187
  have hm_1239 : q_1162 ∈ hL S_1234 := by rw [eS_1235]; exact hm_1188
  have hk_1240 : Kd S_1234 q_1162 10 := by rw [eS_1235]; exact hk_1189
  have hm_1241 : q_161 ∈ hL S_1234 := by rw [eS_1235]; exact hm_1190
  have hk_1242 : Kd S_1234 q_161 20 := by rw [eS_1235]; exact hk_1191
  have hn_1243 : Ln S_1234 q_161 16 := by rw [eS_1235]; exact hn_1192
  have hz_1244 : ∀ j, aI S_1234 q_161 j = 0 := by rw [eS_1235]; exact hz_1180
  have hm_1245 : q_266 ∈ hL S_1234 := by rw [eS_1235]; exact hm_1193
  have hk_1246 : Kd S_1234 q_266 13 := by rw [eS_1235]; exact hk_1194
  have hn_1247 : Ln S_1234 q_266 24000 := by rw [eS_1235]; exact hn_1195
  have hz_1248 : ∀ j, aI S_1234 q_266 j = 0 := by rw [eS_1235]; exact hz_1181
  have hm_1249 : q_295 ∈ hL S_1234 := by rw [eS_1235]; exact hm_1196
  have hk_1250 : Kd S_1234 q_295 14 := by rw [eS_1235]; exact hk_1197
  have hn_1251 : Ln S_1234 q_295 16 := by rw [eS_1235]; exact hn_1198
  have hz_1252 : ∀ j, aI S_1234 q_295 j = 0 := by rw [eS_1235]; exact hz_1182
  have hm_1253 : q_524 ∈ hL S_1234 := by rw [eS_1235]; exact hm_1199
  have hk_1254 : Kd S_1234 q_524 18 := by rw [eS_1235]; exact hk_1200
  have hn_1255 : Ln S_1234 q_524 3 := by rw [eS_1235]; exact hn_1201
  have hz_1256 : ∀ j, aI S_1234 q_524 j = 0 := by rw [eS_1235]; exact hz_1183
  have hm_1257 : q_565 ∈ hL S_1234 := by rw [eS_1235]; exact hm_1202
  have hk_1258 : Kd S_1234 q_565 19 := by rw [eS_1235]; exact hk_1203
  have hn_1259 : Ln S_1234 q_565 4 := by rw [eS_1235]; exact hn_1204
  have hz_1260 : ∀ j, aI S_1234 q_565 j = 0 := by rw [eS_1235]; exact hz_1184
  have hm_1261 : q_610 ∈ hL S_1234 := by rw [eS_1235]; exact hm_1205
  have hk_1262 : Kd S_1234 q_610 14 := by rw [eS_1235]; exact hk_1206
  have hn_1263 : Ln S_1234 q_610 12 := by rw [eS_1235]; exact hn_1207
  have hz_1264 : ∀ j, aI S_1234 q_610 j = 0 := by rw [eS_1235]; exact hz_1185
  have hv_1265 : hI S_1234 1000 q_1162 = 1 := by rw [eS_1235]; exact e_1168
  have hv_1266 : hI S_1234 1001 q_1162 = 1 := by rw [eS_1235]; exact e_1169
  have hv_1267 : hR S_1234 1003 q_1162 = (some q_1167) := by rw [eS_1235]; exact e_1174
  have hv_1268 : hR S_1234 900 h = (some s0) := by rw [eS_1235]; exact hv_1208
  have hv_1269 : hR S_1234 901 h = (some q_1) := by rw [eS_1235]; exact hv_1209
  have hv_1270 : hR S_1234 902 h = (some q_41) := by rw [eS_1235]; exact hv_1210
  have hv_1271 : hR S_1234 903 h = (some q_126) := by rw [eS_1235]; exact hv_1211
  have hv_1272 : hR S_1234 904 h = (some q_161) := by rw [eS_1235]; exact hv_1212
  have hv_1273 : hR S_1234 905 h = (some q_183) := by rw [eS_1235]; exact hv_1213
  have hv_1274 : hR S_1234 906 h = (some q_224) := by rw [eS_1235]; exact hv_1214
  have hv_1275 : hR S_1234 907 h = (some q_266) := by rw [eS_1235]; exact hv_1215
  have hv_1276 : hR S_1234 908 h = (some q_295) := by rw [eS_1235]; exact hv_1216
  have hv_1277 : hR S_1234 909 h = (some q_328) := by rw [eS_1235]; exact hv_1217
  have hv_1278 : hR S_1234 910 h = (some q_425) := by rw [eS_1235]; exact hv_1218
  have hv_1279 : hR S_1234 911 h = (some q_524) := by rw [eS_1235]; exact hv_1219
  have hv_1280 : hR S_1234 912 h = (some q_565) := by rw [eS_1235]; exact hv_1220
  have hv_1281 : hR S_1234 917 h = (some q_610) := by rw [eS_1235]; exact hv_1221
  have hf_1282 : Fm (fun _ _ => False) (fun f9 b9 => b9 = h) (fun _ => False) S S_1234 := by rw [eS_1235]; exact hf_1236
  have hN_1283 : NL S L_1228 S_1234 := by rw [eS_1235]; exact (NL.tR (S := S_1177) hN_1227)
  have hG_1284 : Gs h gs_1232 S_1234 := by rw [eS_1235]; exact (Gs.tR (S := S_1177) hG_1231)
  have hE_1285 : ELs S_1234 q_161 [q_661, q_784, q_914, q_1038, q_1162] := by rw [eS_1235]; exact (show ELs (tR S_1177 q_161 4 (some q_1162)) q_161 [q_661, q_784, q_914, q_1038, q_1162] from ELs.snoc hE_1225 rfl)
  refine j_iinc (q := 0) (v := 5) (lv' := [(2, .int 5), (0, .ref h), (1, .ref s0)]) C dX9_init_160 rfl (by decide) (by rw [hn9]; decide) rfl ?_
  refine j_goto (tgt := 138) C dX9_init_163 (by decide) ?_
  show J _ _ _ _ _ 138 _
  exact x9_t2 (q_1 := q_1) (q_5 := q_5) (q_6 := q_6) (q_41 := q_41) (q_47 := q_47) (q_48 := q_48) (q_49 := q_49) (q_50 := q_50) (q_51 := q_51) (q_52 := q_52) (q_53 := q_53) (q_54 := q_54) (q_126 := q_126) (q_132 := q_132) (q_161 := q_161) (q_183 := q_183) (q_188 := q_188) (q_224 := q_224) (q_230 := q_230) (q_266 := q_266) (q_295 := q_295) (q_328 := q_328) (q_333 := q_333) (q_334 := q_334) (q_335 := q_335) (q_336 := q_336) (q_337 := q_337) (q_338 := q_338) (q_339 := q_339) (q_340 := q_340) (q_425 := q_425) (q_431 := q_431) (q_432 := q_432) (q_433 := q_433) (q_434 := q_434) (q_435 := q_435) (q_436 := q_436) (q_437 := q_437) (q_438 := q_438) (q_524 := q_524) (q_565 := q_565) (q_610 := q_610) (q_661 := q_661) (q_666 := q_666) (q_784 := q_784) (q_789 := q_789) (q_914 := q_914) (q_919 := q_919) (q_1038 := q_1038) (q_1043 := q_1043) (q_1162 := q_1162) (q_1167 := q_1167) hn9 C M hm9 hm0_9 hz_164 hz_269 hz_297 hz_527 hz_567 hz_612 hm_1237 hk_1238 hm_1241 hk_1242 hn_1243 hz_1244 hm_1245 hk_1246 hn_1247 hz_1248 hm_1249 hk_1250 hn_1251 hz_1252 hm_1253 hk_1254 hn_1255 hz_1256 hm_1257 hk_1258 hn_1259 hz_1260 hm_1261 hk_1262 hn_1263 hz_1264 hv_1268 hv_1269 hv_1270 hv_1271 hv_1272 hv_1273 hv_1274 hv_1275 hv_1276 hv_1277 hv_1278 hv_1279 hv_1280 hv_1281 (by have h9 := hN_1283; rw [eL_1229, eL_1105, eL_981, eL_911] at h9; simpa only [List.nil_append, List.cons_append, List.append_assoc] using h9) (by have h9 := hG_1284; rw [eG_1233, eG_1109, eG_985, eG_913] at h9; simpa only [List.nil_append, List.cons_append, List.append_assoc] using h9) hE_1285 hf_1282

set_option maxRecDepth 100000 in
set_option maxHeartbeats 60000000 in
theorem c_X9_init (S : Hp) (h : Nat) (hm : h ∈ hL S) (hk : hK S h = 9) (s0 : Nat) : Ct 4 yX9_init cX9_init 3 none 113 68424 [.ref h, .ref s0] S (fun r S' => r = none ∧ Fm (fun _ _ => False) (fun f9 b9 => b9 = h) (fun _ => False) S S' ∧ hR S' 900 h = some s0 ∧ ∃ l : List Nat, Wt s9K s9N s9P s9Q (fun i => (h :: l).getD i 0) S' ∧ l.length = 105 ∧ NL S l S' ∧ (∀ j, aI S' ((h :: l).getD 6 0) j = 0) ∧ (∀ j, aI S' ((h :: l).getD 9 0) j = 0) ∧ (∀ j, aI S' ((h :: l).getD 14 0) j = 0) ∧ (∀ j, aI S' ((h :: l).getD 19 0) j = 0)) := by
  refine ct_of (by decide) (Nat.le_of_ble_eq_true rfl) fun x hn9 C M hm9 => ?_
  have C : CB x RX9 cX9_init := C
  refine J.eq (lv' := [(0, .ref h), (1, .ref s0)]) rfl rfl rfl ?_
  refine j_aload_n C dX9_init_0 rfl 0 rfl ?_
  refine j_objInit C mlX9_3 nst_oi (M.fl (by decide)) dX9_init_1 ?_
  refine j_aload_n C dX9_init_4 rfl 0 rfl ?_
  refine j_new (N := 15) C (ci := 0) rfl rfl klX9_9 knX0 kiX0 (M.cells (by decide)) (M.slots (by decide)) dX9_init_5 (fun q_1 hq_2 => ?_)
  have hz_3 : q_1 ∉ hL S := hq_2
  refine j_dup C dX9_init_8 rfl ?_
  have hf_4 : Fm (fun _ _ => False) (fun f9 b9 => b9 = h) (fun _ => False) S (nO S q_1 0) := ((Fm.refl (WI := (fun _ _ => False)) (WR := (fun f9 b9 => b9 = h)) (WA := (fun _ => False))).nO _ hq_2)
  refine j_callI C [] [.ref q_1, .ref h] mlX9_11 mcX0_init (c_X0_init (nO S q_1 0) q_1 mem_new (kd_nO' (k := 0))) (M.rm (by decide) (by decide) (Nat.le_of_ble_eq_true rfl) (Nat.le_of_ble_eq_true rfl)) rfl rfl (Nat.le_of_ble_eq_true rfl) dX9_init_9 (fun r_18 S_19 hp_20 => ?_)
  obtain ⟨rfl, hf_21, q_5, q_6, e_7, e_8, e_9, e_10, e_11, e_12, e_13, e_14, e_15, e_16, hNl_17⟩ := hp_20
  refine J.eq (st' := [.ref q_1, .ref h]) rfl rfl rfl ?_
  have hm_22 : h ∈ hL S_19 := hf_21.mem (mem_old hm)
  have hk_23 : Kd S_19 h 9 := hf_21.kd (mem_old hm) (kd_nO (k := 0) hq_2 hm hk)
  have hm_24 : q_1 ∈ hL S_19 := hf_21.mem mem_new
  have hk_25 : Kd S_19 q_1 0 := hf_21.kd mem_new (kd_nO' (k := 0))
  have hv_26 : hI S_19 2 q_1 = 0 := hf_21.fi mem_new (fun h9 => h9) (rd_nOI' (k := 0))
  have hv_27 : hI S_19 3 q_1 = 0 := hf_21.fi mem_new (fun h9 => h9) (rd_nOI' (k := 0))
  have hv_28 : hI S_19 4 q_1 = 0 := hf_21.fi mem_new (fun h9 => h9) (rd_nOI' (k := 0))
  have hv_29 : hI S_19 5 q_1 = 0 := hf_21.fi mem_new (fun h9 => h9) (rd_nOI' (k := 0))
  have hf_30 : Fm (fun _ _ => False) (fun f9 b9 => b9 = h) (fun _ => False) S S_19 := hf_4.then hf_21 (fun a9 ha9 => ⟨(fun f9 h9 => h9.elim), (fun f9 h9 => (fun h8 => absurd (h8 ▸ ha9) hz_3) h9), (fun h9 => h9.elim)⟩)
  have hN_31 : NL S ([] ++ [q_1]) S_19 := NL.mono (show NL S ([] ++ [q_1]) (nO S q_1 0) from NL.nO (NL.nil : NL S [] S) hq_2 hz_3) (fun a9 h9 => hf_21.mem h9)
  have hz_32 : q_5 ∉ hL S := fun h9 => e_7 (hf_4.mem h9)
  have hz_33 : q_6 ∉ hL S := fun h9 => e_12 (hf_4.mem h9)
  have hN_34 : NL S (([] ++ [q_1]) ++ [q_5, q_6]) S_19 := NL.app (show NL S ([] ++ [q_1]) (nO S q_1 0) from NL.nO (NL.nil : NL S [] S) hq_2 hz_3) hNl_17 (fun a9 h9 => hf_21.mem h9) (fun a9 h9 => hf_4.mem h9)
  obtain ⟨L_35, eL_36⟩ : ∃ L9 : List Nat, L9 = (([] ++ [q_1]) ++ [q_5, q_6]) := ⟨_, rfl⟩
  rw [← eL_36] at hN_34
  have hGt_37 : Gt 3 [q_1, q_5, q_6] S_19 := ⟨fun i9 k9 h9 => (match i9, h9 with | 0, h9 => (by have e9 : (0 : Nat) = k9 := Option.some.inj h9; subst e9; exact ⟨hm_24, hk_25⟩) | 1, h9 => (by have e9 : (14 : Nat) = k9 := Option.some.inj h9; subst e9; exact ⟨e_8, e_9⟩) | 2, h9 => (by have e9 : (14 : Nat) = k9 := Option.some.inj h9; subst e9; exact ⟨e_13, e_14⟩) | i9 + 3, h9 => absurd h9 (by simp [gT])), (List.forall_mem_cons.mpr ⟨e_10, (List.forall_mem_cons.mpr ⟨e_15, (fun _ h9 => absurd h9 List.not_mem_nil)⟩)⟩), (List.forall_mem_cons.mpr ⟨e_11, (List.forall_mem_cons.mpr ⟨e_16, (fun _ h9 => absurd h9 List.not_mem_nil)⟩)⟩), (fun _ h9 => absurd h9 List.not_mem_nil)⟩
  have hG_38 : Gs h ([] ++ [(3, [q_1, q_5, q_6])]) S_19 := Gs.snoc (Gs.nil : Gs h [] S_19) (by decide) hGt_37 (List.forall_mem_cons.mpr ⟨(own_ne hz_3 hm), (List.forall_mem_cons.mpr ⟨(own_ne hz_3 hm), (fun _ h9 => absurd h9 List.not_mem_nil)⟩)⟩)
  obtain ⟨gs_39, eG_40⟩ : ∃ G9 : List (Nat × List Nat), G9 = [] ++ [(3, [q_1, q_5, q_6])] := ⟨_, rfl⟩
  rw [← eG_40] at hG_38
  refine j_putrF (f := 901) C hm9 flX9_12o (by decide) rfl rfl dX9_init_12 hm_22 hk_23 rfl ?_
  refine j_aload_n C dX9_init_15 rfl 0 rfl ?_
  show J _ _ _ _ _ 16 _
  have hf_43 : Fm (fun _ _ => False) (fun f9 b9 => b9 = h) (fun _ => False) S (sR S_19 901 h (some q_1)) := (hf_30.sR _ (fun _ => rfl))
  refine j_new (N := 10) C (ci := 2) rfl rfl klX9_18 knX2 kiX2 (M.cells (by decide)) (M.slots (by decide)) dX9_init_16 (fun q_41 hq_42 => ?_)
  have hz_44 : q_41 ∉ hL S := fun h9 => hq_42 (hf_43.mem h9)
  have gn_45 : ∀ g9 ∈ gs_39, ∀ p9 ∈ (gT g9.1).2.2, g9.2.getD p9.2.1 0 ≠ q_41 := Gs.ne (Gs.sR (S := S_19) hG_38) hq_42
  refine j_dup C dX9_init_19 rfl ?_
  have hf_46 : Fm (fun _ _ => False) (fun f9 b9 => b9 = h) (fun _ => False) S (nO (sR S_19 901 h (some q_1)) q_41 2) := (hf_43.nO _ hq_42)
  refine j_callI C [] [.ref q_41, .ref h] mlX9_20 mcX2_init (c_X2_init (nO (sR S_19 901 h (some q_1)) q_41 2) q_41 mem_new (kd_nO' (k := 2))) (M.rm (by decide) (by decide) (Nat.le_of_ble_eq_true rfl) (Nat.le_of_ble_eq_true rfl)) rfl rfl (Nat.le_of_ble_eq_true rfl) dX9_init_20 (fun r_97 S_98 hp_99 => ?_)
  obtain ⟨rfl, hf_100, q_47, q_48, q_49, q_50, q_51, q_52, q_53, q_54, e_55, e_56, e_57, e_58, e_59, e_60, e_61, e_62, e_63, e_64, e_65, e_66, e_67, e_68, e_69, e_70, e_71, e_72, e_73, e_74, e_75, e_76, e_77, e_78, e_79, e_80, e_81, e_82, e_83, e_84, e_85, e_86, e_87, e_88, e_89, e_90, e_91, e_92, e_93, e_94, e_95, hNl_96⟩ := hp_99
  refine J.eq (st' := [.ref q_41, .ref h]) rfl rfl rfl ?_
  have hm_101 : h ∈ hL S_98 := hf_100.mem (mem_old hm_22)
  have hk_102 : Kd S_98 h 9 := hf_100.kd (mem_old hm_22) (kd_nO (k := 2) hq_42 hm_22 hk_23)
  have hm_103 : q_41 ∈ hL S_98 := hf_100.mem mem_new
  have hk_104 : Kd S_98 q_41 2 := hf_100.kd mem_new (kd_nO' (k := 2))
  have hv_105 : hI S_98 206 q_41 = 0 := hf_100.fi mem_new (fun h9 => h9) (rd_nOI' (k := 2))
  have hv_106 : hI S_98 209 q_41 = 0 := hf_100.fi mem_new (fun h9 => h9) (rd_nOI' (k := 2))
  have hv_107 : hR S_98 901 h = (some q_1) := hf_100.fr (mem_old hm_22) (fun q9 => (fun e9 => absurd (((kd_nO (k := 2) hq_42 hm_22 hk_23)).symm.trans ((congrArg (hK _) e9).trans (kd_nO' (k := 2)))) (by decide)) q9) (rd_nOR (k := 2) hq_42 hm_22 (rd_sR (S := S_19) (g := 901) (a := h) (v := (some q_1))))
  have hf_108 : Fm (fun _ _ => False) (fun f9 b9 => b9 = h) (fun _ => False) S S_98 := hf_46.then hf_100 (fun a9 ha9 => ⟨(fun f9 h9 => h9.elim), (fun f9 h9 => (fun h8 => absurd (h8 ▸ ha9) hz_44) h9), (fun h9 => h9.elim)⟩)
  have hN_109 : NL S (L_35 ++ [q_41]) S_98 := NL.mono (show NL S (L_35 ++ [q_41]) (nO (sR S_19 901 h (some q_1)) q_41 2) from NL.nO (NL.sR (S := S_19) hN_34) hq_42 hz_44) (fun a9 h9 => hf_100.mem h9)
  have hG_110 : Gs h gs_39 S_98 := Gs.fm (show Gs h gs_39 (nO (sR S_19 901 h (some q_1)) q_41 2) from Gs.nO (Gs.sR (S := S_19) hG_38) hq_42) hf_100 (fun g9 hg9 p9 hp9 => gn_45 g9 hg9 p9 hp9)
  have hz_111 : q_47 ∉ hL S := fun h9 => e_55 (hf_46.mem h9)
  have hz_112 : q_48 ∉ hL S := fun h9 => e_59 (hf_46.mem h9)
  have hz_113 : q_49 ∉ hL S := fun h9 => e_65 (hf_46.mem h9)
  have hz_114 : q_50 ∉ hL S := fun h9 => e_70 (hf_46.mem h9)
  have hz_115 : q_51 ∉ hL S := fun h9 => e_75 (hf_46.mem h9)
  have hz_116 : q_52 ∉ hL S := fun h9 => e_81 (hf_46.mem h9)
  have hz_117 : q_53 ∉ hL S := fun h9 => e_86 (hf_46.mem h9)
  have hz_118 : q_54 ∉ hL S := fun h9 => e_91 (hf_46.mem h9)
  have hN_119 : NL S ((L_35 ++ [q_41]) ++ [q_47, q_48, q_49, q_50, q_51, q_52, q_53, q_54]) S_98 := NL.app (show NL S (L_35 ++ [q_41]) (nO (sR S_19 901 h (some q_1)) q_41 2) from NL.nO (NL.sR (S := S_19) hN_34) hq_42 hz_44) hNl_96 (fun a9 h9 => hf_100.mem h9) (fun a9 h9 => hf_46.mem h9)
  obtain ⟨L_120, eL_121⟩ : ∃ L9 : List Nat, L9 = ((L_35 ++ [q_41]) ++ [q_47, q_48, q_49, q_50, q_51, q_52, q_53, q_54]) := ⟨_, rfl⟩
  rw [← eL_121] at hN_119
  have hGt_122 : Gt 4 [q_41, q_47, q_48, q_49, q_50, q_51, q_52, q_53, q_54] S_98 := ⟨fun i9 k9 h9 => (match i9, h9 with | 0, h9 => (by have e9 : (2 : Nat) = k9 := Option.some.inj h9; subst e9; exact ⟨hm_103, hk_104⟩) | 1, h9 => (by have e9 : (8 : Nat) = k9 := Option.some.inj h9; subst e9; exact ⟨e_56, e_57⟩) | 2, h9 => (by have e9 : (14 : Nat) = k9 := Option.some.inj h9; subst e9; exact ⟨e_60, e_61⟩) | 3, h9 => (by have e9 : (14 : Nat) = k9 := Option.some.inj h9; subst e9; exact ⟨e_66, e_67⟩) | 4, h9 => (by have e9 : (14 : Nat) = k9 := Option.some.inj h9; subst e9; exact ⟨e_71, e_72⟩) | 5, h9 => (by have e9 : (17 : Nat) = k9 := Option.some.inj h9; subst e9; exact ⟨e_76, e_77⟩) | 6, h9 => (by have e9 : (14 : Nat) = k9 := Option.some.inj h9; subst e9; exact ⟨e_82, e_83⟩) | 7, h9 => (by have e9 : (14 : Nat) = k9 := Option.some.inj h9; subst e9; exact ⟨e_87, e_88⟩) | 8, h9 => (by have e9 : (14 : Nat) = k9 := Option.some.inj h9; subst e9; exact ⟨e_92, e_93⟩) | i9 + 9, h9 => absurd h9 (by simp [gT])), (List.forall_mem_cons.mpr ⟨e_62, (List.forall_mem_cons.mpr ⟨e_68, (List.forall_mem_cons.mpr ⟨e_73, (List.forall_mem_cons.mpr ⟨e_78, (List.forall_mem_cons.mpr ⟨e_84, (List.forall_mem_cons.mpr ⟨e_89, (List.forall_mem_cons.mpr ⟨e_94, (fun _ h9 => absurd h9 List.not_mem_nil)⟩)⟩)⟩)⟩)⟩)⟩)⟩), (List.forall_mem_cons.mpr ⟨e_58, (List.forall_mem_cons.mpr ⟨e_63, (List.forall_mem_cons.mpr ⟨e_69, (List.forall_mem_cons.mpr ⟨e_74, (List.forall_mem_cons.mpr ⟨e_79, (List.forall_mem_cons.mpr ⟨e_85, (List.forall_mem_cons.mpr ⟨e_90, (List.forall_mem_cons.mpr ⟨e_95, (fun _ h9 => absurd h9 List.not_mem_nil)⟩)⟩)⟩)⟩)⟩)⟩)⟩)⟩), (List.forall_mem_cons.mpr ⟨e_64, (List.forall_mem_cons.mpr ⟨e_80, (fun _ h9 => absurd h9 List.not_mem_nil)⟩)⟩)⟩
  have hG_123 : Gs h (gs_39 ++ [(4, [q_41, q_47, q_48, q_49, q_50, q_51, q_52, q_53, q_54])]) S_98 := Gs.snoc hG_110 (by decide) hGt_122 (List.forall_mem_cons.mpr ⟨(own_ne hz_44 hm), (List.forall_mem_cons.mpr ⟨(own_ne hz_111 hm), (List.forall_mem_cons.mpr ⟨(own_ne hz_44 hm), (List.forall_mem_cons.mpr ⟨(own_ne hz_44 hm), (List.forall_mem_cons.mpr ⟨(own_ne hz_44 hm), (List.forall_mem_cons.mpr ⟨(own_ne hz_44 hm), (List.forall_mem_cons.mpr ⟨(own_ne hz_44 hm), (List.forall_mem_cons.mpr ⟨(own_ne hz_44 hm), (fun _ h9 => absurd h9 List.not_mem_nil)⟩)⟩)⟩)⟩)⟩)⟩)⟩)⟩)
  obtain ⟨gs_124, eG_125⟩ : ∃ G9 : List (Nat × List Nat), G9 = gs_39 ++ [(4, [q_41, q_47, q_48, q_49, q_50, q_51, q_52, q_53, q_54])] := ⟨_, rfl⟩
  rw [← eG_125] at hG_123
  refine j_putrF (f := 902) C hm9 flX9_21o (by decide) rfl rfl dX9_init_23 hm_101 hk_102 rfl ?_
  refine j_aload_n C dX9_init_26 rfl 0 rfl ?_
  have hf_128 : Fm (fun _ _ => False) (fun f9 b9 => b9 = h) (fun _ => False) S (sR S_98 902 h (some q_41)) := (hf_108.sR _ (fun _ => rfl))
  refine j_new (N := 1) C (ci := 8) rfl rfl klX9_25 knX8 kiX8 (M.cells (by decide)) (M.slots (by decide)) dX9_init_27 (fun q_126 hq_127 => ?_)
  have hz_129 : q_126 ∉ hL S := fun h9 => hq_127 (hf_128.mem h9)
  have gn_130 : ∀ g9 ∈ gs_124, ∀ p9 ∈ (gT g9.1).2.2, g9.2.getD p9.2.1 0 ≠ q_126 := Gs.ne (Gs.sR (S := S_98) hG_123) hq_127
  refine j_dup C dX9_init_30 rfl ?_
  have hf_131 : Fm (fun _ _ => False) (fun f9 b9 => b9 = h) (fun _ => False) S (nO (sR S_98 902 h (some q_41)) q_126 8) := (hf_128.nO _ hq_127)
  refine j_callI C [] [.ref q_126, .ref h] mlX9_27 mcX8_init (c_X8_init (nO (sR S_98 902 h (some q_41)) q_126 8) q_126 mem_new (kd_nO' (k := 8))) (M.rm (by decide) (by decide) (Nat.le_of_ble_eq_true rfl) (Nat.le_of_ble_eq_true rfl)) rfl rfl (Nat.le_of_ble_eq_true rfl) dX9_init_31 (fun r_140 S_141 hp_142 => ?_)
  obtain ⟨rfl, hf_143, q_132, e_133, e_134, e_135, e_136, e_137, e_138, hNl_139⟩ := hp_142
  refine J.eq (st' := [.ref q_126, .ref h]) rfl rfl rfl ?_
  have hm_144 : h ∈ hL S_141 := hf_143.mem (mem_old hm_101)
  have hk_145 : Kd S_141 h 9 := hf_143.kd (mem_old hm_101) (kd_nO (k := 8) hq_127 hm_101 hk_102)
  have hm_146 : q_126 ∈ hL S_141 := hf_143.mem mem_new
  have hk_147 : Kd S_141 q_126 8 := hf_143.kd mem_new (kd_nO' (k := 8))
  have hv_148 : hR S_141 901 h = (some q_1) := hf_143.fr (mem_old hm_101) (fun q9 => (fun e9 => absurd (((kd_nO (k := 8) hq_127 hm_101 hk_102)).symm.trans ((congrArg (hK _) e9).trans (kd_nO' (k := 8)))) (by decide)) q9) (rd_nOR (k := 8) hq_127 hm_101 (rd_sRf (S := S_98) (g := 902) (a := h) (v := (some q_41)) (by decide) hv_107))
  have hv_149 : hR S_141 902 h = (some q_41) := hf_143.fr (mem_old hm_101) (fun q9 => (fun e9 => absurd (((kd_nO (k := 8) hq_127 hm_101 hk_102)).symm.trans ((congrArg (hK _) e9).trans (kd_nO' (k := 8)))) (by decide)) q9) (rd_nOR (k := 8) hq_127 hm_101 (rd_sR (S := S_98) (g := 902) (a := h) (v := (some q_41))))
  have hf_150 : Fm (fun _ _ => False) (fun f9 b9 => b9 = h) (fun _ => False) S S_141 := hf_131.then hf_143 (fun a9 ha9 => ⟨(fun f9 h9 => h9.elim), (fun f9 h9 => (fun h8 => absurd (h8 ▸ ha9) hz_129) h9), (fun h9 => h9.elim)⟩)
  have hN_151 : NL S (L_120 ++ [q_126]) S_141 := NL.mono (show NL S (L_120 ++ [q_126]) (nO (sR S_98 902 h (some q_41)) q_126 8) from NL.nO (NL.sR (S := S_98) hN_119) hq_127 hz_129) (fun a9 h9 => hf_143.mem h9)
  have hG_152 : Gs h gs_124 S_141 := Gs.fm (show Gs h gs_124 (nO (sR S_98 902 h (some q_41)) q_126 8) from Gs.nO (Gs.sR (S := S_98) hG_123) hq_127) hf_143 (fun g9 hg9 p9 hp9 => gn_130 g9 hg9 p9 hp9)
  have hz_153 : q_132 ∉ hL S := fun h9 => e_133 (hf_131.mem h9)
  have hN_154 : NL S ((L_120 ++ [q_126]) ++ [q_132]) S_141 := NL.app (show NL S (L_120 ++ [q_126]) (nO (sR S_98 902 h (some q_41)) q_126 8) from NL.nO (NL.sR (S := S_98) hN_119) hq_127 hz_129) hNl_139 (fun a9 h9 => hf_143.mem h9) (fun a9 h9 => hf_131.mem h9)
  obtain ⟨L_155, eL_156⟩ : ∃ L9 : List Nat, L9 = ((L_120 ++ [q_126]) ++ [q_132]) := ⟨_, rfl⟩
  rw [← eL_156] at hN_154
  have hGt_157 : Gt 0 [q_126, q_132] S_141 := ⟨fun i9 k9 h9 => (match i9, h9 with | 0, h9 => (by have e9 : (8 : Nat) = k9 := Option.some.inj h9; subst e9; exact ⟨hm_146, hk_147⟩) | 1, h9 => (by have e9 : (14 : Nat) = k9 := Option.some.inj h9; subst e9; exact ⟨e_134, e_135⟩) | i9 + 2, h9 => absurd h9 (by simp [gT])), (List.forall_mem_cons.mpr ⟨e_136, (fun _ h9 => absurd h9 List.not_mem_nil)⟩), (List.forall_mem_cons.mpr ⟨e_137, (fun _ h9 => absurd h9 List.not_mem_nil)⟩), (List.forall_mem_cons.mpr ⟨e_138, (fun _ h9 => absurd h9 List.not_mem_nil)⟩)⟩
  have hG_158 : Gs h (gs_124 ++ [(0, [q_126, q_132])]) S_141 := Gs.snoc hG_152 (by decide) hGt_157 (List.forall_mem_cons.mpr ⟨(own_ne hz_129 hm), (fun _ h9 => absurd h9 List.not_mem_nil)⟩)
  obtain ⟨gs_159, eG_160⟩ : ∃ G9 : List (Nat × List Nat), G9 = gs_124 ++ [(0, [q_126, q_132])] := ⟨_, rfl⟩
  rw [← eG_160] at hG_158
  show J _ _ _ _ _ 34 _
  refine j_putrF (f := 903) C hm9 flX9_28o (by decide) rfl rfl dX9_init_34 hm_144 hk_145 rfl ?_
  refine j_aload_n C dX9_init_37 rfl 0 rfl ?_
  refine j_bipush (v := 16) C dX9_init_38 (by decide) ?_
  have hf_163 : Fm (fun _ _ => False) (fun f9 b9 => b9 = h) (fun _ => False) S (sR S_141 903 h (some q_126)) := (hf_150.sR _ (fun _ => rfl))
  refine j_newQ (N := 16) C 20 (by decide) rfl klX9_32 (gx_Tile C) (by decide) (by decide) (by decide) (M.cells (by decide)) (M.slots (by decide)) dX9_init_40 (fun q_161 hq_162 => ?_)
  have hz_164 : q_161 ∉ hL S := fun h9 => hq_162 (hf_163.mem h9)
  refine j_putrF (f := 904) C hm9 flX9_34o (by decide) rfl rfl dX9_init_43 (mem_old hm_144) (kd_nA (k := 20) (n := 16) hq_162 hm_144 hk_145) rfl ?_
  refine j_aload_n C dX9_init_46 rfl 0 rfl ?_
  have hf_167 : Fm (fun _ _ => False) (fun f9 b9 => b9 = h) (fun _ => False) S (sR (nA (sR S_141 903 h (some q_126)) q_161 20 16) 904 h (some q_161)) := ((hf_163.nA _ _ hq_162).sR _ (fun _ => rfl))
  obtain ⟨S_165, eS_166⟩ : ∃ S9 : Hp, S9 = (sR (nA (sR S_141 903 h (some q_126)) q_161 20 16) 904 h (some q_161)) := ⟨_, rfl⟩
  refine J.eq (S' := S_165) eS_166.symm rfl rfl ?_
  have hm_168 : h ∈ hL S_165 := by rw [eS_166]; exact (mem_old hm_144)
  have hk_169 : Kd S_165 h 9 := by rw [eS_166]; exact (kd_nA (k := 20) (n := 16) hq_162 hm_144 hk_145)
  have hm_170 : q_161 ∈ hL S_165 := by rw [eS_166]; exact mem_new
  have hk_171 : Kd S_165 q_161 20 := by rw [eS_166]; exact (kd_nA' (k := 20) (n := 16))
  have hn_172 : Ln S_165 q_161 16 := by rw [eS_166]; exact (ln_nA' (k := 20))
  have hz_173 : ∀ j, aI S_165 q_161 j = 0 := by rw [eS_166]; exact (fun j9 => rd_nAI' (k := 20) (n := 16))
  have hv_174 : hR S_165 901 h = (some q_1) := by rw [eS_166]; exact (rd_sRf (S := (nA (sR S_141 903 h (some q_126)) q_161 20 16)) (g := 904) (a := h) (v := (some q_161)) (by decide) (rd_sRf (S := S_141) (g := 903) (a := h) (v := (some q_126)) (by decide) hv_148))
  have hv_175 : hR S_165 902 h = (some q_41) := by rw [eS_166]; exact (rd_sRf (S := (nA (sR S_141 903 h (some q_126)) q_161 20 16)) (g := 904) (a := h) (v := (some q_161)) (by decide) (rd_sRf (S := S_141) (g := 903) (a := h) (v := (some q_126)) (by decide) hv_149))
  have hv_176 : hR S_165 903 h = (some q_126) := by rw [eS_166]; exact (rd_sRf (S := (nA (sR S_141 903 h (some q_126)) q_161 20 16)) (g := 904) (a := h) (v := (some q_161)) (by decide) (rd_sR (S := S_141) (g := 903) (a := h) (v := (some q_126))))
  have hv_177 : hR S_165 904 h = (some q_161) := by rw [eS_166]; exact (rd_sR (S := (nA (sR S_141 903 h (some q_126)) q_161 20 16)) (g := 904) (a := h) (v := (some q_161)))
  have hf_178 : Fm (fun _ _ => False) (fun f9 b9 => b9 = h) (fun _ => False) S S_165 := by rw [eS_166]; exact hf_167
  have hN_179 : NL S (L_155 ++ [q_161]) S_165 := by rw [eS_166]; exact (NL.sR (S := (nA (sR S_141 903 h (some q_126)) q_161 20 16)) (show NL S (L_155 ++ [q_161]) (nA (sR S_141 903 h (some q_126)) q_161 20 16) from NL.nA (NL.sR (S := S_141) hN_154) hq_162 hz_164))
  obtain ⟨L_180, eL_181⟩ : ∃ L9 : List Nat, L9 = (L_155 ++ [q_161]) := ⟨_, rfl⟩
  rw [← eL_181] at hN_179
  have hG_182 : Gs h gs_159 S_165 := by rw [eS_166]; exact (Gs.sR (S := (nA (sR S_141 903 h (some q_126)) q_161 20 16)) (show Gs h gs_159 (nA (sR S_141 903 h (some q_126)) q_161 20 16) from Gs.nA (Gs.sR (S := S_141) hG_158) hq_162))
  refine j_new (N := 4) C (ci := 10) rfl rfl klX9_32 knX10 kiX10 (M.cells (by decide)) (M.slots (by decide)) dX9_init_47 (fun q_183 hq_184 => ?_)
  have hz_185 : q_183 ∉ hL S := fun h9 => hq_184 (hf_178.mem h9)
  have gn_186 : ∀ g9 ∈ gs_159, ∀ p9 ∈ (gT g9.1).2.2, g9.2.getD p9.2.1 0 ≠ q_183 := Gs.ne hG_182 hq_184
  refine j_dup C dX9_init_50 rfl ?_
  show J _ _ _ _ _ 51 _
  have hf_187 : Fm (fun _ _ => False) (fun f9 b9 => b9 = h) (fun _ => False) S (nO S_165 q_183 10) := (hf_178.nO _ hq_184)
  refine j_callI C [] [.ref q_183, .ref h] mlX9_38 mcX10_init (c_X10_init (nO S_165 q_183 10) q_183 mem_new (kd_nO' (k := 10))) (M.rm (by decide) (by decide) (Nat.le_of_ble_eq_true rfl) (Nat.le_of_ble_eq_true rfl)) rfl rfl (Nat.le_of_ble_eq_true rfl) dX9_init_51 (fun r_197 S_198 hp_199 => ?_)
  obtain ⟨rfl, hf_200, e_189, e_190, q_188, e_191, e_192, e_193, e_194, e_195, hNl_196⟩ := hp_199
  refine J.eq (st' := [.ref q_183, .ref h]) rfl rfl rfl ?_
  have hz_201 : ∀ j, aI S_198 q_161 j = 0 := fun j9 => (hf_200.ai (mem_old hm_170) (fun h9 => h9) j9).trans (hz_173 j9)
  have hm_202 : h ∈ hL S_198 := hf_200.mem (mem_old hm_168)
  have hk_203 : Kd S_198 h 9 := hf_200.kd (mem_old hm_168) (kd_nO (k := 10) hq_184 hm_168 hk_169)
  have hm_204 : q_161 ∈ hL S_198 := hf_200.mem (mem_old hm_170)
  have hk_205 : Kd S_198 q_161 20 := hf_200.kd (mem_old hm_170) (kd_nO (k := 10) hq_184 hm_170 hk_171)
  have hn_206 : Ln S_198 q_161 16 := hf_200.ln (mem_old hm_170) hn_172
  have hm_207 : q_183 ∈ hL S_198 := hf_200.mem mem_new
  have hk_208 : Kd S_198 q_183 10 := hf_200.kd mem_new (kd_nO' (k := 10))
  have hv_209 : hR S_198 901 h = (some q_1) := hf_200.fr (mem_old hm_168) (fun q9 => (fun e9 => absurd (((kd_nO (k := 10) hq_184 hm_168 hk_169)).symm.trans ((congrArg (hK _) e9).trans (kd_nO' (k := 10)))) (by decide)) q9) (rd_nOR (k := 10) hq_184 hm_168 hv_174)
  have hv_210 : hR S_198 902 h = (some q_41) := hf_200.fr (mem_old hm_168) (fun q9 => (fun e9 => absurd (((kd_nO (k := 10) hq_184 hm_168 hk_169)).symm.trans ((congrArg (hK _) e9).trans (kd_nO' (k := 10)))) (by decide)) q9) (rd_nOR (k := 10) hq_184 hm_168 hv_175)
  have hv_211 : hR S_198 903 h = (some q_126) := hf_200.fr (mem_old hm_168) (fun q9 => (fun e9 => absurd (((kd_nO (k := 10) hq_184 hm_168 hk_169)).symm.trans ((congrArg (hK _) e9).trans (kd_nO' (k := 10)))) (by decide)) q9) (rd_nOR (k := 10) hq_184 hm_168 hv_176)
  have hv_212 : hR S_198 904 h = (some q_161) := hf_200.fr (mem_old hm_168) (fun q9 => (fun e9 => absurd (((kd_nO (k := 10) hq_184 hm_168 hk_169)).symm.trans ((congrArg (hK _) e9).trans (kd_nO' (k := 10)))) (by decide)) q9) (rd_nOR (k := 10) hq_184 hm_168 hv_177)
  have hf_213 : Fm (fun _ _ => False) (fun f9 b9 => b9 = h) (fun _ => False) S S_198 := hf_187.then hf_200 (fun a9 ha9 => ⟨(fun f9 h9 => (fun h9 => h9.elim (fun h8 => absurd (h8.2 ▸ ha9) hz_185) (fun h8 => absurd (h8.2 ▸ ha9) hz_185)) h9), (fun f9 h9 => (fun h8 => absurd (h8 ▸ ha9) hz_185) h9), (fun h9 => h9.elim)⟩)
  have hN_214 : NL S (L_180 ++ [q_183]) S_198 := NL.mono (show NL S (L_180 ++ [q_183]) (nO S_165 q_183 10) from NL.nO hN_179 hq_184 hz_185) (fun a9 h9 => hf_200.mem h9)
  have hG_215 : Gs h gs_159 S_198 := Gs.fm (show Gs h gs_159 (nO S_165 q_183 10) from Gs.nO hG_182 hq_184) hf_200 (fun g9 hg9 p9 hp9 => gn_186 g9 hg9 p9 hp9)
  have hz_216 : q_188 ∉ hL S := fun h9 => e_191 (hf_187.mem h9)
  have hN_217 : NL S ((L_180 ++ [q_183]) ++ [q_188]) S_198 := NL.app (show NL S (L_180 ++ [q_183]) (nO S_165 q_183 10) from NL.nO hN_179 hq_184 hz_185) hNl_196 (fun a9 h9 => hf_200.mem h9) (fun a9 h9 => hf_187.mem h9)
  obtain ⟨L_218, eL_219⟩ : ∃ L9 : List Nat, L9 = ((L_180 ++ [q_183]) ++ [q_188]) := ⟨_, rfl⟩
  rw [← eL_219] at hN_217
  have hGt_220 : Gt 1 [q_183, q_188] S_198 := ⟨fun i9 k9 h9 => (match i9, h9 with | 0, h9 => (by have e9 : (10 : Nat) = k9 := Option.some.inj h9; subst e9; exact ⟨hm_207, hk_208⟩) | 1, h9 => (by have e9 : (15 : Nat) = k9 := Option.some.inj h9; subst e9; exact ⟨e_192, e_193⟩) | i9 + 2, h9 => absurd h9 (by simp [gT])), (List.forall_mem_cons.mpr ⟨e_194, (fun _ h9 => absurd h9 List.not_mem_nil)⟩), (List.forall_mem_cons.mpr ⟨e_195, (fun _ h9 => absurd h9 List.not_mem_nil)⟩), (fun _ h9 => absurd h9 List.not_mem_nil)⟩
  have hG_221 : Gs h (gs_159 ++ [(1, [q_183, q_188])]) S_198 := Gs.snoc hG_215 (by decide) hGt_220 (List.forall_mem_cons.mpr ⟨(own_ne hz_185 hm), (fun _ h9 => absurd h9 List.not_mem_nil)⟩)
  obtain ⟨gs_222, eG_223⟩ : ∃ G9 : List (Nat × List Nat), G9 = gs_159 ++ [(1, [q_183, q_188])] := ⟨_, rfl⟩
  rw [← eG_223] at hG_221
  refine j_putrF (f := 905) C hm9 flX9_39o (by decide) rfl rfl dX9_init_54 hm_202 hk_203 rfl ?_
  refine j_aload_n C dX9_init_57 rfl 0 rfl ?_
  have hf_226 : Fm (fun _ _ => False) (fun f9 b9 => b9 = h) (fun _ => False) S (sR S_198 905 h (some q_183)) := (hf_213.sR _ (fun _ => rfl))
  refine j_new (N := 1) C (ci := 8) rfl rfl klX9_25 knX8 kiX8 (M.cells (by decide)) (M.slots (by decide)) dX9_init_58 (fun q_224 hq_225 => ?_)
  have hz_227 : q_224 ∉ hL S := fun h9 => hq_225 (hf_226.mem h9)
  have gn_228 : ∀ g9 ∈ gs_222, ∀ p9 ∈ (gT g9.1).2.2, g9.2.getD p9.2.1 0 ≠ q_224 := Gs.ne (Gs.sR (S := S_198) hG_221) hq_225
  refine j_dup C dX9_init_61 rfl ?_
  have hf_229 : Fm (fun _ _ => False) (fun f9 b9 => b9 = h) (fun _ => False) S (nO (sR S_198 905 h (some q_183)) q_224 8) := (hf_226.nO _ hq_225)
  refine j_callI C [] [.ref q_224, .ref h] mlX9_27 mcX8_init (c_X8_init (nO (sR S_198 905 h (some q_183)) q_224 8) q_224 mem_new (kd_nO' (k := 8))) (M.rm (by decide) (by decide) (Nat.le_of_ble_eq_true rfl) (Nat.le_of_ble_eq_true rfl)) rfl rfl (Nat.le_of_ble_eq_true rfl) dX9_init_62 (fun r_238 S_239 hp_240 => ?_)
  obtain ⟨rfl, hf_241, q_230, e_231, e_232, e_233, e_234, e_235, e_236, hNl_237⟩ := hp_240
  refine J.eq (st' := [.ref q_224, .ref h]) rfl rfl rfl ?_
  have hz_242 : ∀ j, aI S_239 q_161 j = 0 := fun j9 => (hf_241.ai (mem_old hm_204) (fun h9 => h9) j9).trans (hz_201 j9)
  have hm_243 : h ∈ hL S_239 := hf_241.mem (mem_old hm_202)
  have hk_244 : Kd S_239 h 9 := hf_241.kd (mem_old hm_202) (kd_nO (k := 8) hq_225 hm_202 hk_203)
  have hm_245 : q_161 ∈ hL S_239 := hf_241.mem (mem_old hm_204)
  have hk_246 : Kd S_239 q_161 20 := hf_241.kd (mem_old hm_204) (kd_nO (k := 8) hq_225 hm_204 hk_205)
  have hn_247 : Ln S_239 q_161 16 := hf_241.ln (mem_old hm_204) hn_206
  have hm_248 : q_224 ∈ hL S_239 := hf_241.mem mem_new
  have hk_249 : Kd S_239 q_224 8 := hf_241.kd mem_new (kd_nO' (k := 8))
  have hv_250 : hR S_239 901 h = (some q_1) := hf_241.fr (mem_old hm_202) (fun q9 => (fun e9 => absurd (((kd_nO (k := 8) hq_225 hm_202 hk_203)).symm.trans ((congrArg (hK _) e9).trans (kd_nO' (k := 8)))) (by decide)) q9) (rd_nOR (k := 8) hq_225 hm_202 (rd_sRf (S := S_198) (g := 905) (a := h) (v := (some q_183)) (by decide) hv_209))
  have hv_251 : hR S_239 902 h = (some q_41) := hf_241.fr (mem_old hm_202) (fun q9 => (fun e9 => absurd (((kd_nO (k := 8) hq_225 hm_202 hk_203)).symm.trans ((congrArg (hK _) e9).trans (kd_nO' (k := 8)))) (by decide)) q9) (rd_nOR (k := 8) hq_225 hm_202 (rd_sRf (S := S_198) (g := 905) (a := h) (v := (some q_183)) (by decide) hv_210))
  have hv_252 : hR S_239 903 h = (some q_126) := hf_241.fr (mem_old hm_202) (fun q9 => (fun e9 => absurd (((kd_nO (k := 8) hq_225 hm_202 hk_203)).symm.trans ((congrArg (hK _) e9).trans (kd_nO' (k := 8)))) (by decide)) q9) (rd_nOR (k := 8) hq_225 hm_202 (rd_sRf (S := S_198) (g := 905) (a := h) (v := (some q_183)) (by decide) hv_211))
  have hv_253 : hR S_239 904 h = (some q_161) := hf_241.fr (mem_old hm_202) (fun q9 => (fun e9 => absurd (((kd_nO (k := 8) hq_225 hm_202 hk_203)).symm.trans ((congrArg (hK _) e9).trans (kd_nO' (k := 8)))) (by decide)) q9) (rd_nOR (k := 8) hq_225 hm_202 (rd_sRf (S := S_198) (g := 905) (a := h) (v := (some q_183)) (by decide) hv_212))
  have hv_254 : hR S_239 905 h = (some q_183) := hf_241.fr (mem_old hm_202) (fun q9 => (fun e9 => absurd (((kd_nO (k := 8) hq_225 hm_202 hk_203)).symm.trans ((congrArg (hK _) e9).trans (kd_nO' (k := 8)))) (by decide)) q9) (rd_nOR (k := 8) hq_225 hm_202 (rd_sR (S := S_198) (g := 905) (a := h) (v := (some q_183))))
  have hf_255 : Fm (fun _ _ => False) (fun f9 b9 => b9 = h) (fun _ => False) S S_239 := hf_229.then hf_241 (fun a9 ha9 => ⟨(fun f9 h9 => h9.elim), (fun f9 h9 => (fun h8 => absurd (h8 ▸ ha9) hz_227) h9), (fun h9 => h9.elim)⟩)
  have hN_256 : NL S (L_218 ++ [q_224]) S_239 := NL.mono (show NL S (L_218 ++ [q_224]) (nO (sR S_198 905 h (some q_183)) q_224 8) from NL.nO (NL.sR (S := S_198) hN_217) hq_225 hz_227) (fun a9 h9 => hf_241.mem h9)
  have hG_257 : Gs h gs_222 S_239 := Gs.fm (show Gs h gs_222 (nO (sR S_198 905 h (some q_183)) q_224 8) from Gs.nO (Gs.sR (S := S_198) hG_221) hq_225) hf_241 (fun g9 hg9 p9 hp9 => gn_228 g9 hg9 p9 hp9)
  have hz_258 : q_230 ∉ hL S := fun h9 => e_231 (hf_229.mem h9)
  have hN_259 : NL S ((L_218 ++ [q_224]) ++ [q_230]) S_239 := NL.app (show NL S (L_218 ++ [q_224]) (nO (sR S_198 905 h (some q_183)) q_224 8) from NL.nO (NL.sR (S := S_198) hN_217) hq_225 hz_227) hNl_237 (fun a9 h9 => hf_241.mem h9) (fun a9 h9 => hf_229.mem h9)
  obtain ⟨L_260, eL_261⟩ : ∃ L9 : List Nat, L9 = ((L_218 ++ [q_224]) ++ [q_230]) := ⟨_, rfl⟩
  rw [← eL_261] at hN_259
  have hGt_262 : Gt 0 [q_224, q_230] S_239 := ⟨fun i9 k9 h9 => (match i9, h9 with | 0, h9 => (by have e9 : (8 : Nat) = k9 := Option.some.inj h9; subst e9; exact ⟨hm_248, hk_249⟩) | 1, h9 => (by have e9 : (14 : Nat) = k9 := Option.some.inj h9; subst e9; exact ⟨e_232, e_233⟩) | i9 + 2, h9 => absurd h9 (by simp [gT])), (List.forall_mem_cons.mpr ⟨e_234, (fun _ h9 => absurd h9 List.not_mem_nil)⟩), (List.forall_mem_cons.mpr ⟨e_235, (fun _ h9 => absurd h9 List.not_mem_nil)⟩), (List.forall_mem_cons.mpr ⟨e_236, (fun _ h9 => absurd h9 List.not_mem_nil)⟩)⟩
  have hG_263 : Gs h (gs_222 ++ [(0, [q_224, q_230])]) S_239 := Gs.snoc hG_257 (by decide) hGt_262 (List.forall_mem_cons.mpr ⟨(own_ne hz_227 hm), (fun _ h9 => absurd h9 List.not_mem_nil)⟩)
  obtain ⟨gs_264, eG_265⟩ : ∃ G9 : List (Nat × List Nat), G9 = gs_222 ++ [(0, [q_224, q_230])] := ⟨_, rfl⟩
  rw [← eG_265] at hG_263
  refine j_putrF (f := 906) C hm9 flX9_43o (by decide) rfl rfl dX9_init_65 hm_243 hk_244 rfl ?_
  refine j_aload_n C dX9_init_68 rfl 0 rfl ?_
  show J _ _ _ _ _ 69 _
  refine j_sipush (v := 24000) C dX9_init_69 (by decide) ?_
  have hf_268 : Fm (fun _ _ => False) (fun f9 b9 => b9 = h) (fun _ => False) S (sR S_239 906 h (some q_224)) := (hf_255.sR _ (fun _ => rfl))
  refine j_newB (N := 24000) C ka_byte (by decide) (by decide) (Nat.le_of_ble_eq_true rfl) (M.cells (by decide)) (M.slots (Nat.le_of_ble_eq_true rfl)) dX9_init_72 (fun q_266 hq_267 => ?_)
  have hz_269 : q_266 ∉ hL S := fun h9 => hq_267 (hf_268.mem h9)
  refine j_putrF (f := 907) C hm9 flX9_46o (by decide) rfl rfl dX9_init_74 (mem_old hm_243) (kd_nA (k := 13) (n := 24000) hq_267 hm_243 hk_244) rfl ?_
  refine j_aload_n C dX9_init_77 rfl 0 rfl ?_
  refine j_bipush (v := 16) C dX9_init_78 (by decide) ?_
  have hf_272 : Fm (fun _ _ => False) (fun f9 b9 => b9 = h) (fun _ => False) S (sR (nA (sR S_239 906 h (some q_224)) q_266 13 24000) 907 h (some q_266)) := ((hf_268.nA _ _ hq_267).sR _ (fun _ => rfl))
  obtain ⟨S_270, eS_271⟩ : ∃ S9 : Hp, S9 = (sR (nA (sR S_239 906 h (some q_224)) q_266 13 24000) 907 h (some q_266)) := ⟨_, rfl⟩
  refine J.eq (S' := S_270) eS_271.symm rfl rfl ?_
  have hm_273 : h ∈ hL S_270 := by rw [eS_271]; exact (mem_old hm_243)
  have hk_274 : Kd S_270 h 9 := by rw [eS_271]; exact (kd_nA (k := 13) (n := 24000) hq_267 hm_243 hk_244)
  have hm_275 : q_161 ∈ hL S_270 := by rw [eS_271]; exact (mem_old hm_245)
  have hk_276 : Kd S_270 q_161 20 := by rw [eS_271]; exact (kd_nA (k := 13) (n := 24000) hq_267 hm_245 hk_246)
  have hn_277 : Ln S_270 q_161 16 := by rw [eS_271]; exact (ln_nA (k := 13) hq_267 hm_245 hn_247)
  have hz_278 : ∀ j, aI S_270 q_161 j = 0 := by rw [eS_271]; exact (fun j9 => rd_nAI (k := 13) (n := 24000) hq_267 hm_245 (hz_242 j9))
  have hm_279 : q_266 ∈ hL S_270 := by rw [eS_271]; exact mem_new
  have hk_280 : Kd S_270 q_266 13 := by rw [eS_271]; exact (kd_nA' (k := 13) (n := 24000))
  have hn_281 : Ln S_270 q_266 24000 := by rw [eS_271]; exact (ln_nA' (k := 13))
  have hz_282 : ∀ j, aI S_270 q_266 j = 0 := by rw [eS_271]; exact (fun j9 => rd_nAI' (k := 13) (n := 24000))
  have hv_283 : hR S_270 901 h = (some q_1) := by rw [eS_271]; exact (rd_sRf (S := (nA (sR S_239 906 h (some q_224)) q_266 13 24000)) (g := 907) (a := h) (v := (some q_266)) (by decide) (rd_sRf (S := S_239) (g := 906) (a := h) (v := (some q_224)) (by decide) hv_250))
  have hv_284 : hR S_270 902 h = (some q_41) := by rw [eS_271]; exact (rd_sRf (S := (nA (sR S_239 906 h (some q_224)) q_266 13 24000)) (g := 907) (a := h) (v := (some q_266)) (by decide) (rd_sRf (S := S_239) (g := 906) (a := h) (v := (some q_224)) (by decide) hv_251))
  have hv_285 : hR S_270 903 h = (some q_126) := by rw [eS_271]; exact (rd_sRf (S := (nA (sR S_239 906 h (some q_224)) q_266 13 24000)) (g := 907) (a := h) (v := (some q_266)) (by decide) (rd_sRf (S := S_239) (g := 906) (a := h) (v := (some q_224)) (by decide) hv_252))
  have hv_286 : hR S_270 904 h = (some q_161) := by rw [eS_271]; exact (rd_sRf (S := (nA (sR S_239 906 h (some q_224)) q_266 13 24000)) (g := 907) (a := h) (v := (some q_266)) (by decide) (rd_sRf (S := S_239) (g := 906) (a := h) (v := (some q_224)) (by decide) hv_253))
  have hv_287 : hR S_270 905 h = (some q_183) := by rw [eS_271]; exact (rd_sRf (S := (nA (sR S_239 906 h (some q_224)) q_266 13 24000)) (g := 907) (a := h) (v := (some q_266)) (by decide) (rd_sRf (S := S_239) (g := 906) (a := h) (v := (some q_224)) (by decide) hv_254))
  have hv_288 : hR S_270 906 h = (some q_224) := by rw [eS_271]; exact (rd_sRf (S := (nA (sR S_239 906 h (some q_224)) q_266 13 24000)) (g := 907) (a := h) (v := (some q_266)) (by decide) (rd_sR (S := S_239) (g := 906) (a := h) (v := (some q_224))))
  have hv_289 : hR S_270 907 h = (some q_266) := by rw [eS_271]; exact (rd_sR (S := (nA (sR S_239 906 h (some q_224)) q_266 13 24000)) (g := 907) (a := h) (v := (some q_266)))
  have hf_290 : Fm (fun _ _ => False) (fun f9 b9 => b9 = h) (fun _ => False) S S_270 := by rw [eS_271]; exact hf_272
  have hN_291 : NL S (L_260 ++ [q_266]) S_270 := by rw [eS_271]; exact (NL.sR (S := (nA (sR S_239 906 h (some q_224)) q_266 13 24000)) (show NL S (L_260 ++ [q_266]) (nA (sR S_239 906 h (some q_224)) q_266 13 24000) from NL.nA (NL.sR (S := S_239) hN_259) hq_267 hz_269))
  obtain ⟨L_292, eL_293⟩ : ∃ L9 : List Nat, L9 = (L_260 ++ [q_266]) := ⟨_, rfl⟩
  rw [← eL_293] at hN_291
  have hG_294 : Gs h gs_264 S_270 := by rw [eS_271]; exact (Gs.sR (S := (nA (sR S_239 906 h (some q_224)) q_266 13 24000)) (show Gs h gs_264 (nA (sR S_239 906 h (some q_224)) q_266 13 24000) from Gs.nA (Gs.sR (S := S_239) hG_263) hq_267))
  refine j_newI (N := 16) C ka_int (by decide) (by decide) (Nat.le_of_ble_eq_true rfl) (M.cells (by decide)) (M.slots (Nat.le_of_ble_eq_true rfl)) dX9_init_80 (fun q_295 hq_296 => ?_)
  have hz_297 : q_295 ∉ hL S := fun h9 => hq_296 (hf_290.mem h9)
  refine j_putrF (f := 908) C hm9 flX9_50o (by decide) rfl rfl dX9_init_82 (mem_old hm_273) (kd_nA (k := 14) (n := 16) hq_296 hm_273 hk_274) rfl ?_
  refine j_aload_n C dX9_init_85 rfl 0 rfl ?_
  show J _ _ _ _ _ 86 _
  have hf_300 : Fm (fun _ _ => False) (fun f9 b9 => b9 = h) (fun _ => False) S (sR (nA S_270 q_295 14 16) 908 h (some q_295)) := ((hf_290.nA _ _ hq_296).sR _ (fun _ => rfl))
  obtain ⟨S_298, eS_299⟩ : ∃ S9 : Hp, S9 = (sR (nA S_270 q_295 14 16) 908 h (some q_295)) := ⟨_, rfl⟩
  refine J.eq (S' := S_298) eS_299.symm rfl rfl ?_
  have hm_301 : h ∈ hL S_298 := by rw [eS_299]; exact (mem_old hm_273)
  have hk_302 : Kd S_298 h 9 := by rw [eS_299]; exact (kd_nA (k := 14) (n := 16) hq_296 hm_273 hk_274)
  have hm_303 : q_161 ∈ hL S_298 := by rw [eS_299]; exact (mem_old hm_275)
  have hk_304 : Kd S_298 q_161 20 := by rw [eS_299]; exact (kd_nA (k := 14) (n := 16) hq_296 hm_275 hk_276)
  have hn_305 : Ln S_298 q_161 16 := by rw [eS_299]; exact (ln_nA (k := 14) hq_296 hm_275 hn_277)
  have hz_306 : ∀ j, aI S_298 q_161 j = 0 := by rw [eS_299]; exact (fun j9 => rd_nAI (k := 14) (n := 16) hq_296 hm_275 (hz_278 j9))
  have hm_307 : q_266 ∈ hL S_298 := by rw [eS_299]; exact (mem_old hm_279)
  have hk_308 : Kd S_298 q_266 13 := by rw [eS_299]; exact (kd_nA (k := 14) (n := 16) hq_296 hm_279 hk_280)
  have hn_309 : Ln S_298 q_266 24000 := by rw [eS_299]; exact (ln_nA (k := 14) hq_296 hm_279 hn_281)
  have hz_310 : ∀ j, aI S_298 q_266 j = 0 := by rw [eS_299]; exact (fun j9 => rd_nAI (k := 14) (n := 16) hq_296 hm_279 (hz_282 j9))
  have hm_311 : q_295 ∈ hL S_298 := by rw [eS_299]; exact mem_new
  have hk_312 : Kd S_298 q_295 14 := by rw [eS_299]; exact (kd_nA' (k := 14) (n := 16))
  have hn_313 : Ln S_298 q_295 16 := by rw [eS_299]; exact (ln_nA' (k := 14))
  have hz_314 : ∀ j, aI S_298 q_295 j = 0 := by rw [eS_299]; exact (fun j9 => rd_nAI' (k := 14) (n := 16))
  have hv_315 : hR S_298 901 h = (some q_1) := by rw [eS_299]; exact (rd_sRf (S := (nA S_270 q_295 14 16)) (g := 908) (a := h) (v := (some q_295)) (by decide) hv_283)
  have hv_316 : hR S_298 902 h = (some q_41) := by rw [eS_299]; exact (rd_sRf (S := (nA S_270 q_295 14 16)) (g := 908) (a := h) (v := (some q_295)) (by decide) hv_284)
  have hv_317 : hR S_298 903 h = (some q_126) := by rw [eS_299]; exact (rd_sRf (S := (nA S_270 q_295 14 16)) (g := 908) (a := h) (v := (some q_295)) (by decide) hv_285)
  have hv_318 : hR S_298 904 h = (some q_161) := by rw [eS_299]; exact (rd_sRf (S := (nA S_270 q_295 14 16)) (g := 908) (a := h) (v := (some q_295)) (by decide) hv_286)
  have hv_319 : hR S_298 905 h = (some q_183) := by rw [eS_299]; exact (rd_sRf (S := (nA S_270 q_295 14 16)) (g := 908) (a := h) (v := (some q_295)) (by decide) hv_287)
  have hv_320 : hR S_298 906 h = (some q_224) := by rw [eS_299]; exact (rd_sRf (S := (nA S_270 q_295 14 16)) (g := 908) (a := h) (v := (some q_295)) (by decide) hv_288)
  have hv_321 : hR S_298 907 h = (some q_266) := by rw [eS_299]; exact (rd_sRf (S := (nA S_270 q_295 14 16)) (g := 908) (a := h) (v := (some q_295)) (by decide) hv_289)
  have hv_322 : hR S_298 908 h = (some q_295) := by rw [eS_299]; exact (rd_sR (S := (nA S_270 q_295 14 16)) (g := 908) (a := h) (v := (some q_295)))
  have hf_323 : Fm (fun _ _ => False) (fun f9 b9 => b9 = h) (fun _ => False) S S_298 := by rw [eS_299]; exact hf_300
  have hN_324 : NL S (L_292 ++ [q_295]) S_298 := by rw [eS_299]; exact (NL.sR (S := (nA S_270 q_295 14 16)) (show NL S (L_292 ++ [q_295]) (nA S_270 q_295 14 16) from NL.nA hN_291 hq_296 hz_297))
  obtain ⟨L_325, eL_326⟩ : ∃ L9 : List Nat, L9 = (L_292 ++ [q_295]) := ⟨_, rfl⟩
  rw [← eL_326] at hN_324
  have hG_327 : Gs h gs_264 S_298 := by rw [eS_299]; exact (Gs.sR (S := (nA S_270 q_295 14 16)) (show Gs h gs_264 (nA S_270 q_295 14 16) from Gs.nA hG_294 hq_296))
  refine j_new (N := 21) C (ci := 1) rfl rfl klX9_54 knX1 kiX1 (M.cells (by decide)) (M.slots (by decide)) dX9_init_86 (fun q_328 hq_329 => ?_)
  have hz_330 : q_328 ∉ hL S := fun h9 => hq_329 (hf_323.mem h9)
  have gn_331 : ∀ g9 ∈ gs_264, ∀ p9 ∈ (gT g9.1).2.2, g9.2.getD p9.2.1 0 ≠ q_328 := Gs.ne hG_327 hq_329
  refine j_dup C dX9_init_89 rfl ?_
  have hf_332 : Fm (fun _ _ => False) (fun f9 b9 => b9 = h) (fun _ => False) S (nO S_298 q_328 1) := (hf_323.nO _ hq_329)
  refine j_callI C [] [.ref q_328, .ref h] mlX9_56 mcX1_init (c_X1_init (nO S_298 q_328 1) q_328 mem_new (kd_nO' (k := 1))) (M.rm (by decide) (by decide) (Nat.le_of_ble_eq_true rfl) (Nat.le_of_ble_eq_true rfl)) rfl rfl (Nat.le_of_ble_eq_true rfl) dX9_init_90 (fun r_379 S_380 hp_381 => ?_)
  obtain ⟨rfl, hf_382, q_333, q_334, q_335, q_336, q_337, q_338, q_339, q_340, e_341, e_342, e_343, e_344, e_345, e_346, e_347, e_348, e_349, e_350, e_351, e_352, e_353, e_354, e_355, e_356, e_357, e_358, e_359, e_360, e_361, e_362, e_363, e_364, e_365, e_366, e_367, e_368, e_369, e_370, e_371, e_372, e_373, e_374, e_375, e_376, e_377, hNl_378⟩ := hp_381
  refine J.eq (st' := [.ref q_328, .ref h]) rfl rfl rfl ?_
  have hz_383 : ∀ j, aI S_380 q_161 j = 0 := fun j9 => (hf_382.ai (mem_old hm_303) (fun h9 => h9) j9).trans (hz_306 j9)
  have hz_384 : ∀ j, aI S_380 q_266 j = 0 := fun j9 => (hf_382.ai (mem_old hm_307) (fun h9 => h9) j9).trans (hz_310 j9)
  have hz_385 : ∀ j, aI S_380 q_295 j = 0 := fun j9 => (hf_382.ai (mem_old hm_311) (fun h9 => h9) j9).trans (hz_314 j9)
  have hm_386 : h ∈ hL S_380 := hf_382.mem (mem_old hm_301)
  have hk_387 : Kd S_380 h 9 := hf_382.kd (mem_old hm_301) (kd_nO (k := 1) hq_329 hm_301 hk_302)
  have hm_388 : q_161 ∈ hL S_380 := hf_382.mem (mem_old hm_303)
  have hk_389 : Kd S_380 q_161 20 := hf_382.kd (mem_old hm_303) (kd_nO (k := 1) hq_329 hm_303 hk_304)
  have hn_390 : Ln S_380 q_161 16 := hf_382.ln (mem_old hm_303) hn_305
  have hm_391 : q_266 ∈ hL S_380 := hf_382.mem (mem_old hm_307)
  have hk_392 : Kd S_380 q_266 13 := hf_382.kd (mem_old hm_307) (kd_nO (k := 1) hq_329 hm_307 hk_308)
  have hn_393 : Ln S_380 q_266 24000 := hf_382.ln (mem_old hm_307) hn_309
  have hm_394 : q_295 ∈ hL S_380 := hf_382.mem (mem_old hm_311)
  have hk_395 : Kd S_380 q_295 14 := hf_382.kd (mem_old hm_311) (kd_nO (k := 1) hq_329 hm_311 hk_312)
  have hn_396 : Ln S_380 q_295 16 := hf_382.ln (mem_old hm_311) hn_313
  have hm_397 : q_328 ∈ hL S_380 := hf_382.mem mem_new
  have hk_398 : Kd S_380 q_328 1 := hf_382.kd mem_new (kd_nO' (k := 1))
  have hv_399 : hR S_380 901 h = (some q_1) := hf_382.fr (mem_old hm_301) (fun q9 => (fun e9 => absurd (((kd_nO (k := 1) hq_329 hm_301 hk_302)).symm.trans ((congrArg (hK _) e9).trans (kd_nO' (k := 1)))) (by decide)) q9) (rd_nOR (k := 1) hq_329 hm_301 hv_315)
  have hv_400 : hR S_380 902 h = (some q_41) := hf_382.fr (mem_old hm_301) (fun q9 => (fun e9 => absurd (((kd_nO (k := 1) hq_329 hm_301 hk_302)).symm.trans ((congrArg (hK _) e9).trans (kd_nO' (k := 1)))) (by decide)) q9) (rd_nOR (k := 1) hq_329 hm_301 hv_316)
  have hv_401 : hR S_380 903 h = (some q_126) := hf_382.fr (mem_old hm_301) (fun q9 => (fun e9 => absurd (((kd_nO (k := 1) hq_329 hm_301 hk_302)).symm.trans ((congrArg (hK _) e9).trans (kd_nO' (k := 1)))) (by decide)) q9) (rd_nOR (k := 1) hq_329 hm_301 hv_317)
  have hv_402 : hR S_380 904 h = (some q_161) := hf_382.fr (mem_old hm_301) (fun q9 => (fun e9 => absurd (((kd_nO (k := 1) hq_329 hm_301 hk_302)).symm.trans ((congrArg (hK _) e9).trans (kd_nO' (k := 1)))) (by decide)) q9) (rd_nOR (k := 1) hq_329 hm_301 hv_318)
  have hv_403 : hR S_380 905 h = (some q_183) := hf_382.fr (mem_old hm_301) (fun q9 => (fun e9 => absurd (((kd_nO (k := 1) hq_329 hm_301 hk_302)).symm.trans ((congrArg (hK _) e9).trans (kd_nO' (k := 1)))) (by decide)) q9) (rd_nOR (k := 1) hq_329 hm_301 hv_319)
  have hv_404 : hR S_380 906 h = (some q_224) := hf_382.fr (mem_old hm_301) (fun q9 => (fun e9 => absurd (((kd_nO (k := 1) hq_329 hm_301 hk_302)).symm.trans ((congrArg (hK _) e9).trans (kd_nO' (k := 1)))) (by decide)) q9) (rd_nOR (k := 1) hq_329 hm_301 hv_320)
  have hv_405 : hR S_380 907 h = (some q_266) := hf_382.fr (mem_old hm_301) (fun q9 => (fun e9 => absurd (((kd_nO (k := 1) hq_329 hm_301 hk_302)).symm.trans ((congrArg (hK _) e9).trans (kd_nO' (k := 1)))) (by decide)) q9) (rd_nOR (k := 1) hq_329 hm_301 hv_321)
  have hv_406 : hR S_380 908 h = (some q_295) := hf_382.fr (mem_old hm_301) (fun q9 => (fun e9 => absurd (((kd_nO (k := 1) hq_329 hm_301 hk_302)).symm.trans ((congrArg (hK _) e9).trans (kd_nO' (k := 1)))) (by decide)) q9) (rd_nOR (k := 1) hq_329 hm_301 hv_322)
  have hf_407 : Fm (fun _ _ => False) (fun f9 b9 => b9 = h) (fun _ => False) S S_380 := hf_332.then hf_382 (fun a9 ha9 => ⟨(fun f9 h9 => h9.elim), (fun f9 h9 => (fun h8 => absurd (h8 ▸ ha9) hz_330) h9), (fun h9 => h9.elim)⟩)
  have hN_408 : NL S (L_325 ++ [q_328]) S_380 := NL.mono (show NL S (L_325 ++ [q_328]) (nO S_298 q_328 1) from NL.nO hN_324 hq_329 hz_330) (fun a9 h9 => hf_382.mem h9)
  have hG_409 : Gs h gs_264 S_380 := Gs.fm (show Gs h gs_264 (nO S_298 q_328 1) from Gs.nO hG_327 hq_329) hf_382 (fun g9 hg9 p9 hp9 => gn_331 g9 hg9 p9 hp9)
  have hz_410 : q_333 ∉ hL S := fun h9 => e_341 (hf_332.mem h9)
  have hz_411 : q_334 ∉ hL S := fun h9 => e_345 (hf_332.mem h9)
  have hz_412 : q_335 ∉ hL S := fun h9 => e_350 (hf_332.mem h9)
  have hz_413 : q_336 ∉ hL S := fun h9 => e_354 (hf_332.mem h9)
  have hz_414 : q_337 ∉ hL S := fun h9 => e_359 (hf_332.mem h9)
  have hz_415 : q_338 ∉ hL S := fun h9 => e_363 (hf_332.mem h9)
  have hz_416 : q_339 ∉ hL S := fun h9 => e_368 (hf_332.mem h9)
  have hz_417 : q_340 ∉ hL S := fun h9 => e_373 (hf_332.mem h9)
  have hN_418 : NL S ((L_325 ++ [q_328]) ++ [q_333, q_334, q_335, q_336, q_337, q_338, q_339, q_340]) S_380 := NL.app (show NL S (L_325 ++ [q_328]) (nO S_298 q_328 1) from NL.nO hN_324 hq_329 hz_330) hNl_378 (fun a9 h9 => hf_382.mem h9) (fun a9 h9 => hf_332.mem h9)
  obtain ⟨L_419, eL_420⟩ : ∃ L9 : List Nat, L9 = ((L_325 ++ [q_328]) ++ [q_333, q_334, q_335, q_336, q_337, q_338, q_339, q_340]) := ⟨_, rfl⟩
  rw [← eL_420] at hN_418
  have hGt_421 : Gt 2 [q_328, q_333, q_334, q_335, q_336, q_337, q_338, q_339, q_340] S_380 := ⟨fun i9 k9 h9 => (match i9, h9 with | 0, h9 => (by have e9 : (1 : Nat) = k9 := Option.some.inj h9; subst e9; exact ⟨hm_397, hk_398⟩) | 1, h9 => (by have e9 : (7 : Nat) = k9 := Option.some.inj h9; subst e9; exact ⟨e_342, e_343⟩) | 2, h9 => (by have e9 : (14 : Nat) = k9 := Option.some.inj h9; subst e9; exact ⟨e_346, e_347⟩) | 3, h9 => (by have e9 : (4 : Nat) = k9 := Option.some.inj h9; subst e9; exact ⟨e_351, e_352⟩) | 4, h9 => (by have e9 : (14 : Nat) = k9 := Option.some.inj h9; subst e9; exact ⟨e_355, e_356⟩) | 5, h9 => (by have e9 : (10 : Nat) = k9 := Option.some.inj h9; subst e9; exact ⟨e_360, e_361⟩) | 6, h9 => (by have e9 : (15 : Nat) = k9 := Option.some.inj h9; subst e9; exact ⟨e_364, e_365⟩) | 7, h9 => (by have e9 : (14 : Nat) = k9 := Option.some.inj h9; subst e9; exact ⟨e_369, e_370⟩) | 8, h9 => (by have e9 : (14 : Nat) = k9 := Option.some.inj h9; subst e9; exact ⟨e_374, e_375⟩) | i9 + 9, h9 => absurd h9 (by simp [gT])), (List.forall_mem_cons.mpr ⟨e_348, (List.forall_mem_cons.mpr ⟨e_357, (List.forall_mem_cons.mpr ⟨e_366, (List.forall_mem_cons.mpr ⟨e_371, (List.forall_mem_cons.mpr ⟨e_376, (fun _ h9 => absurd h9 List.not_mem_nil)⟩)⟩)⟩)⟩)⟩), (List.forall_mem_cons.mpr ⟨e_344, (List.forall_mem_cons.mpr ⟨e_349, (List.forall_mem_cons.mpr ⟨e_353, (List.forall_mem_cons.mpr ⟨e_358, (List.forall_mem_cons.mpr ⟨e_362, (List.forall_mem_cons.mpr ⟨e_367, (List.forall_mem_cons.mpr ⟨e_372, (List.forall_mem_cons.mpr ⟨e_377, (fun _ h9 => absurd h9 List.not_mem_nil)⟩)⟩)⟩)⟩)⟩)⟩)⟩)⟩), (fun _ h9 => absurd h9 List.not_mem_nil)⟩
  have hG_422 : Gs h (gs_264 ++ [(2, [q_328, q_333, q_334, q_335, q_336, q_337, q_338, q_339, q_340])]) S_380 := Gs.snoc hG_409 (by decide) hGt_421 (List.forall_mem_cons.mpr ⟨(own_ne hz_330 hm), (List.forall_mem_cons.mpr ⟨(own_ne hz_410 hm), (List.forall_mem_cons.mpr ⟨(own_ne hz_330 hm), (List.forall_mem_cons.mpr ⟨(own_ne hz_412 hm), (List.forall_mem_cons.mpr ⟨(own_ne hz_330 hm), (List.forall_mem_cons.mpr ⟨(own_ne hz_414 hm), (List.forall_mem_cons.mpr ⟨(own_ne hz_330 hm), (List.forall_mem_cons.mpr ⟨(own_ne hz_330 hm), (fun _ h9 => absurd h9 List.not_mem_nil)⟩)⟩)⟩)⟩)⟩)⟩)⟩)⟩)
  obtain ⟨gs_423, eG_424⟩ : ∃ G9 : List (Nat × List Nat), G9 = gs_264 ++ [(2, [q_328, q_333, q_334, q_335, q_336, q_337, q_338, q_339, q_340])] := ⟨_, rfl⟩
  rw [← eG_424] at hG_422
  refine j_putrF (f := 909) C hm9 flX9_57o (by decide) rfl rfl dX9_init_93 hm_386 hk_387 rfl ?_
  refine j_aload_n C dX9_init_96 rfl 0 rfl ?_
  have hf_427 : Fm (fun _ _ => False) (fun f9 b9 => b9 = h) (fun _ => False) S (sR S_380 909 h (some q_328)) := (hf_407.sR _ (fun _ => rfl))
  refine j_new (N := 21) C (ci := 1) rfl rfl klX9_54 knX1 kiX1 (M.cells (by decide)) (M.slots (by decide)) dX9_init_97 (fun q_425 hq_426 => ?_)
  have hz_428 : q_425 ∉ hL S := fun h9 => hq_426 (hf_427.mem h9)
  have gn_429 : ∀ g9 ∈ gs_423, ∀ p9 ∈ (gT g9.1).2.2, g9.2.getD p9.2.1 0 ≠ q_425 := Gs.ne (Gs.sR (S := S_380) hG_422) hq_426
  refine j_dup C dX9_init_100 rfl ?_
  have hf_430 : Fm (fun _ _ => False) (fun f9 b9 => b9 = h) (fun _ => False) S (nO (sR S_380 909 h (some q_328)) q_425 1) := (hf_427.nO _ hq_426)
  refine j_callI C [] [.ref q_425, .ref h] mlX9_56 mcX1_init (c_X1_init (nO (sR S_380 909 h (some q_328)) q_425 1) q_425 mem_new (kd_nO' (k := 1))) (M.rm (by decide) (by decide) (Nat.le_of_ble_eq_true rfl) (Nat.le_of_ble_eq_true rfl)) rfl rfl (Nat.le_of_ble_eq_true rfl) dX9_init_101 (fun r_477 S_478 hp_479 => ?_)
  obtain ⟨rfl, hf_480, q_431, q_432, q_433, q_434, q_435, q_436, q_437, q_438, e_439, e_440, e_441, e_442, e_443, e_444, e_445, e_446, e_447, e_448, e_449, e_450, e_451, e_452, e_453, e_454, e_455, e_456, e_457, e_458, e_459, e_460, e_461, e_462, e_463, e_464, e_465, e_466, e_467, e_468, e_469, e_470, e_471, e_472, e_473, e_474, e_475, hNl_476⟩ := hp_479
  refine J.eq (st' := [.ref q_425, .ref h]) rfl rfl rfl ?_
  have hz_481 : ∀ j, aI S_478 q_161 j = 0 := fun j9 => (hf_480.ai (mem_old hm_388) (fun h9 => h9) j9).trans (hz_383 j9)
  have hz_482 : ∀ j, aI S_478 q_266 j = 0 := fun j9 => (hf_480.ai (mem_old hm_391) (fun h9 => h9) j9).trans (hz_384 j9)
  have hz_483 : ∀ j, aI S_478 q_295 j = 0 := fun j9 => (hf_480.ai (mem_old hm_394) (fun h9 => h9) j9).trans (hz_385 j9)
  have hm_484 : h ∈ hL S_478 := hf_480.mem (mem_old hm_386)
  have hk_485 : Kd S_478 h 9 := hf_480.kd (mem_old hm_386) (kd_nO (k := 1) hq_426 hm_386 hk_387)
  have hm_486 : q_161 ∈ hL S_478 := hf_480.mem (mem_old hm_388)
  have hk_487 : Kd S_478 q_161 20 := hf_480.kd (mem_old hm_388) (kd_nO (k := 1) hq_426 hm_388 hk_389)
  have hn_488 : Ln S_478 q_161 16 := hf_480.ln (mem_old hm_388) hn_390
  have hm_489 : q_266 ∈ hL S_478 := hf_480.mem (mem_old hm_391)
  have hk_490 : Kd S_478 q_266 13 := hf_480.kd (mem_old hm_391) (kd_nO (k := 1) hq_426 hm_391 hk_392)
  have hn_491 : Ln S_478 q_266 24000 := hf_480.ln (mem_old hm_391) hn_393
  have hm_492 : q_295 ∈ hL S_478 := hf_480.mem (mem_old hm_394)
  have hk_493 : Kd S_478 q_295 14 := hf_480.kd (mem_old hm_394) (kd_nO (k := 1) hq_426 hm_394 hk_395)
  have hn_494 : Ln S_478 q_295 16 := hf_480.ln (mem_old hm_394) hn_396
  have hm_495 : q_425 ∈ hL S_478 := hf_480.mem mem_new
  have hk_496 : Kd S_478 q_425 1 := hf_480.kd mem_new (kd_nO' (k := 1))
  have hv_497 : hR S_478 901 h = (some q_1) := hf_480.fr (mem_old hm_386) (fun q9 => (fun e9 => absurd (((kd_nO (k := 1) hq_426 hm_386 hk_387)).symm.trans ((congrArg (hK _) e9).trans (kd_nO' (k := 1)))) (by decide)) q9) (rd_nOR (k := 1) hq_426 hm_386 (rd_sRf (S := S_380) (g := 909) (a := h) (v := (some q_328)) (by decide) hv_399))
  have hv_498 : hR S_478 902 h = (some q_41) := hf_480.fr (mem_old hm_386) (fun q9 => (fun e9 => absurd (((kd_nO (k := 1) hq_426 hm_386 hk_387)).symm.trans ((congrArg (hK _) e9).trans (kd_nO' (k := 1)))) (by decide)) q9) (rd_nOR (k := 1) hq_426 hm_386 (rd_sRf (S := S_380) (g := 909) (a := h) (v := (some q_328)) (by decide) hv_400))
  have hv_499 : hR S_478 903 h = (some q_126) := hf_480.fr (mem_old hm_386) (fun q9 => (fun e9 => absurd (((kd_nO (k := 1) hq_426 hm_386 hk_387)).symm.trans ((congrArg (hK _) e9).trans (kd_nO' (k := 1)))) (by decide)) q9) (rd_nOR (k := 1) hq_426 hm_386 (rd_sRf (S := S_380) (g := 909) (a := h) (v := (some q_328)) (by decide) hv_401))
  have hv_500 : hR S_478 904 h = (some q_161) := hf_480.fr (mem_old hm_386) (fun q9 => (fun e9 => absurd (((kd_nO (k := 1) hq_426 hm_386 hk_387)).symm.trans ((congrArg (hK _) e9).trans (kd_nO' (k := 1)))) (by decide)) q9) (rd_nOR (k := 1) hq_426 hm_386 (rd_sRf (S := S_380) (g := 909) (a := h) (v := (some q_328)) (by decide) hv_402))
  have hv_501 : hR S_478 905 h = (some q_183) := hf_480.fr (mem_old hm_386) (fun q9 => (fun e9 => absurd (((kd_nO (k := 1) hq_426 hm_386 hk_387)).symm.trans ((congrArg (hK _) e9).trans (kd_nO' (k := 1)))) (by decide)) q9) (rd_nOR (k := 1) hq_426 hm_386 (rd_sRf (S := S_380) (g := 909) (a := h) (v := (some q_328)) (by decide) hv_403))
  have hv_502 : hR S_478 906 h = (some q_224) := hf_480.fr (mem_old hm_386) (fun q9 => (fun e9 => absurd (((kd_nO (k := 1) hq_426 hm_386 hk_387)).symm.trans ((congrArg (hK _) e9).trans (kd_nO' (k := 1)))) (by decide)) q9) (rd_nOR (k := 1) hq_426 hm_386 (rd_sRf (S := S_380) (g := 909) (a := h) (v := (some q_328)) (by decide) hv_404))
  have hv_503 : hR S_478 907 h = (some q_266) := hf_480.fr (mem_old hm_386) (fun q9 => (fun e9 => absurd (((kd_nO (k := 1) hq_426 hm_386 hk_387)).symm.trans ((congrArg (hK _) e9).trans (kd_nO' (k := 1)))) (by decide)) q9) (rd_nOR (k := 1) hq_426 hm_386 (rd_sRf (S := S_380) (g := 909) (a := h) (v := (some q_328)) (by decide) hv_405))
  have hv_504 : hR S_478 908 h = (some q_295) := hf_480.fr (mem_old hm_386) (fun q9 => (fun e9 => absurd (((kd_nO (k := 1) hq_426 hm_386 hk_387)).symm.trans ((congrArg (hK _) e9).trans (kd_nO' (k := 1)))) (by decide)) q9) (rd_nOR (k := 1) hq_426 hm_386 (rd_sRf (S := S_380) (g := 909) (a := h) (v := (some q_328)) (by decide) hv_406))
  have hv_505 : hR S_478 909 h = (some q_328) := hf_480.fr (mem_old hm_386) (fun q9 => (fun e9 => absurd (((kd_nO (k := 1) hq_426 hm_386 hk_387)).symm.trans ((congrArg (hK _) e9).trans (kd_nO' (k := 1)))) (by decide)) q9) (rd_nOR (k := 1) hq_426 hm_386 (rd_sR (S := S_380) (g := 909) (a := h) (v := (some q_328))))
  have hf_506 : Fm (fun _ _ => False) (fun f9 b9 => b9 = h) (fun _ => False) S S_478 := hf_430.then hf_480 (fun a9 ha9 => ⟨(fun f9 h9 => h9.elim), (fun f9 h9 => (fun h8 => absurd (h8 ▸ ha9) hz_428) h9), (fun h9 => h9.elim)⟩)
  have hN_507 : NL S (L_419 ++ [q_425]) S_478 := NL.mono (show NL S (L_419 ++ [q_425]) (nO (sR S_380 909 h (some q_328)) q_425 1) from NL.nO (NL.sR (S := S_380) hN_418) hq_426 hz_428) (fun a9 h9 => hf_480.mem h9)
  have hG_508 : Gs h gs_423 S_478 := Gs.fm (show Gs h gs_423 (nO (sR S_380 909 h (some q_328)) q_425 1) from Gs.nO (Gs.sR (S := S_380) hG_422) hq_426) hf_480 (fun g9 hg9 p9 hp9 => gn_429 g9 hg9 p9 hp9)
  have hz_509 : q_431 ∉ hL S := fun h9 => e_439 (hf_430.mem h9)
  have hz_510 : q_432 ∉ hL S := fun h9 => e_443 (hf_430.mem h9)
  have hz_511 : q_433 ∉ hL S := fun h9 => e_448 (hf_430.mem h9)
  have hz_512 : q_434 ∉ hL S := fun h9 => e_452 (hf_430.mem h9)
  have hz_513 : q_435 ∉ hL S := fun h9 => e_457 (hf_430.mem h9)
  have hz_514 : q_436 ∉ hL S := fun h9 => e_461 (hf_430.mem h9)
  have hz_515 : q_437 ∉ hL S := fun h9 => e_466 (hf_430.mem h9)
  have hz_516 : q_438 ∉ hL S := fun h9 => e_471 (hf_430.mem h9)
  have hN_517 : NL S ((L_419 ++ [q_425]) ++ [q_431, q_432, q_433, q_434, q_435, q_436, q_437, q_438]) S_478 := NL.app (show NL S (L_419 ++ [q_425]) (nO (sR S_380 909 h (some q_328)) q_425 1) from NL.nO (NL.sR (S := S_380) hN_418) hq_426 hz_428) hNl_476 (fun a9 h9 => hf_480.mem h9) (fun a9 h9 => hf_430.mem h9)
  obtain ⟨L_518, eL_519⟩ : ∃ L9 : List Nat, L9 = ((L_419 ++ [q_425]) ++ [q_431, q_432, q_433, q_434, q_435, q_436, q_437, q_438]) := ⟨_, rfl⟩
  rw [← eL_519] at hN_517
  have hGt_520 : Gt 2 [q_425, q_431, q_432, q_433, q_434, q_435, q_436, q_437, q_438] S_478 := ⟨fun i9 k9 h9 => (match i9, h9 with | 0, h9 => (by have e9 : (1 : Nat) = k9 := Option.some.inj h9; subst e9; exact ⟨hm_495, hk_496⟩) | 1, h9 => (by have e9 : (7 : Nat) = k9 := Option.some.inj h9; subst e9; exact ⟨e_440, e_441⟩) | 2, h9 => (by have e9 : (14 : Nat) = k9 := Option.some.inj h9; subst e9; exact ⟨e_444, e_445⟩) | 3, h9 => (by have e9 : (4 : Nat) = k9 := Option.some.inj h9; subst e9; exact ⟨e_449, e_450⟩) | 4, h9 => (by have e9 : (14 : Nat) = k9 := Option.some.inj h9; subst e9; exact ⟨e_453, e_454⟩) | 5, h9 => (by have e9 : (10 : Nat) = k9 := Option.some.inj h9; subst e9; exact ⟨e_458, e_459⟩) | 6, h9 => (by have e9 : (15 : Nat) = k9 := Option.some.inj h9; subst e9; exact ⟨e_462, e_463⟩) | 7, h9 => (by have e9 : (14 : Nat) = k9 := Option.some.inj h9; subst e9; exact ⟨e_467, e_468⟩) | 8, h9 => (by have e9 : (14 : Nat) = k9 := Option.some.inj h9; subst e9; exact ⟨e_472, e_473⟩) | i9 + 9, h9 => absurd h9 (by simp [gT])), (List.forall_mem_cons.mpr ⟨e_446, (List.forall_mem_cons.mpr ⟨e_455, (List.forall_mem_cons.mpr ⟨e_464, (List.forall_mem_cons.mpr ⟨e_469, (List.forall_mem_cons.mpr ⟨e_474, (fun _ h9 => absurd h9 List.not_mem_nil)⟩)⟩)⟩)⟩)⟩), (List.forall_mem_cons.mpr ⟨e_442, (List.forall_mem_cons.mpr ⟨e_447, (List.forall_mem_cons.mpr ⟨e_451, (List.forall_mem_cons.mpr ⟨e_456, (List.forall_mem_cons.mpr ⟨e_460, (List.forall_mem_cons.mpr ⟨e_465, (List.forall_mem_cons.mpr ⟨e_470, (List.forall_mem_cons.mpr ⟨e_475, (fun _ h9 => absurd h9 List.not_mem_nil)⟩)⟩)⟩)⟩)⟩)⟩)⟩)⟩), (fun _ h9 => absurd h9 List.not_mem_nil)⟩
  have hG_521 : Gs h (gs_423 ++ [(2, [q_425, q_431, q_432, q_433, q_434, q_435, q_436, q_437, q_438])]) S_478 := Gs.snoc hG_508 (by decide) hGt_520 (List.forall_mem_cons.mpr ⟨(own_ne hz_428 hm), (List.forall_mem_cons.mpr ⟨(own_ne hz_509 hm), (List.forall_mem_cons.mpr ⟨(own_ne hz_428 hm), (List.forall_mem_cons.mpr ⟨(own_ne hz_511 hm), (List.forall_mem_cons.mpr ⟨(own_ne hz_428 hm), (List.forall_mem_cons.mpr ⟨(own_ne hz_513 hm), (List.forall_mem_cons.mpr ⟨(own_ne hz_428 hm), (List.forall_mem_cons.mpr ⟨(own_ne hz_428 hm), (fun _ h9 => absurd h9 List.not_mem_nil)⟩)⟩)⟩)⟩)⟩)⟩)⟩)⟩)
  obtain ⟨gs_522, eG_523⟩ : ∃ G9 : List (Nat × List Nat), G9 = gs_423 ++ [(2, [q_425, q_431, q_432, q_433, q_434, q_435, q_436, q_437, q_438])] := ⟨_, rfl⟩
  rw [← eG_523] at hG_521
  show J _ _ _ _ _ 104 _
  refine j_putrF (f := 910) C hm9 flX9_61o (by decide) rfl rfl dX9_init_104 hm_484 hk_485 rfl ?_
  refine j_aload_n C dX9_init_107 rfl 0 rfl ?_
  refine j_iconst (v := 3) C dX9_init_108 (by decide) ?_
  have hf_526 : Fm (fun _ _ => False) (fun f9 b9 => b9 = h) (fun _ => False) S (sR S_478 910 h (some q_425)) := (hf_506.sR _ (fun _ => rfl))
  refine j_newQ (N := 3) C 18 (by decide) rfl klX9_54 (gx_Environment C) (by decide) (by decide) (by decide) (M.cells (by decide)) (M.slots (by decide)) dX9_init_109 (fun q_524 hq_525 => ?_)
  have hz_527 : q_524 ∉ hL S := fun h9 => hq_525 (hf_526.mem h9)
  refine j_putrF (f := 911) C hm9 flX9_64o (by decide) rfl rfl dX9_init_112 (mem_old hm_484) (kd_nA (k := 18) (n := 3) hq_525 hm_484 hk_485) rfl ?_
  refine j_aload_n C dX9_init_115 rfl 0 rfl ?_
  refine j_iconst (v := 4) C dX9_init_116 (by decide) ?_
  have hf_530 : Fm (fun _ _ => False) (fun f9 b9 => b9 = h) (fun _ => False) S (sR (nA (sR S_478 910 h (some q_425)) q_524 18 3) 911 h (some q_524)) := ((hf_526.nA _ _ hq_525).sR _ (fun _ => rfl))
  obtain ⟨S_528, eS_529⟩ : ∃ S9 : Hp, S9 = (sR (nA (sR S_478 910 h (some q_425)) q_524 18 3) 911 h (some q_524)) := ⟨_, rfl⟩
  refine J.eq (S' := S_528) eS_529.symm rfl rfl ?_
  have hm_531 : h ∈ hL S_528 := by rw [eS_529]; exact (mem_old hm_484)
  have hk_532 : Kd S_528 h 9 := by rw [eS_529]; exact (kd_nA (k := 18) (n := 3) hq_525 hm_484 hk_485)
  have hm_533 : q_161 ∈ hL S_528 := by rw [eS_529]; exact (mem_old hm_486)
  have hk_534 : Kd S_528 q_161 20 := by rw [eS_529]; exact (kd_nA (k := 18) (n := 3) hq_525 hm_486 hk_487)
  have hn_535 : Ln S_528 q_161 16 := by rw [eS_529]; exact (ln_nA (k := 18) hq_525 hm_486 hn_488)
  have hz_536 : ∀ j, aI S_528 q_161 j = 0 := by rw [eS_529]; exact (fun j9 => rd_nAI (k := 18) (n := 3) hq_525 hm_486 (hz_481 j9))
  have hm_537 : q_266 ∈ hL S_528 := by rw [eS_529]; exact (mem_old hm_489)
  have hk_538 : Kd S_528 q_266 13 := by rw [eS_529]; exact (kd_nA (k := 18) (n := 3) hq_525 hm_489 hk_490)
  have hn_539 : Ln S_528 q_266 24000 := by rw [eS_529]; exact (ln_nA (k := 18) hq_525 hm_489 hn_491)
  have hz_540 : ∀ j, aI S_528 q_266 j = 0 := by rw [eS_529]; exact (fun j9 => rd_nAI (k := 18) (n := 3) hq_525 hm_489 (hz_482 j9))
  have hm_541 : q_295 ∈ hL S_528 := by rw [eS_529]; exact (mem_old hm_492)
  have hk_542 : Kd S_528 q_295 14 := by rw [eS_529]; exact (kd_nA (k := 18) (n := 3) hq_525 hm_492 hk_493)
  have hn_543 : Ln S_528 q_295 16 := by rw [eS_529]; exact (ln_nA (k := 18) hq_525 hm_492 hn_494)
  have hz_544 : ∀ j, aI S_528 q_295 j = 0 := by rw [eS_529]; exact (fun j9 => rd_nAI (k := 18) (n := 3) hq_525 hm_492 (hz_483 j9))
  have hm_545 : q_524 ∈ hL S_528 := by rw [eS_529]; exact mem_new
  have hk_546 : Kd S_528 q_524 18 := by rw [eS_529]; exact (kd_nA' (k := 18) (n := 3))
  have hn_547 : Ln S_528 q_524 3 := by rw [eS_529]; exact (ln_nA' (k := 18))
  have hz_548 : ∀ j, aI S_528 q_524 j = 0 := by rw [eS_529]; exact (fun j9 => rd_nAI' (k := 18) (n := 3))
  have hv_549 : hR S_528 901 h = (some q_1) := by rw [eS_529]; exact (rd_sRf (S := (nA (sR S_478 910 h (some q_425)) q_524 18 3)) (g := 911) (a := h) (v := (some q_524)) (by decide) (rd_sRf (S := S_478) (g := 910) (a := h) (v := (some q_425)) (by decide) hv_497))
  have hv_550 : hR S_528 902 h = (some q_41) := by rw [eS_529]; exact (rd_sRf (S := (nA (sR S_478 910 h (some q_425)) q_524 18 3)) (g := 911) (a := h) (v := (some q_524)) (by decide) (rd_sRf (S := S_478) (g := 910) (a := h) (v := (some q_425)) (by decide) hv_498))
  have hv_551 : hR S_528 903 h = (some q_126) := by rw [eS_529]; exact (rd_sRf (S := (nA (sR S_478 910 h (some q_425)) q_524 18 3)) (g := 911) (a := h) (v := (some q_524)) (by decide) (rd_sRf (S := S_478) (g := 910) (a := h) (v := (some q_425)) (by decide) hv_499))
  have hv_552 : hR S_528 904 h = (some q_161) := by rw [eS_529]; exact (rd_sRf (S := (nA (sR S_478 910 h (some q_425)) q_524 18 3)) (g := 911) (a := h) (v := (some q_524)) (by decide) (rd_sRf (S := S_478) (g := 910) (a := h) (v := (some q_425)) (by decide) hv_500))
  have hv_553 : hR S_528 905 h = (some q_183) := by rw [eS_529]; exact (rd_sRf (S := (nA (sR S_478 910 h (some q_425)) q_524 18 3)) (g := 911) (a := h) (v := (some q_524)) (by decide) (rd_sRf (S := S_478) (g := 910) (a := h) (v := (some q_425)) (by decide) hv_501))
  have hv_554 : hR S_528 906 h = (some q_224) := by rw [eS_529]; exact (rd_sRf (S := (nA (sR S_478 910 h (some q_425)) q_524 18 3)) (g := 911) (a := h) (v := (some q_524)) (by decide) (rd_sRf (S := S_478) (g := 910) (a := h) (v := (some q_425)) (by decide) hv_502))
  have hv_555 : hR S_528 907 h = (some q_266) := by rw [eS_529]; exact (rd_sRf (S := (nA (sR S_478 910 h (some q_425)) q_524 18 3)) (g := 911) (a := h) (v := (some q_524)) (by decide) (rd_sRf (S := S_478) (g := 910) (a := h) (v := (some q_425)) (by decide) hv_503))
  have hv_556 : hR S_528 908 h = (some q_295) := by rw [eS_529]; exact (rd_sRf (S := (nA (sR S_478 910 h (some q_425)) q_524 18 3)) (g := 911) (a := h) (v := (some q_524)) (by decide) (rd_sRf (S := S_478) (g := 910) (a := h) (v := (some q_425)) (by decide) hv_504))
  have hv_557 : hR S_528 909 h = (some q_328) := by rw [eS_529]; exact (rd_sRf (S := (nA (sR S_478 910 h (some q_425)) q_524 18 3)) (g := 911) (a := h) (v := (some q_524)) (by decide) (rd_sRf (S := S_478) (g := 910) (a := h) (v := (some q_425)) (by decide) hv_505))
  have hv_558 : hR S_528 910 h = (some q_425) := by rw [eS_529]; exact (rd_sRf (S := (nA (sR S_478 910 h (some q_425)) q_524 18 3)) (g := 911) (a := h) (v := (some q_524)) (by decide) (rd_sR (S := S_478) (g := 910) (a := h) (v := (some q_425))))
  have hv_559 : hR S_528 911 h = (some q_524) := by rw [eS_529]; exact (rd_sR (S := (nA (sR S_478 910 h (some q_425)) q_524 18 3)) (g := 911) (a := h) (v := (some q_524)))
  have hf_560 : Fm (fun _ _ => False) (fun f9 b9 => b9 = h) (fun _ => False) S S_528 := by rw [eS_529]; exact hf_530
  have hN_561 : NL S (L_518 ++ [q_524]) S_528 := by rw [eS_529]; exact (NL.sR (S := (nA (sR S_478 910 h (some q_425)) q_524 18 3)) (show NL S (L_518 ++ [q_524]) (nA (sR S_478 910 h (some q_425)) q_524 18 3) from NL.nA (NL.sR (S := S_478) hN_517) hq_525 hz_527))
  obtain ⟨L_562, eL_563⟩ : ∃ L9 : List Nat, L9 = (L_518 ++ [q_524]) := ⟨_, rfl⟩
  rw [← eL_563] at hN_561
  have hG_564 : Gs h gs_522 S_528 := by rw [eS_529]; exact (Gs.sR (S := (nA (sR S_478 910 h (some q_425)) q_524 18 3)) (show Gs h gs_522 (nA (sR S_478 910 h (some q_425)) q_524 18 3) from Gs.nA (Gs.sR (S := S_478) hG_521) hq_525))
  refine j_newQ (N := 4) C 19 (by decide) rfl klX9_68 (gx_Reading C) (by decide) (by decide) (by decide) (M.cells (by decide)) (M.slots (by decide)) dX9_init_117 (fun q_565 hq_566 => ?_)
  have hz_567 : q_565 ∉ hL S := fun h9 => hq_566 (hf_560.mem h9)
  show J _ _ _ _ _ 120 _
  refine j_putrF (f := 912) C hm9 flX9_70o (by decide) rfl rfl dX9_init_120 (mem_old hm_531) (kd_nA (k := 19) (n := 4) hq_566 hm_531 hk_532) rfl ?_
  refine j_aload_n C dX9_init_123 rfl 0 rfl ?_
  refine j_bipush (v := 12) C dX9_init_124 (by decide) ?_
  have hf_570 : Fm (fun _ _ => False) (fun f9 b9 => b9 = h) (fun _ => False) S (sR (nA S_528 q_565 19 4) 912 h (some q_565)) := ((hf_560.nA _ _ hq_566).sR _ (fun _ => rfl))
  obtain ⟨S_568, eS_569⟩ : ∃ S9 : Hp, S9 = (sR (nA S_528 q_565 19 4) 912 h (some q_565)) := ⟨_, rfl⟩
  refine J.eq (S' := S_568) eS_569.symm rfl rfl ?_
  have hm_571 : h ∈ hL S_568 := by rw [eS_569]; exact (mem_old hm_531)
  have hk_572 : Kd S_568 h 9 := by rw [eS_569]; exact (kd_nA (k := 19) (n := 4) hq_566 hm_531 hk_532)
  have hm_573 : q_161 ∈ hL S_568 := by rw [eS_569]; exact (mem_old hm_533)
  have hk_574 : Kd S_568 q_161 20 := by rw [eS_569]; exact (kd_nA (k := 19) (n := 4) hq_566 hm_533 hk_534)
  have hn_575 : Ln S_568 q_161 16 := by rw [eS_569]; exact (ln_nA (k := 19) hq_566 hm_533 hn_535)
  have hz_576 : ∀ j, aI S_568 q_161 j = 0 := by rw [eS_569]; exact (fun j9 => rd_nAI (k := 19) (n := 4) hq_566 hm_533 (hz_536 j9))
  have hm_577 : q_266 ∈ hL S_568 := by rw [eS_569]; exact (mem_old hm_537)
  have hk_578 : Kd S_568 q_266 13 := by rw [eS_569]; exact (kd_nA (k := 19) (n := 4) hq_566 hm_537 hk_538)
  have hn_579 : Ln S_568 q_266 24000 := by rw [eS_569]; exact (ln_nA (k := 19) hq_566 hm_537 hn_539)
  have hz_580 : ∀ j, aI S_568 q_266 j = 0 := by rw [eS_569]; exact (fun j9 => rd_nAI (k := 19) (n := 4) hq_566 hm_537 (hz_540 j9))
  have hm_581 : q_295 ∈ hL S_568 := by rw [eS_569]; exact (mem_old hm_541)
  have hk_582 : Kd S_568 q_295 14 := by rw [eS_569]; exact (kd_nA (k := 19) (n := 4) hq_566 hm_541 hk_542)
  have hn_583 : Ln S_568 q_295 16 := by rw [eS_569]; exact (ln_nA (k := 19) hq_566 hm_541 hn_543)
  have hz_584 : ∀ j, aI S_568 q_295 j = 0 := by rw [eS_569]; exact (fun j9 => rd_nAI (k := 19) (n := 4) hq_566 hm_541 (hz_544 j9))
  have hm_585 : q_524 ∈ hL S_568 := by rw [eS_569]; exact (mem_old hm_545)
  have hk_586 : Kd S_568 q_524 18 := by rw [eS_569]; exact (kd_nA (k := 19) (n := 4) hq_566 hm_545 hk_546)
  have hn_587 : Ln S_568 q_524 3 := by rw [eS_569]; exact (ln_nA (k := 19) hq_566 hm_545 hn_547)
  have hz_588 : ∀ j, aI S_568 q_524 j = 0 := by rw [eS_569]; exact (fun j9 => rd_nAI (k := 19) (n := 4) hq_566 hm_545 (hz_548 j9))
  have hm_589 : q_565 ∈ hL S_568 := by rw [eS_569]; exact mem_new
  have hk_590 : Kd S_568 q_565 19 := by rw [eS_569]; exact (kd_nA' (k := 19) (n := 4))
  have hn_591 : Ln S_568 q_565 4 := by rw [eS_569]; exact (ln_nA' (k := 19))
  have hz_592 : ∀ j, aI S_568 q_565 j = 0 := by rw [eS_569]; exact (fun j9 => rd_nAI' (k := 19) (n := 4))
  have hv_593 : hR S_568 901 h = (some q_1) := by rw [eS_569]; exact (rd_sRf (S := (nA S_528 q_565 19 4)) (g := 912) (a := h) (v := (some q_565)) (by decide) hv_549)
  have hv_594 : hR S_568 902 h = (some q_41) := by rw [eS_569]; exact (rd_sRf (S := (nA S_528 q_565 19 4)) (g := 912) (a := h) (v := (some q_565)) (by decide) hv_550)
  have hv_595 : hR S_568 903 h = (some q_126) := by rw [eS_569]; exact (rd_sRf (S := (nA S_528 q_565 19 4)) (g := 912) (a := h) (v := (some q_565)) (by decide) hv_551)
  have hv_596 : hR S_568 904 h = (some q_161) := by rw [eS_569]; exact (rd_sRf (S := (nA S_528 q_565 19 4)) (g := 912) (a := h) (v := (some q_565)) (by decide) hv_552)
  have hv_597 : hR S_568 905 h = (some q_183) := by rw [eS_569]; exact (rd_sRf (S := (nA S_528 q_565 19 4)) (g := 912) (a := h) (v := (some q_565)) (by decide) hv_553)
  have hv_598 : hR S_568 906 h = (some q_224) := by rw [eS_569]; exact (rd_sRf (S := (nA S_528 q_565 19 4)) (g := 912) (a := h) (v := (some q_565)) (by decide) hv_554)
  have hv_599 : hR S_568 907 h = (some q_266) := by rw [eS_569]; exact (rd_sRf (S := (nA S_528 q_565 19 4)) (g := 912) (a := h) (v := (some q_565)) (by decide) hv_555)
  have hv_600 : hR S_568 908 h = (some q_295) := by rw [eS_569]; exact (rd_sRf (S := (nA S_528 q_565 19 4)) (g := 912) (a := h) (v := (some q_565)) (by decide) hv_556)
  have hv_601 : hR S_568 909 h = (some q_328) := by rw [eS_569]; exact (rd_sRf (S := (nA S_528 q_565 19 4)) (g := 912) (a := h) (v := (some q_565)) (by decide) hv_557)
  have hv_602 : hR S_568 910 h = (some q_425) := by rw [eS_569]; exact (rd_sRf (S := (nA S_528 q_565 19 4)) (g := 912) (a := h) (v := (some q_565)) (by decide) hv_558)
  have hv_603 : hR S_568 911 h = (some q_524) := by rw [eS_569]; exact (rd_sRf (S := (nA S_528 q_565 19 4)) (g := 912) (a := h) (v := (some q_565)) (by decide) hv_559)
  have hv_604 : hR S_568 912 h = (some q_565) := by rw [eS_569]; exact (rd_sR (S := (nA S_528 q_565 19 4)) (g := 912) (a := h) (v := (some q_565)))
  have hf_605 : Fm (fun _ _ => False) (fun f9 b9 => b9 = h) (fun _ => False) S S_568 := by rw [eS_569]; exact hf_570
  have hN_606 : NL S (L_562 ++ [q_565]) S_568 := by rw [eS_569]; exact (NL.sR (S := (nA S_528 q_565 19 4)) (show NL S (L_562 ++ [q_565]) (nA S_528 q_565 19 4) from NL.nA hN_561 hq_566 hz_567))
  obtain ⟨L_607, eL_608⟩ : ∃ L9 : List Nat, L9 = (L_562 ++ [q_565]) := ⟨_, rfl⟩
  rw [← eL_608] at hN_606
  have hG_609 : Gs h gs_522 S_568 := by rw [eS_569]; exact (Gs.sR (S := (nA S_528 q_565 19 4)) (show Gs h gs_522 (nA S_528 q_565 19 4) from Gs.nA hG_564 hq_566))
  refine j_newI (N := 12) C ka_int (by decide) (by decide) (Nat.le_of_ble_eq_true rfl) (M.cells (by decide)) (M.slots (Nat.le_of_ble_eq_true rfl)) dX9_init_126 (fun q_610 hq_611 => ?_)
  have hz_612 : q_610 ∉ hL S := fun h9 => hq_611 (hf_605.mem h9)
  refine j_putrF (f := 917) C hm9 flX9_74o (by decide) rfl rfl dX9_init_128 (mem_old hm_571) (kd_nA (k := 14) (n := 12) hq_611 hm_571 hk_572) rfl ?_
  refine j_aload_n C dX9_init_131 rfl 0 rfl ?_
  refine j_aload_n C dX9_init_132 rfl 1 rfl ?_
  refine j_putrF (f := 900) C hm9 flX9_77o (by decide) rfl rfl dX9_init_133 (mem_old hm_571) (kd_nA (k := 14) (n := 12) hq_611 hm_571 hk_572) rfl ?_
  show J _ _ _ _ _ 136 _
  refine j_iconst (v := 0) C dX9_init_136 (by decide) ?_
  refine j_istore_n (lv' := [(2, .int 0), (0, .ref h), (1, .ref s0)]) C dX9_init_137 rfl (by rw [hn9]; decide) rfl ?_
  refine j_iload_n C dX9_init_138 rfl 0 rfl ?_
  refine j_aload_n C dX9_init_139 rfl 1 rfl ?_
  refine j_getr (f := 904) (v := q_161) C flX9_34 dX9_init_140 (mem_old hm_571) (kd_nA (k := 14) (n := 12) hq_611 hm_571 hk_572) (by decide) rfl (rd_sRf (S := (sR (nA S_568 q_610 14 12) 917 h (some q_610))) (g := 900) (a := h) (v := (some s0)) (by decide) (rd_sRf (S := (nA S_568 q_610 14 12)) (g := 917) (a := h) (v := (some q_610)) (by decide) hv_596)) ?_
  refine j_alen (v := 16) C dX9_init_143 (mem_old hm_573) (kd_nA (k := 14) (n := 12) hq_611 hm_573 hk_574) (by decide) (by decide) (len_of (n := 16) (ln_nA (k := 14) hq_611 hm_573 hn_575) (by decide)) ?_
  refine j_ic_ge (tgt := 166) C dX9_init_144 (by decide) (fun c9 => absurd c9 (by decide)) (fun c9 => ?_)
  refine j_aload_n C dX9_init_147 rfl 1 rfl ?_
  show J _ _ _ _ _ 148 _
  refine j_getr (f := 904) (v := q_161) C flX9_34 dX9_init_148 (mem_old hm_571) (kd_nA (k := 14) (n := 12) hq_611 hm_571 hk_572) (by decide) rfl (rd_sRf (S := (sR (nA S_568 q_610 14 12) 917 h (some q_610))) (g := 900) (a := h) (v := (some s0)) (by decide) (rd_sRf (S := (nA S_568 q_610 14 12)) (g := 917) (a := h) (v := (some q_610)) (by decide) hv_596)) ?_
  refine j_iload_n C dX9_init_151 rfl 0 rfl ?_
  have hf_615 : Fm (fun _ _ => False) (fun f9 b9 => b9 = h) (fun _ => False) S (sR (sR (nA S_568 q_610 14 12) 917 h (some q_610)) 900 h (some s0)) := (((hf_605.nA _ _ hq_611).sR _ (fun _ => rfl)).sR _ (fun _ => rfl))
  obtain ⟨S_613, eS_614⟩ : ∃ S9 : Hp, S9 = (sR (sR (nA S_568 q_610 14 12) 917 h (some q_610)) 900 h (some s0)) := ⟨_, rfl⟩
  refine J.eq (S' := S_613) eS_614.symm rfl rfl ?_
  have hm_616 : h ∈ hL S_613 := by rw [eS_614]; exact (mem_old hm_571)
  have hk_617 : Kd S_613 h 9 := by rw [eS_614]; exact (kd_nA (k := 14) (n := 12) hq_611 hm_571 hk_572)
  have hm_618 : q_161 ∈ hL S_613 := by rw [eS_614]; exact (mem_old hm_573)
  have hk_619 : Kd S_613 q_161 20 := by rw [eS_614]; exact (kd_nA (k := 14) (n := 12) hq_611 hm_573 hk_574)
  have hn_620 : Ln S_613 q_161 16 := by rw [eS_614]; exact (ln_nA (k := 14) hq_611 hm_573 hn_575)
  have hz_621 : ∀ j, aI S_613 q_161 j = 0 := by rw [eS_614]; exact (fun j9 => rd_nAI (k := 14) (n := 12) hq_611 hm_573 (hz_576 j9))
  have hm_622 : q_266 ∈ hL S_613 := by rw [eS_614]; exact (mem_old hm_577)
  have hk_623 : Kd S_613 q_266 13 := by rw [eS_614]; exact (kd_nA (k := 14) (n := 12) hq_611 hm_577 hk_578)
  have hn_624 : Ln S_613 q_266 24000 := by rw [eS_614]; exact (ln_nA (k := 14) hq_611 hm_577 hn_579)
  have hz_625 : ∀ j, aI S_613 q_266 j = 0 := by rw [eS_614]; exact (fun j9 => rd_nAI (k := 14) (n := 12) hq_611 hm_577 (hz_580 j9))
  have hm_626 : q_295 ∈ hL S_613 := by rw [eS_614]; exact (mem_old hm_581)
  have hk_627 : Kd S_613 q_295 14 := by rw [eS_614]; exact (kd_nA (k := 14) (n := 12) hq_611 hm_581 hk_582)
  have hn_628 : Ln S_613 q_295 16 := by rw [eS_614]; exact (ln_nA (k := 14) hq_611 hm_581 hn_583)
  have hz_629 : ∀ j, aI S_613 q_295 j = 0 := by rw [eS_614]; exact (fun j9 => rd_nAI (k := 14) (n := 12) hq_611 hm_581 (hz_584 j9))
  have hm_630 : q_524 ∈ hL S_613 := by rw [eS_614]; exact (mem_old hm_585)
  have hk_631 : Kd S_613 q_524 18 := by rw [eS_614]; exact (kd_nA (k := 14) (n := 12) hq_611 hm_585 hk_586)
  have hn_632 : Ln S_613 q_524 3 := by rw [eS_614]; exact (ln_nA (k := 14) hq_611 hm_585 hn_587)
  have hz_633 : ∀ j, aI S_613 q_524 j = 0 := by rw [eS_614]; exact (fun j9 => rd_nAI (k := 14) (n := 12) hq_611 hm_585 (hz_588 j9))
  have hm_634 : q_565 ∈ hL S_613 := by rw [eS_614]; exact (mem_old hm_589)
  have hk_635 : Kd S_613 q_565 19 := by rw [eS_614]; exact (kd_nA (k := 14) (n := 12) hq_611 hm_589 hk_590)
  have hn_636 : Ln S_613 q_565 4 := by rw [eS_614]; exact (ln_nA (k := 14) hq_611 hm_589 hn_591)
  have hz_637 : ∀ j, aI S_613 q_565 j = 0 := by rw [eS_614]; exact (fun j9 => rd_nAI (k := 14) (n := 12) hq_611 hm_589 (hz_592 j9))
  have hm_638 : q_610 ∈ hL S_613 := by rw [eS_614]; exact mem_new
  have hk_639 : Kd S_613 q_610 14 := by rw [eS_614]; exact (kd_nA' (k := 14) (n := 12))
  have hn_640 : Ln S_613 q_610 12 := by rw [eS_614]; exact (ln_nA' (k := 14))
  have hz_641 : ∀ j, aI S_613 q_610 j = 0 := by rw [eS_614]; exact (fun j9 => rd_nAI' (k := 14) (n := 12))
  have hv_642 : hR S_613 900 h = (some s0) := by rw [eS_614]; exact (rd_sR (S := (sR (nA S_568 q_610 14 12) 917 h (some q_610))) (g := 900) (a := h) (v := (some s0)))
  have hv_643 : hR S_613 901 h = (some q_1) := by rw [eS_614]; exact (rd_sRf (S := (sR (nA S_568 q_610 14 12) 917 h (some q_610))) (g := 900) (a := h) (v := (some s0)) (by decide) (rd_sRf (S := (nA S_568 q_610 14 12)) (g := 917) (a := h) (v := (some q_610)) (by decide) hv_593))
  have hv_644 : hR S_613 902 h = (some q_41) := by rw [eS_614]; exact (rd_sRf (S := (sR (nA S_568 q_610 14 12) 917 h (some q_610))) (g := 900) (a := h) (v := (some s0)) (by decide) (rd_sRf (S := (nA S_568 q_610 14 12)) (g := 917) (a := h) (v := (some q_610)) (by decide) hv_594))
  have hv_645 : hR S_613 903 h = (some q_126) := by rw [eS_614]; exact (rd_sRf (S := (sR (nA S_568 q_610 14 12) 917 h (some q_610))) (g := 900) (a := h) (v := (some s0)) (by decide) (rd_sRf (S := (nA S_568 q_610 14 12)) (g := 917) (a := h) (v := (some q_610)) (by decide) hv_595))
  have hv_646 : hR S_613 904 h = (some q_161) := by rw [eS_614]; exact (rd_sRf (S := (sR (nA S_568 q_610 14 12) 917 h (some q_610))) (g := 900) (a := h) (v := (some s0)) (by decide) (rd_sRf (S := (nA S_568 q_610 14 12)) (g := 917) (a := h) (v := (some q_610)) (by decide) hv_596))
  have hv_647 : hR S_613 905 h = (some q_183) := by rw [eS_614]; exact (rd_sRf (S := (sR (nA S_568 q_610 14 12) 917 h (some q_610))) (g := 900) (a := h) (v := (some s0)) (by decide) (rd_sRf (S := (nA S_568 q_610 14 12)) (g := 917) (a := h) (v := (some q_610)) (by decide) hv_597))
  have hv_648 : hR S_613 906 h = (some q_224) := by rw [eS_614]; exact (rd_sRf (S := (sR (nA S_568 q_610 14 12) 917 h (some q_610))) (g := 900) (a := h) (v := (some s0)) (by decide) (rd_sRf (S := (nA S_568 q_610 14 12)) (g := 917) (a := h) (v := (some q_610)) (by decide) hv_598))
  have hv_649 : hR S_613 907 h = (some q_266) := by rw [eS_614]; exact (rd_sRf (S := (sR (nA S_568 q_610 14 12) 917 h (some q_610))) (g := 900) (a := h) (v := (some s0)) (by decide) (rd_sRf (S := (nA S_568 q_610 14 12)) (g := 917) (a := h) (v := (some q_610)) (by decide) hv_599))
  have hv_650 : hR S_613 908 h = (some q_295) := by rw [eS_614]; exact (rd_sRf (S := (sR (nA S_568 q_610 14 12) 917 h (some q_610))) (g := 900) (a := h) (v := (some s0)) (by decide) (rd_sRf (S := (nA S_568 q_610 14 12)) (g := 917) (a := h) (v := (some q_610)) (by decide) hv_600))
  have hv_651 : hR S_613 909 h = (some q_328) := by rw [eS_614]; exact (rd_sRf (S := (sR (nA S_568 q_610 14 12) 917 h (some q_610))) (g := 900) (a := h) (v := (some s0)) (by decide) (rd_sRf (S := (nA S_568 q_610 14 12)) (g := 917) (a := h) (v := (some q_610)) (by decide) hv_601))
  have hv_652 : hR S_613 910 h = (some q_425) := by rw [eS_614]; exact (rd_sRf (S := (sR (nA S_568 q_610 14 12) 917 h (some q_610))) (g := 900) (a := h) (v := (some s0)) (by decide) (rd_sRf (S := (nA S_568 q_610 14 12)) (g := 917) (a := h) (v := (some q_610)) (by decide) hv_602))
  have hv_653 : hR S_613 911 h = (some q_524) := by rw [eS_614]; exact (rd_sRf (S := (sR (nA S_568 q_610 14 12) 917 h (some q_610))) (g := 900) (a := h) (v := (some s0)) (by decide) (rd_sRf (S := (nA S_568 q_610 14 12)) (g := 917) (a := h) (v := (some q_610)) (by decide) hv_603))
  have hv_654 : hR S_613 912 h = (some q_565) := by rw [eS_614]; exact (rd_sRf (S := (sR (nA S_568 q_610 14 12) 917 h (some q_610))) (g := 900) (a := h) (v := (some s0)) (by decide) (rd_sRf (S := (nA S_568 q_610 14 12)) (g := 917) (a := h) (v := (some q_610)) (by decide) hv_604))
  have hv_655 : hR S_613 917 h = (some q_610) := by rw [eS_614]; exact (rd_sRf (S := (sR (nA S_568 q_610 14 12) 917 h (some q_610))) (g := 900) (a := h) (v := (some s0)) (by decide) (rd_sR (S := (nA S_568 q_610 14 12)) (g := 917) (a := h) (v := (some q_610))))
  have hf_656 : Fm (fun _ _ => False) (fun f9 b9 => b9 = h) (fun _ => False) S S_613 := by rw [eS_614]; exact hf_615
  have hN_657 : NL S (L_607 ++ [q_610]) S_613 := by rw [eS_614]; exact (NL.sR (S := (sR (nA S_568 q_610 14 12) 917 h (some q_610))) (NL.sR (S := (nA S_568 q_610 14 12)) (show NL S (L_607 ++ [q_610]) (nA S_568 q_610 14 12) from NL.nA hN_606 hq_611 hz_612)))
  obtain ⟨L_658, eL_659⟩ : ∃ L9 : List Nat, L9 = (L_607 ++ [q_610]) := ⟨_, rfl⟩
  rw [← eL_659] at hN_657
  have hG_660 : Gs h gs_522 S_613 := by rw [eS_614]; exact (Gs.sR (S := (sR (nA S_568 q_610 14 12) 917 h (some q_610))) (Gs.sR (S := (nA S_568 q_610 14 12)) (show Gs h gs_522 (nA S_568 q_610 14 12) from Gs.nA hG_609 hq_611)))
  refine j_new (N := 4) C (ci := 10) rfl rfl klX9_32 knX10 kiX10 (M.cells (by decide)) (M.slots (by decide)) dX9_init_152 (fun q_661 hq_662 => ?_)
  have hz_663 : q_661 ∉ hL S := fun h9 => hq_662 (hf_656.mem h9)
  have gn_664 : ∀ g9 ∈ gs_522, ∀ p9 ∈ (gT g9.1).2.2, g9.2.getD p9.2.1 0 ≠ q_661 := Gs.ne hG_660 hq_662
  refine j_dup C dX9_init_155 rfl ?_
  have hf_665 : Fm (fun _ _ => False) (fun f9 b9 => b9 = h) (fun _ => False) S (nO S_613 q_661 10) := (hf_656.nO _ hq_662)
  refine j_callI C [] [.ref q_661, .int 0, .ref q_161] mlX9_38 mcX10_init (c_X10_init (nO S_613 q_661 10) q_661 mem_new (kd_nO' (k := 10))) (M.rm (by decide) (by decide) (Nat.le_of_ble_eq_true rfl) (Nat.le_of_ble_eq_true rfl)) rfl rfl (Nat.le_of_ble_eq_true rfl) dX9_init_156 (fun r_675 S_676 hp_677 => ?_)
  obtain ⟨rfl, hf_678, e_667, e_668, q_666, e_669, e_670, e_671, e_672, e_673, hNl_674⟩ := hp_677
  refine J.eq (st' := [.ref q_661, .int 0, .ref q_161]) rfl rfl rfl ?_
  have hz_679 : ∀ j, aI S_676 q_161 j = 0 := fun j9 => (hf_678.ai (mem_old hm_618) (fun h9 => h9) j9).trans (hz_621 j9)
  have hz_680 : ∀ j, aI S_676 q_266 j = 0 := fun j9 => (hf_678.ai (mem_old hm_622) (fun h9 => h9) j9).trans (hz_625 j9)
  have hz_681 : ∀ j, aI S_676 q_295 j = 0 := fun j9 => (hf_678.ai (mem_old hm_626) (fun h9 => h9) j9).trans (hz_629 j9)
  have hz_682 : ∀ j, aI S_676 q_524 j = 0 := fun j9 => (hf_678.ai (mem_old hm_630) (fun h9 => h9) j9).trans (hz_633 j9)
  have hz_683 : ∀ j, aI S_676 q_565 j = 0 := fun j9 => (hf_678.ai (mem_old hm_634) (fun h9 => h9) j9).trans (hz_637 j9)
  have hz_684 : ∀ j, aI S_676 q_610 j = 0 := fun j9 => (hf_678.ai (mem_old hm_638) (fun h9 => h9) j9).trans (hz_641 j9)
  have hm_685 : h ∈ hL S_676 := hf_678.mem (mem_old hm_616)
  have hk_686 : Kd S_676 h 9 := hf_678.kd (mem_old hm_616) (kd_nO (k := 10) hq_662 hm_616 hk_617)
  have hm_687 : q_161 ∈ hL S_676 := hf_678.mem (mem_old hm_618)
  have hk_688 : Kd S_676 q_161 20 := hf_678.kd (mem_old hm_618) (kd_nO (k := 10) hq_662 hm_618 hk_619)
  have hn_689 : Ln S_676 q_161 16 := hf_678.ln (mem_old hm_618) hn_620
  have hm_690 : q_266 ∈ hL S_676 := hf_678.mem (mem_old hm_622)
  have hk_691 : Kd S_676 q_266 13 := hf_678.kd (mem_old hm_622) (kd_nO (k := 10) hq_662 hm_622 hk_623)
  have hn_692 : Ln S_676 q_266 24000 := hf_678.ln (mem_old hm_622) hn_624
  have hm_693 : q_295 ∈ hL S_676 := hf_678.mem (mem_old hm_626)
  have hk_694 : Kd S_676 q_295 14 := hf_678.kd (mem_old hm_626) (kd_nO (k := 10) hq_662 hm_626 hk_627)
  have hn_695 : Ln S_676 q_295 16 := hf_678.ln (mem_old hm_626) hn_628
  have hm_696 : q_524 ∈ hL S_676 := hf_678.mem (mem_old hm_630)
  have hk_697 : Kd S_676 q_524 18 := hf_678.kd (mem_old hm_630) (kd_nO (k := 10) hq_662 hm_630 hk_631)
  have hn_698 : Ln S_676 q_524 3 := hf_678.ln (mem_old hm_630) hn_632
  have hm_699 : q_565 ∈ hL S_676 := hf_678.mem (mem_old hm_634)
  have hk_700 : Kd S_676 q_565 19 := hf_678.kd (mem_old hm_634) (kd_nO (k := 10) hq_662 hm_634 hk_635)
  have hn_701 : Ln S_676 q_565 4 := hf_678.ln (mem_old hm_634) hn_636
  have hm_702 : q_610 ∈ hL S_676 := hf_678.mem (mem_old hm_638)
  have hk_703 : Kd S_676 q_610 14 := hf_678.kd (mem_old hm_638) (kd_nO (k := 10) hq_662 hm_638 hk_639)
  have hn_704 : Ln S_676 q_610 12 := hf_678.ln (mem_old hm_638) hn_640
  have hm_705 : q_661 ∈ hL S_676 := hf_678.mem mem_new
  have hk_706 : Kd S_676 q_661 10 := hf_678.kd mem_new (kd_nO' (k := 10))
  have hv_707 : hR S_676 900 h = (some s0) := hf_678.fr (mem_old hm_616) (fun q9 => (fun e9 => absurd (((kd_nO (k := 10) hq_662 hm_616 hk_617)).symm.trans ((congrArg (hK _) e9).trans (kd_nO' (k := 10)))) (by decide)) q9) (rd_nOR (k := 10) hq_662 hm_616 hv_642)
  have hv_708 : hR S_676 901 h = (some q_1) := hf_678.fr (mem_old hm_616) (fun q9 => (fun e9 => absurd (((kd_nO (k := 10) hq_662 hm_616 hk_617)).symm.trans ((congrArg (hK _) e9).trans (kd_nO' (k := 10)))) (by decide)) q9) (rd_nOR (k := 10) hq_662 hm_616 hv_643)
  have hv_709 : hR S_676 902 h = (some q_41) := hf_678.fr (mem_old hm_616) (fun q9 => (fun e9 => absurd (((kd_nO (k := 10) hq_662 hm_616 hk_617)).symm.trans ((congrArg (hK _) e9).trans (kd_nO' (k := 10)))) (by decide)) q9) (rd_nOR (k := 10) hq_662 hm_616 hv_644)
  have hv_710 : hR S_676 903 h = (some q_126) := hf_678.fr (mem_old hm_616) (fun q9 => (fun e9 => absurd (((kd_nO (k := 10) hq_662 hm_616 hk_617)).symm.trans ((congrArg (hK _) e9).trans (kd_nO' (k := 10)))) (by decide)) q9) (rd_nOR (k := 10) hq_662 hm_616 hv_645)
  have hv_711 : hR S_676 904 h = (some q_161) := hf_678.fr (mem_old hm_616) (fun q9 => (fun e9 => absurd (((kd_nO (k := 10) hq_662 hm_616 hk_617)).symm.trans ((congrArg (hK _) e9).trans (kd_nO' (k := 10)))) (by decide)) q9) (rd_nOR (k := 10) hq_662 hm_616 hv_646)
  have hv_712 : hR S_676 905 h = (some q_183) := hf_678.fr (mem_old hm_616) (fun q9 => (fun e9 => absurd (((kd_nO (k := 10) hq_662 hm_616 hk_617)).symm.trans ((congrArg (hK _) e9).trans (kd_nO' (k := 10)))) (by decide)) q9) (rd_nOR (k := 10) hq_662 hm_616 hv_647)
  have hv_713 : hR S_676 906 h = (some q_224) := hf_678.fr (mem_old hm_616) (fun q9 => (fun e9 => absurd (((kd_nO (k := 10) hq_662 hm_616 hk_617)).symm.trans ((congrArg (hK _) e9).trans (kd_nO' (k := 10)))) (by decide)) q9) (rd_nOR (k := 10) hq_662 hm_616 hv_648)
  have hv_714 : hR S_676 907 h = (some q_266) := hf_678.fr (mem_old hm_616) (fun q9 => (fun e9 => absurd (((kd_nO (k := 10) hq_662 hm_616 hk_617)).symm.trans ((congrArg (hK _) e9).trans (kd_nO' (k := 10)))) (by decide)) q9) (rd_nOR (k := 10) hq_662 hm_616 hv_649)
  have hv_715 : hR S_676 908 h = (some q_295) := hf_678.fr (mem_old hm_616) (fun q9 => (fun e9 => absurd (((kd_nO (k := 10) hq_662 hm_616 hk_617)).symm.trans ((congrArg (hK _) e9).trans (kd_nO' (k := 10)))) (by decide)) q9) (rd_nOR (k := 10) hq_662 hm_616 hv_650)
  have hv_716 : hR S_676 909 h = (some q_328) := hf_678.fr (mem_old hm_616) (fun q9 => (fun e9 => absurd (((kd_nO (k := 10) hq_662 hm_616 hk_617)).symm.trans ((congrArg (hK _) e9).trans (kd_nO' (k := 10)))) (by decide)) q9) (rd_nOR (k := 10) hq_662 hm_616 hv_651)
  have hv_717 : hR S_676 910 h = (some q_425) := hf_678.fr (mem_old hm_616) (fun q9 => (fun e9 => absurd (((kd_nO (k := 10) hq_662 hm_616 hk_617)).symm.trans ((congrArg (hK _) e9).trans (kd_nO' (k := 10)))) (by decide)) q9) (rd_nOR (k := 10) hq_662 hm_616 hv_652)
  have hv_718 : hR S_676 911 h = (some q_524) := hf_678.fr (mem_old hm_616) (fun q9 => (fun e9 => absurd (((kd_nO (k := 10) hq_662 hm_616 hk_617)).symm.trans ((congrArg (hK _) e9).trans (kd_nO' (k := 10)))) (by decide)) q9) (rd_nOR (k := 10) hq_662 hm_616 hv_653)
  have hv_719 : hR S_676 912 h = (some q_565) := hf_678.fr (mem_old hm_616) (fun q9 => (fun e9 => absurd (((kd_nO (k := 10) hq_662 hm_616 hk_617)).symm.trans ((congrArg (hK _) e9).trans (kd_nO' (k := 10)))) (by decide)) q9) (rd_nOR (k := 10) hq_662 hm_616 hv_654)
  have hv_720 : hR S_676 917 h = (some q_610) := hf_678.fr (mem_old hm_616) (fun q9 => (fun e9 => absurd (((kd_nO (k := 10) hq_662 hm_616 hk_617)).symm.trans ((congrArg (hK _) e9).trans (kd_nO' (k := 10)))) (by decide)) q9) (rd_nOR (k := 10) hq_662 hm_616 hv_655)
  have hf_721 : Fm (fun _ _ => False) (fun f9 b9 => b9 = h) (fun _ => False) S S_676 := hf_665.then hf_678 (fun a9 ha9 => ⟨(fun f9 h9 => (fun h9 => h9.elim (fun h8 => absurd (h8.2 ▸ ha9) hz_663) (fun h8 => absurd (h8.2 ▸ ha9) hz_663)) h9), (fun f9 h9 => (fun h8 => absurd (h8 ▸ ha9) hz_663) h9), (fun h9 => h9.elim)⟩)
  have hN_722 : NL S (L_658 ++ [q_661]) S_676 := NL.mono (show NL S (L_658 ++ [q_661]) (nO S_613 q_661 10) from NL.nO hN_657 hq_662 hz_663) (fun a9 h9 => hf_678.mem h9)
  have hG_723 : Gs h gs_522 S_676 := Gs.fm (show Gs h gs_522 (nO S_613 q_661 10) from Gs.nO hG_660 hq_662) hf_678 (fun g9 hg9 p9 hp9 => gn_664 g9 hg9 p9 hp9)
  have hz_724 : q_666 ∉ hL S := fun h9 => e_669 (hf_665.mem h9)
  have hN_725 : NL S ((L_658 ++ [q_661]) ++ [q_666]) S_676 := NL.app (show NL S (L_658 ++ [q_661]) (nO S_613 q_661 10) from NL.nO hN_657 hq_662 hz_663) hNl_674 (fun a9 h9 => hf_678.mem h9) (fun a9 h9 => hf_665.mem h9)
  obtain ⟨L_726, eL_727⟩ : ∃ L9 : List Nat, L9 = ((L_658 ++ [q_661]) ++ [q_666]) := ⟨_, rfl⟩
  rw [← eL_727] at hN_725
  have hGt_728 : Gt 1 [q_661, q_666] S_676 := ⟨fun i9 k9 h9 => (match i9, h9 with | 0, h9 => (by have e9 : (10 : Nat) = k9 := Option.some.inj h9; subst e9; exact ⟨hm_705, hk_706⟩) | 1, h9 => (by have e9 : (15 : Nat) = k9 := Option.some.inj h9; subst e9; exact ⟨e_670, e_671⟩) | i9 + 2, h9 => absurd h9 (by simp [gT])), (List.forall_mem_cons.mpr ⟨e_672, (fun _ h9 => absurd h9 List.not_mem_nil)⟩), (List.forall_mem_cons.mpr ⟨e_673, (fun _ h9 => absurd h9 List.not_mem_nil)⟩), (fun _ h9 => absurd h9 List.not_mem_nil)⟩
  have hG_729 : Gs h (gs_522 ++ [(1, [q_661, q_666])]) S_676 := Gs.snoc hG_723 (by decide) hGt_728 (List.forall_mem_cons.mpr ⟨(own_ne hz_663 hm), (fun _ h9 => absurd h9 List.not_mem_nil)⟩)
  obtain ⟨gs_730, eG_731⟩ : ∃ G9 : List (Nat × List Nat), G9 = gs_522 ++ [(1, [q_661, q_666])] := ⟨_, rfl⟩
  rw [← eG_731] at hG_729
  refine j_aast (j := 0) (ci := 10) C 20  (by decide) rfl dX9_init_159 hm_687 hk_688 (inr_of (n := 16) hn_689 (vp_lit (by decide))) (by decide) hm_705 hk_706 rfl ?_
  have hf_734 : Fm (fun _ _ => False) (fun f9 b9 => b9 = h) (fun _ => False) S (tR S_676 q_161 0 (some q_661)) := (hf_721.tR _ _ (fun h9 => absurd h9 hz_164))
  obtain ⟨S_732, eS_733⟩ : ∃ S9 : Hp, S9 = (tR S_676 q_161 0 (some q_661)) := ⟨_, rfl⟩
  refine J.eq (S' := S_732) eS_733.symm rfl rfl ?_
  have hm_735 : h ∈ hL S_732 := by rw [eS_733]; exact hm_685
  have hk_736 : Kd S_732 h 9 := by rw [eS_733]; exact hk_686
  have hm_737 : q_161 ∈ hL S_732 := by rw [eS_733]; exact hm_687
  have hk_738 : Kd S_732 q_161 20 := by rw [eS_733]; exact hk_688
  have hn_739 : Ln S_732 q_161 16 := by rw [eS_733]; exact hn_689
  have hz_740 : ∀ j, aI S_732 q_161 j = 0 := by rw [eS_733]; exact hz_679
  have hm_741 : q_266 ∈ hL S_732 := by rw [eS_733]; exact hm_690
  have hk_742 : Kd S_732 q_266 13 := by rw [eS_733]; exact hk_691
  have hn_743 : Ln S_732 q_266 24000 := by rw [eS_733]; exact hn_692
  have hz_744 : ∀ j, aI S_732 q_266 j = 0 := by rw [eS_733]; exact hz_680
  have hm_745 : q_295 ∈ hL S_732 := by rw [eS_733]; exact hm_693
  have hk_746 : Kd S_732 q_295 14 := by rw [eS_733]; exact hk_694
  have hn_747 : Ln S_732 q_295 16 := by rw [eS_733]; exact hn_695
  have hz_748 : ∀ j, aI S_732 q_295 j = 0 := by rw [eS_733]; exact hz_681
  have hm_749 : q_524 ∈ hL S_732 := by rw [eS_733]; exact hm_696
  have hk_750 : Kd S_732 q_524 18 := by rw [eS_733]; exact hk_697
  have hn_751 : Ln S_732 q_524 3 := by rw [eS_733]; exact hn_698
  have hz_752 : ∀ j, aI S_732 q_524 j = 0 := by rw [eS_733]; exact hz_682
  have hm_753 : q_565 ∈ hL S_732 := by rw [eS_733]; exact hm_699
  have hk_754 : Kd S_732 q_565 19 := by rw [eS_733]; exact hk_700
  have hn_755 : Ln S_732 q_565 4 := by rw [eS_733]; exact hn_701
  have hz_756 : ∀ j, aI S_732 q_565 j = 0 := by rw [eS_733]; exact hz_683
  have hm_757 : q_610 ∈ hL S_732 := by rw [eS_733]; exact hm_702
  have hk_758 : Kd S_732 q_610 14 := by rw [eS_733]; exact hk_703
  have hn_759 : Ln S_732 q_610 12 := by rw [eS_733]; exact hn_704
  have hz_760 : ∀ j, aI S_732 q_610 j = 0 := by rw [eS_733]; exact hz_684
  have hm_761 : q_661 ∈ hL S_732 := by rw [eS_733]; exact hm_705
  have hk_762 : Kd S_732 q_661 10 := by rw [eS_733]; exact hk_706
  have hv_763 : hI S_732 1000 q_661 = 1 := by rw [eS_733]; exact e_667
  have hv_764 : hI S_732 1001 q_661 = 1 := by rw [eS_733]; exact e_668
  have hv_765 : hR S_732 1003 q_661 = (some q_666) := by rw [eS_733]; exact e_673
  have hv_766 : hR S_732 900 h = (some s0) := by rw [eS_733]; exact hv_707
  have hv_767 : hR S_732 901 h = (some q_1) := by rw [eS_733]; exact hv_708
  have hv_768 : hR S_732 902 h = (some q_41) := by rw [eS_733]; exact hv_709
  have hv_769 : hR S_732 903 h = (some q_126) := by rw [eS_733]; exact hv_710
  have hv_770 : hR S_732 904 h = (some q_161) := by rw [eS_733]; exact hv_711
  have hv_771 : hR S_732 905 h = (some q_183) := by rw [eS_733]; exact hv_712
  have hv_772 : hR S_732 906 h = (some q_224) := by rw [eS_733]; exact hv_713
  have hv_773 : hR S_732 907 h = (some q_266) := by rw [eS_733]; exact hv_714
  have hv_774 : hR S_732 908 h = (some q_295) := by rw [eS_733]; exact hv_715
  have hv_775 : hR S_732 909 h = (some q_328) := by rw [eS_733]; exact hv_716
  have hv_776 : hR S_732 910 h = (some q_425) := by rw [eS_733]; exact hv_717
  have hv_777 : hR S_732 911 h = (some q_524) := by rw [eS_733]; exact hv_718
  have hv_778 : hR S_732 912 h = (some q_565) := by rw [eS_733]; exact hv_719
  have hv_779 : hR S_732 917 h = (some q_610) := by rw [eS_733]; exact hv_720
  have hf_780 : Fm (fun _ _ => False) (fun f9 b9 => b9 = h) (fun _ => False) S S_732 := by rw [eS_733]; exact hf_734
  have hN_781 : NL S L_726 S_732 := by rw [eS_733]; exact (NL.tR (S := S_676) hN_725)
  have hG_782 : Gs h gs_730 S_732 := by rw [eS_733]; exact (Gs.tR (S := S_676) hG_729)
  have hE_783 : ELs S_732 q_161 [q_661] := by rw [eS_733]; exact (show ELs (tR S_676 q_161 0 (some q_661)) q_161 [q_661] from ELs.snoc (ELs.nil (S := S_676) (a := q_161)) rfl)
  refine j_iinc (q := 0) (v := 1) (lv' := [(2, .int 1), (0, .ref h), (1, .ref s0)]) C dX9_init_160 rfl (by decide) (by rw [hn9]; decide) rfl ?_
  refine j_goto (tgt := 138) C dX9_init_163 (by decide) ?_
  show J _ _ _ _ _ 138 _
  refine j_iload_n C dX9_init_138 rfl 0 rfl ?_
  refine j_aload_n C dX9_init_139 rfl 1 rfl ?_
  refine j_getr (f := 904) (v := q_161) C flX9_34 dX9_init_140 hm_735 hk_736 (by decide) rfl hv_770 ?_
  refine j_alen (v := 16) C dX9_init_143 hm_737 hk_738 (by decide) (by decide) (len_of (n := 16) hn_739 (by decide)) ?_
  refine j_ic_ge (tgt := 166) C dX9_init_144 (by decide) (fun c9 => absurd c9 (by decide)) (fun c9 => ?_)
  refine j_aload_n C dX9_init_147 rfl 1 rfl ?_
  refine j_getr (f := 904) (v := q_161) C flX9_34 dX9_init_148 hm_735 hk_736 (by decide) rfl hv_770 ?_
  refine j_iload_n C dX9_init_151 rfl 0 rfl ?_
  show J _ _ _ _ _ 152 _
  refine j_new (N := 4) C (ci := 10) rfl rfl klX9_32 knX10 kiX10 (M.cells (by decide)) (M.slots (by decide)) dX9_init_152 (fun q_784 hq_785 => ?_)
  have hz_786 : q_784 ∉ hL S := fun h9 => hq_785 (hf_780.mem h9)
  have gn_787 : ∀ g9 ∈ gs_730, ∀ p9 ∈ (gT g9.1).2.2, g9.2.getD p9.2.1 0 ≠ q_784 := Gs.ne hG_782 hq_785
  refine j_dup C dX9_init_155 rfl ?_
  have hf_788 : Fm (fun _ _ => False) (fun f9 b9 => b9 = h) (fun _ => False) S (nO S_732 q_784 10) := (hf_780.nO _ hq_785)
  refine j_callI C [] [.ref q_784, .int 1, .ref q_161] mlX9_38 mcX10_init (c_X10_init (nO S_732 q_784 10) q_784 mem_new (kd_nO' (k := 10))) (M.rm (by decide) (by decide) (Nat.le_of_ble_eq_true rfl) (Nat.le_of_ble_eq_true rfl)) rfl rfl (Nat.le_of_ble_eq_true rfl) dX9_init_156 (fun r_798 S_799 hp_800 => ?_)
  obtain ⟨rfl, hf_801, e_790, e_791, q_789, e_792, e_793, e_794, e_795, e_796, hNl_797⟩ := hp_800
  refine J.eq (st' := [.ref q_784, .int 1, .ref q_161]) rfl rfl rfl ?_
  have hz_802 : ∀ j, aI S_799 q_161 j = 0 := fun j9 => (hf_801.ai (mem_old hm_737) (fun h9 => h9) j9).trans (hz_740 j9)
  have hz_803 : ∀ j, aI S_799 q_266 j = 0 := fun j9 => (hf_801.ai (mem_old hm_741) (fun h9 => h9) j9).trans (hz_744 j9)
  have hz_804 : ∀ j, aI S_799 q_295 j = 0 := fun j9 => (hf_801.ai (mem_old hm_745) (fun h9 => h9) j9).trans (hz_748 j9)
  have hz_805 : ∀ j, aI S_799 q_524 j = 0 := fun j9 => (hf_801.ai (mem_old hm_749) (fun h9 => h9) j9).trans (hz_752 j9)
  have hz_806 : ∀ j, aI S_799 q_565 j = 0 := fun j9 => (hf_801.ai (mem_old hm_753) (fun h9 => h9) j9).trans (hz_756 j9)
  have hz_807 : ∀ j, aI S_799 q_610 j = 0 := fun j9 => (hf_801.ai (mem_old hm_757) (fun h9 => h9) j9).trans (hz_760 j9)
  have hm_808 : h ∈ hL S_799 := hf_801.mem (mem_old hm_735)
  have hk_809 : Kd S_799 h 9 := hf_801.kd (mem_old hm_735) (kd_nO (k := 10) hq_785 hm_735 hk_736)
  have hm_810 : q_161 ∈ hL S_799 := hf_801.mem (mem_old hm_737)
  have hk_811 : Kd S_799 q_161 20 := hf_801.kd (mem_old hm_737) (kd_nO (k := 10) hq_785 hm_737 hk_738)
  have hn_812 : Ln S_799 q_161 16 := hf_801.ln (mem_old hm_737) hn_739
  have hm_813 : q_266 ∈ hL S_799 := hf_801.mem (mem_old hm_741)
  have hk_814 : Kd S_799 q_266 13 := hf_801.kd (mem_old hm_741) (kd_nO (k := 10) hq_785 hm_741 hk_742)
  have hn_815 : Ln S_799 q_266 24000 := hf_801.ln (mem_old hm_741) hn_743
  have hm_816 : q_295 ∈ hL S_799 := hf_801.mem (mem_old hm_745)
  have hk_817 : Kd S_799 q_295 14 := hf_801.kd (mem_old hm_745) (kd_nO (k := 10) hq_785 hm_745 hk_746)
  have hn_818 : Ln S_799 q_295 16 := hf_801.ln (mem_old hm_745) hn_747
  have hm_819 : q_524 ∈ hL S_799 := hf_801.mem (mem_old hm_749)
  have hk_820 : Kd S_799 q_524 18 := hf_801.kd (mem_old hm_749) (kd_nO (k := 10) hq_785 hm_749 hk_750)
  have hn_821 : Ln S_799 q_524 3 := hf_801.ln (mem_old hm_749) hn_751
  have hm_822 : q_565 ∈ hL S_799 := hf_801.mem (mem_old hm_753)
  have hk_823 : Kd S_799 q_565 19 := hf_801.kd (mem_old hm_753) (kd_nO (k := 10) hq_785 hm_753 hk_754)
  have hn_824 : Ln S_799 q_565 4 := hf_801.ln (mem_old hm_753) hn_755
  have hm_825 : q_610 ∈ hL S_799 := hf_801.mem (mem_old hm_757)
  have hk_826 : Kd S_799 q_610 14 := hf_801.kd (mem_old hm_757) (kd_nO (k := 10) hq_785 hm_757 hk_758)
  have hn_827 : Ln S_799 q_610 12 := hf_801.ln (mem_old hm_757) hn_759
  have hm_828 : q_784 ∈ hL S_799 := hf_801.mem mem_new
  have hk_829 : Kd S_799 q_784 10 := hf_801.kd mem_new (kd_nO' (k := 10))
  have hv_830 : hR S_799 900 h = (some s0) := hf_801.fr (mem_old hm_735) (fun q9 => (fun e9 => absurd (((kd_nO (k := 10) hq_785 hm_735 hk_736)).symm.trans ((congrArg (hK _) e9).trans (kd_nO' (k := 10)))) (by decide)) q9) (rd_nOR (k := 10) hq_785 hm_735 hv_766)
  have hv_831 : hR S_799 901 h = (some q_1) := hf_801.fr (mem_old hm_735) (fun q9 => (fun e9 => absurd (((kd_nO (k := 10) hq_785 hm_735 hk_736)).symm.trans ((congrArg (hK _) e9).trans (kd_nO' (k := 10)))) (by decide)) q9) (rd_nOR (k := 10) hq_785 hm_735 hv_767)
  have hv_832 : hR S_799 902 h = (some q_41) := hf_801.fr (mem_old hm_735) (fun q9 => (fun e9 => absurd (((kd_nO (k := 10) hq_785 hm_735 hk_736)).symm.trans ((congrArg (hK _) e9).trans (kd_nO' (k := 10)))) (by decide)) q9) (rd_nOR (k := 10) hq_785 hm_735 hv_768)
  have hv_833 : hR S_799 903 h = (some q_126) := hf_801.fr (mem_old hm_735) (fun q9 => (fun e9 => absurd (((kd_nO (k := 10) hq_785 hm_735 hk_736)).symm.trans ((congrArg (hK _) e9).trans (kd_nO' (k := 10)))) (by decide)) q9) (rd_nOR (k := 10) hq_785 hm_735 hv_769)
  have hv_834 : hR S_799 904 h = (some q_161) := hf_801.fr (mem_old hm_735) (fun q9 => (fun e9 => absurd (((kd_nO (k := 10) hq_785 hm_735 hk_736)).symm.trans ((congrArg (hK _) e9).trans (kd_nO' (k := 10)))) (by decide)) q9) (rd_nOR (k := 10) hq_785 hm_735 hv_770)
  have hv_835 : hR S_799 905 h = (some q_183) := hf_801.fr (mem_old hm_735) (fun q9 => (fun e9 => absurd (((kd_nO (k := 10) hq_785 hm_735 hk_736)).symm.trans ((congrArg (hK _) e9).trans (kd_nO' (k := 10)))) (by decide)) q9) (rd_nOR (k := 10) hq_785 hm_735 hv_771)
  have hv_836 : hR S_799 906 h = (some q_224) := hf_801.fr (mem_old hm_735) (fun q9 => (fun e9 => absurd (((kd_nO (k := 10) hq_785 hm_735 hk_736)).symm.trans ((congrArg (hK _) e9).trans (kd_nO' (k := 10)))) (by decide)) q9) (rd_nOR (k := 10) hq_785 hm_735 hv_772)
  have hv_837 : hR S_799 907 h = (some q_266) := hf_801.fr (mem_old hm_735) (fun q9 => (fun e9 => absurd (((kd_nO (k := 10) hq_785 hm_735 hk_736)).symm.trans ((congrArg (hK _) e9).trans (kd_nO' (k := 10)))) (by decide)) q9) (rd_nOR (k := 10) hq_785 hm_735 hv_773)
  have hv_838 : hR S_799 908 h = (some q_295) := hf_801.fr (mem_old hm_735) (fun q9 => (fun e9 => absurd (((kd_nO (k := 10) hq_785 hm_735 hk_736)).symm.trans ((congrArg (hK _) e9).trans (kd_nO' (k := 10)))) (by decide)) q9) (rd_nOR (k := 10) hq_785 hm_735 hv_774)
  have hv_839 : hR S_799 909 h = (some q_328) := hf_801.fr (mem_old hm_735) (fun q9 => (fun e9 => absurd (((kd_nO (k := 10) hq_785 hm_735 hk_736)).symm.trans ((congrArg (hK _) e9).trans (kd_nO' (k := 10)))) (by decide)) q9) (rd_nOR (k := 10) hq_785 hm_735 hv_775)
  have hv_840 : hR S_799 910 h = (some q_425) := hf_801.fr (mem_old hm_735) (fun q9 => (fun e9 => absurd (((kd_nO (k := 10) hq_785 hm_735 hk_736)).symm.trans ((congrArg (hK _) e9).trans (kd_nO' (k := 10)))) (by decide)) q9) (rd_nOR (k := 10) hq_785 hm_735 hv_776)
  have hv_841 : hR S_799 911 h = (some q_524) := hf_801.fr (mem_old hm_735) (fun q9 => (fun e9 => absurd (((kd_nO (k := 10) hq_785 hm_735 hk_736)).symm.trans ((congrArg (hK _) e9).trans (kd_nO' (k := 10)))) (by decide)) q9) (rd_nOR (k := 10) hq_785 hm_735 hv_777)
  have hv_842 : hR S_799 912 h = (some q_565) := hf_801.fr (mem_old hm_735) (fun q9 => (fun e9 => absurd (((kd_nO (k := 10) hq_785 hm_735 hk_736)).symm.trans ((congrArg (hK _) e9).trans (kd_nO' (k := 10)))) (by decide)) q9) (rd_nOR (k := 10) hq_785 hm_735 hv_778)
  have hv_843 : hR S_799 917 h = (some q_610) := hf_801.fr (mem_old hm_735) (fun q9 => (fun e9 => absurd (((kd_nO (k := 10) hq_785 hm_735 hk_736)).symm.trans ((congrArg (hK _) e9).trans (kd_nO' (k := 10)))) (by decide)) q9) (rd_nOR (k := 10) hq_785 hm_735 hv_779)
  have hf_844 : Fm (fun _ _ => False) (fun f9 b9 => b9 = h) (fun _ => False) S S_799 := hf_788.then hf_801 (fun a9 ha9 => ⟨(fun f9 h9 => (fun h9 => h9.elim (fun h8 => absurd (h8.2 ▸ ha9) hz_786) (fun h8 => absurd (h8.2 ▸ ha9) hz_786)) h9), (fun f9 h9 => (fun h8 => absurd (h8 ▸ ha9) hz_786) h9), (fun h9 => h9.elim)⟩)
  have hN_845 : NL S (L_726 ++ [q_784]) S_799 := NL.mono (show NL S (L_726 ++ [q_784]) (nO S_732 q_784 10) from NL.nO hN_781 hq_785 hz_786) (fun a9 h9 => hf_801.mem h9)
  have hG_846 : Gs h gs_730 S_799 := Gs.fm (show Gs h gs_730 (nO S_732 q_784 10) from Gs.nO hG_782 hq_785) hf_801 (fun g9 hg9 p9 hp9 => gn_787 g9 hg9 p9 hp9)
  have hE_847 : ELs S_799 q_161 [q_661] := ELs.fm (ELs.nO (S := S_732) hE_783) hf_801 (mem_old hm_737) (fun h9 => h9)
  have hz_848 : q_789 ∉ hL S := fun h9 => e_792 (hf_788.mem h9)
  have hN_849 : NL S ((L_726 ++ [q_784]) ++ [q_789]) S_799 := NL.app (show NL S (L_726 ++ [q_784]) (nO S_732 q_784 10) from NL.nO hN_781 hq_785 hz_786) hNl_797 (fun a9 h9 => hf_801.mem h9) (fun a9 h9 => hf_788.mem h9)
  obtain ⟨L_850, eL_851⟩ : ∃ L9 : List Nat, L9 = ((L_726 ++ [q_784]) ++ [q_789]) := ⟨_, rfl⟩
  rw [← eL_851] at hN_849
  have hGt_852 : Gt 1 [q_784, q_789] S_799 := ⟨fun i9 k9 h9 => (match i9, h9 with | 0, h9 => (by have e9 : (10 : Nat) = k9 := Option.some.inj h9; subst e9; exact ⟨hm_828, hk_829⟩) | 1, h9 => (by have e9 : (15 : Nat) = k9 := Option.some.inj h9; subst e9; exact ⟨e_793, e_794⟩) | i9 + 2, h9 => absurd h9 (by simp [gT])), (List.forall_mem_cons.mpr ⟨e_795, (fun _ h9 => absurd h9 List.not_mem_nil)⟩), (List.forall_mem_cons.mpr ⟨e_796, (fun _ h9 => absurd h9 List.not_mem_nil)⟩), (fun _ h9 => absurd h9 List.not_mem_nil)⟩
  have hG_853 : Gs h (gs_730 ++ [(1, [q_784, q_789])]) S_799 := Gs.snoc hG_846 (by decide) hGt_852 (List.forall_mem_cons.mpr ⟨(own_ne hz_786 hm), (fun _ h9 => absurd h9 List.not_mem_nil)⟩)
  obtain ⟨gs_854, eG_855⟩ : ∃ G9 : List (Nat × List Nat), G9 = gs_730 ++ [(1, [q_784, q_789])] := ⟨_, rfl⟩
  rw [← eG_855] at hG_853
  refine j_aast (j := 1) (ci := 10) C 20  (by decide) rfl dX9_init_159 hm_810 hk_811 (inr_of (n := 16) hn_812 (vp_lit (by decide))) (by decide) hm_828 hk_829 rfl ?_
  have hf_858 : Fm (fun _ _ => False) (fun f9 b9 => b9 = h) (fun _ => False) S (tR S_799 q_161 1 (some q_784)) := (hf_844.tR _ _ (fun h9 => absurd h9 hz_164))
  obtain ⟨S_856, eS_857⟩ : ∃ S9 : Hp, S9 = (tR S_799 q_161 1 (some q_784)) := ⟨_, rfl⟩
  refine J.eq (S' := S_856) eS_857.symm rfl rfl ?_
  have hm_859 : h ∈ hL S_856 := by rw [eS_857]; exact hm_808
  have hk_860 : Kd S_856 h 9 := by rw [eS_857]; exact hk_809
  have hm_861 : q_161 ∈ hL S_856 := by rw [eS_857]; exact hm_810
  have hk_862 : Kd S_856 q_161 20 := by rw [eS_857]; exact hk_811
  have hn_863 : Ln S_856 q_161 16 := by rw [eS_857]; exact hn_812
  have hz_864 : ∀ j, aI S_856 q_161 j = 0 := by rw [eS_857]; exact hz_802
  have hm_865 : q_266 ∈ hL S_856 := by rw [eS_857]; exact hm_813
  have hk_866 : Kd S_856 q_266 13 := by rw [eS_857]; exact hk_814
  have hn_867 : Ln S_856 q_266 24000 := by rw [eS_857]; exact hn_815
  have hz_868 : ∀ j, aI S_856 q_266 j = 0 := by rw [eS_857]; exact hz_803
  have hm_869 : q_295 ∈ hL S_856 := by rw [eS_857]; exact hm_816
  have hk_870 : Kd S_856 q_295 14 := by rw [eS_857]; exact hk_817
  have hn_871 : Ln S_856 q_295 16 := by rw [eS_857]; exact hn_818
  have hz_872 : ∀ j, aI S_856 q_295 j = 0 := by rw [eS_857]; exact hz_804
  have hm_873 : q_524 ∈ hL S_856 := by rw [eS_857]; exact hm_819
  have hk_874 : Kd S_856 q_524 18 := by rw [eS_857]; exact hk_820
  have hn_875 : Ln S_856 q_524 3 := by rw [eS_857]; exact hn_821
  have hz_876 : ∀ j, aI S_856 q_524 j = 0 := by rw [eS_857]; exact hz_805
  have hm_877 : q_565 ∈ hL S_856 := by rw [eS_857]; exact hm_822
  have hk_878 : Kd S_856 q_565 19 := by rw [eS_857]; exact hk_823
  have hn_879 : Ln S_856 q_565 4 := by rw [eS_857]; exact hn_824
  have hz_880 : ∀ j, aI S_856 q_565 j = 0 := by rw [eS_857]; exact hz_806
  have hm_881 : q_610 ∈ hL S_856 := by rw [eS_857]; exact hm_825
  have hk_882 : Kd S_856 q_610 14 := by rw [eS_857]; exact hk_826
  have hn_883 : Ln S_856 q_610 12 := by rw [eS_857]; exact hn_827
  have hz_884 : ∀ j, aI S_856 q_610 j = 0 := by rw [eS_857]; exact hz_807
  have hm_885 : q_784 ∈ hL S_856 := by rw [eS_857]; exact hm_828
  have hk_886 : Kd S_856 q_784 10 := by rw [eS_857]; exact hk_829
  have hv_887 : hI S_856 1000 q_784 = 1 := by rw [eS_857]; exact e_790
  have hv_888 : hI S_856 1001 q_784 = 1 := by rw [eS_857]; exact e_791
  have hv_889 : hR S_856 1003 q_784 = (some q_789) := by rw [eS_857]; exact e_796
  have hv_890 : hR S_856 900 h = (some s0) := by rw [eS_857]; exact hv_830
  have hv_891 : hR S_856 901 h = (some q_1) := by rw [eS_857]; exact hv_831
  have hv_892 : hR S_856 902 h = (some q_41) := by rw [eS_857]; exact hv_832
  have hv_893 : hR S_856 903 h = (some q_126) := by rw [eS_857]; exact hv_833
  have hv_894 : hR S_856 904 h = (some q_161) := by rw [eS_857]; exact hv_834
  have hv_895 : hR S_856 905 h = (some q_183) := by rw [eS_857]; exact hv_835
  have hv_896 : hR S_856 906 h = (some q_224) := by rw [eS_857]; exact hv_836
  have hv_897 : hR S_856 907 h = (some q_266) := by rw [eS_857]; exact hv_837
  have hv_898 : hR S_856 908 h = (some q_295) := by rw [eS_857]; exact hv_838
  have hv_899 : hR S_856 909 h = (some q_328) := by rw [eS_857]; exact hv_839
  have hv_900 : hR S_856 910 h = (some q_425) := by rw [eS_857]; exact hv_840
  have hv_901 : hR S_856 911 h = (some q_524) := by rw [eS_857]; exact hv_841
  have hv_902 : hR S_856 912 h = (some q_565) := by rw [eS_857]; exact hv_842
  have hv_903 : hR S_856 917 h = (some q_610) := by rw [eS_857]; exact hv_843
  have hf_904 : Fm (fun _ _ => False) (fun f9 b9 => b9 = h) (fun _ => False) S S_856 := by rw [eS_857]; exact hf_858
  have hN_905 : NL S L_850 S_856 := by rw [eS_857]; exact (NL.tR (S := S_799) hN_849)
  have hG_906 : Gs h gs_854 S_856 := by rw [eS_857]; exact (Gs.tR (S := S_799) hG_853)
  have hE_907 : ELs S_856 q_161 [q_661, q_784] := by rw [eS_857]; exact (show ELs (tR S_799 q_161 1 (some q_784)) q_161 [q_661, q_784] from ELs.snoc hE_847 rfl)
  refine j_iinc (q := 0) (v := 2) (lv' := [(2, .int 2), (0, .ref h), (1, .ref s0)]) C dX9_init_160 rfl (by decide) (by rw [hn9]; decide) rfl ?_
  refine j_goto (tgt := 138) C dX9_init_163 (by decide) ?_
  exact x9_t1 (q_1 := q_1) (q_5 := q_5) (q_6 := q_6) (q_41 := q_41) (q_47 := q_47) (q_48 := q_48) (q_49 := q_49) (q_50 := q_50) (q_51 := q_51) (q_52 := q_52) (q_53 := q_53) (q_54 := q_54) (q_126 := q_126) (q_132 := q_132) (q_161 := q_161) (q_183 := q_183) (q_188 := q_188) (q_224 := q_224) (q_230 := q_230) (q_266 := q_266) (q_295 := q_295) (q_328 := q_328) (q_333 := q_333) (q_334 := q_334) (q_335 := q_335) (q_336 := q_336) (q_337 := q_337) (q_338 := q_338) (q_339 := q_339) (q_340 := q_340) (q_425 := q_425) (q_431 := q_431) (q_432 := q_432) (q_433 := q_433) (q_434 := q_434) (q_435 := q_435) (q_436 := q_436) (q_437 := q_437) (q_438 := q_438) (q_524 := q_524) (q_565 := q_565) (q_610 := q_610) (q_661 := q_661) (q_666 := q_666) (q_784 := q_784) (q_789 := q_789) hn9 C M hm9 hm hz_164 hz_269 hz_297 hz_527 hz_567 hz_612 hm_859 hk_860 hm_861 hk_862 hn_863 hz_864 hm_865 hk_866 hn_867 hz_868 hm_869 hk_870 hn_871 hz_872 hm_873 hk_874 hn_875 hz_876 hm_877 hk_878 hn_879 hz_880 hm_881 hk_882 hn_883 hz_884 hv_890 hv_891 hv_892 hv_893 hv_894 hv_895 hv_896 hv_897 hv_898 hv_899 hv_900 hv_901 hv_902 hv_903 (by have h9 := hN_905; rw [eL_851, eL_727, eL_659, eL_608, eL_563, eL_519, eL_420, eL_326, eL_293, eL_261, eL_219, eL_181, eL_156, eL_121, eL_36] at h9; simpa only [List.nil_append, List.cons_append, List.append_assoc] using h9) (by have h9 := hG_906; rw [eG_855, eG_731, eG_523, eG_424, eG_265, eG_223, eG_160, eG_125, eG_40] at h9; simpa only [List.nil_append, List.cons_append, List.append_assoc] using h9) hE_907 hf_904
