def s9K : List Nat := [9, 0, 14, 14, 2, 8, 14, 14, 14, 17, 14, 14, 14, 8, 14, 20, 10, 15, 8, 14, 13, 14, 1, 7, 14, 4, 14, 10, 15, 14, 14, 1, 7, 14, 4, 14, 10, 15, 14, 14, 18, 19, 14, 10, 15, 10, 15, 10, 15, 10, 15, 10, 15, 10, 15, 10, 15, 10, 15, 10, 15, 10, 15, 10, 15, 10, 15, 10, 15, 10, 15, 10, 15, 10, 15, 1, 7, 14, 4, 14, 10, 15, 14, 14, 1, 7, 14, 4, 14, 10, 15, 14, 14, 1, 7, 14, 4, 14, 10, 15, 14, 14, 5, 5, 5, 5]
def s9N : List (Nat × Nat) := [(2, 20000), (3, 25), (6, 16), (7, 119), (8, 4352), (9, 400), (10, 2470), (11, 15808), (12, 8), (14, 16), (15, 16), (17, 16), (19, 16), (20, 24000), (21, 16), (24, 40), (26, 20), (28, 16), (29, 8), (30, 8), (33, 40), (35, 20), (37, 16), (38, 8), (39, 8), (40, 3), (41, 4), (42, 12), (44, 16), (46, 16), (48, 16), (50, 16), (52, 16), (54, 16), (56, 16), (58, 16), (60, 16), (62, 16), (64, 16), (66, 16), (68, 16), (70, 16), (72, 16), (74, 16), (77, 40), (79, 20), (81, 16), (82, 8), (83, 8), (86, 40), (88, 20), (90, 16), (91, 8), (92, 8), (95, 40), (97, 20), (99, 16), (100, 8), (101, 8)]
def s9P : List (Nat × Nat × Nat) := [(901, 0, 1), (0, 1, 2), (1, 1, 3), (902, 0, 4), (200, 4, 5), (800, 5, 6), (201, 4, 7), (202, 4, 8), (203, 4, 9), (204, 4, 10), (205, 4, 11), (207, 4, 12), (903, 0, 13), (800, 13, 14), (904, 0, 15), (905, 0, 16), (1003, 16, 17), (906, 0, 18), (800, 18, 19), (907, 0, 20), (908, 0, 21), (909, 0, 22), (100, 22, 23), (712, 23, 24), (101, 22, 25), (407, 25, 26), (102, 22, 27), (1003, 27, 28), (103, 22, 29), (104, 22, 30), (910, 0, 31), (100, 31, 32), (712, 32, 33), (101, 31, 34), (407, 34, 35), (102, 31, 36), (1003, 36, 37), (103, 31, 38), (104, 31, 39), (911, 0, 40), (912, 0, 41), (917, 0, 42), (1003, 43, 44), (1003, 45, 46), (1003, 47, 48), (1003, 49, 50), (1003, 51, 52), (1003, 53, 54), (1003, 55, 56), (1003, 57, 58), (1003, 59, 60), (1003, 61, 62), (1003, 63, 64), (1003, 65, 66), (1003, 67, 68), (1003, 69, 70), (1003, 71, 72), (1003, 73, 74), (100, 75, 76), (712, 76, 77), (101, 75, 78), (407, 78, 79), (102, 75, 80), (1003, 80, 81), (103, 75, 82), (104, 75, 83), (100, 84, 85), (712, 85, 86), (101, 84, 87), (407, 87, 88), (102, 84, 89), (1003, 89, 90), (103, 84, 91), (104, 84, 92), (100, 93, 94), (712, 94, 95), (101, 93, 96), (407, 96, 97), (102, 93, 98), (1003, 98, 99), (103, 93, 100), (104, 93, 101)]
def s9Q : List (Nat × Nat × Nat) := [(15, 0, 43), (15, 1, 45), (15, 2, 47), (15, 3, 49), (15, 4, 51), (15, 5, 53), (15, 6, 55), (15, 7, 57), (15, 8, 59), (15, 9, 61), (15, 10, 63), (15, 11, 65), (15, 12, 67), (15, 13, 69), (15, 14, 71), (15, 15, 73), (40, 0, 75), (40, 1, 84), (40, 2, 93), (41, 0, 102), (41, 1, 103), (41, 2, 104), (41, 3, 105)]

theorem dX9_init_0 : decode cX9_init 0 = .ok (.aload_n 0, 1) := by decide +kernel
theorem dX9_init_1 : decode cX9_init 1 = .ok (.invokespecial 3, 3) := by decide +kernel
theorem dX9_init_4 : decode cX9_init 4 = .ok (.aload_n 0, 1) := by decide +kernel
theorem dX9_init_5 : decode cX9_init 5 = .ok (.new 9, 3) := by decide +kernel
theorem dX9_init_8 : decode cX9_init 8 = .ok (.dup, 1) := by decide +kernel
theorem dX9_init_9 : decode cX9_init 9 = .ok (.invokespecial 11, 3) := by decide +kernel
theorem dX9_init_12 : decode cX9_init 12 = .ok (.putfield 12, 3) := by decide +kernel
theorem dX9_init_15 : decode cX9_init 15 = .ok (.aload_n 0, 1) := by decide +kernel
theorem dX9_init_16 : decode cX9_init 16 = .ok (.new 18, 3) := by decide +kernel
theorem dX9_init_19 : decode cX9_init 19 = .ok (.dup, 1) := by decide +kernel
theorem dX9_init_20 : decode cX9_init 20 = .ok (.invokespecial 20, 3) := by decide +kernel
theorem dX9_init_23 : decode cX9_init 23 = .ok (.putfield 21, 3) := by decide +kernel
theorem dX9_init_26 : decode cX9_init 26 = .ok (.aload_n 0, 1) := by decide +kernel
theorem dX9_init_27 : decode cX9_init 27 = .ok (.new 25, 3) := by decide +kernel
theorem dX9_init_30 : decode cX9_init 30 = .ok (.dup, 1) := by decide +kernel
theorem dX9_init_31 : decode cX9_init 31 = .ok (.invokespecial 27, 3) := by decide +kernel
theorem dX9_init_34 : decode cX9_init 34 = .ok (.putfield 28, 3) := by decide +kernel
theorem dX9_init_37 : decode cX9_init 37 = .ok (.aload_n 0, 1) := by decide +kernel
theorem dX9_init_38 : decode cX9_init 38 = .ok (.bipush 16, 2) := by decide +kernel
theorem dX9_init_40 : decode cX9_init 40 = .ok (.anewarray 32, 3) := by decide +kernel
theorem dX9_init_43 : decode cX9_init 43 = .ok (.putfield 34, 3) := by decide +kernel
theorem dX9_init_46 : decode cX9_init 46 = .ok (.aload_n 0, 1) := by decide +kernel
theorem dX9_init_47 : decode cX9_init 47 = .ok (.new 32, 3) := by decide +kernel
theorem dX9_init_50 : decode cX9_init 50 = .ok (.dup, 1) := by decide +kernel
theorem dX9_init_51 : decode cX9_init 51 = .ok (.invokespecial 38, 3) := by decide +kernel
theorem dX9_init_54 : decode cX9_init 54 = .ok (.putfield 39, 3) := by decide +kernel
theorem dX9_init_57 : decode cX9_init 57 = .ok (.aload_n 0, 1) := by decide +kernel
theorem dX9_init_58 : decode cX9_init 58 = .ok (.new 25, 3) := by decide +kernel
theorem dX9_init_61 : decode cX9_init 61 = .ok (.dup, 1) := by decide +kernel
theorem dX9_init_62 : decode cX9_init 62 = .ok (.invokespecial 27, 3) := by decide +kernel
theorem dX9_init_65 : decode cX9_init 65 = .ok (.putfield 43, 3) := by decide +kernel
theorem dX9_init_68 : decode cX9_init 68 = .ok (.aload_n 0, 1) := by decide +kernel
theorem dX9_init_69 : decode cX9_init 69 = .ok (.sipush 24000, 3) := by decide +kernel
theorem dX9_init_72 : decode cX9_init 72 = .ok (.newarray .byte, 2) := by decide +kernel
theorem dX9_init_74 : decode cX9_init 74 = .ok (.putfield 46, 3) := by decide +kernel
theorem dX9_init_77 : decode cX9_init 77 = .ok (.aload_n 0, 1) := by decide +kernel
theorem dX9_init_78 : decode cX9_init 78 = .ok (.bipush 16, 2) := by decide +kernel
theorem dX9_init_80 : decode cX9_init 80 = .ok (.newarray .int, 2) := by decide +kernel
theorem dX9_init_82 : decode cX9_init 82 = .ok (.putfield 50, 3) := by decide +kernel
theorem dX9_init_85 : decode cX9_init 85 = .ok (.aload_n 0, 1) := by decide +kernel
theorem dX9_init_86 : decode cX9_init 86 = .ok (.new 54, 3) := by decide +kernel
theorem dX9_init_89 : decode cX9_init 89 = .ok (.dup, 1) := by decide +kernel
theorem dX9_init_90 : decode cX9_init 90 = .ok (.invokespecial 56, 3) := by decide +kernel
theorem dX9_init_93 : decode cX9_init 93 = .ok (.putfield 57, 3) := by decide +kernel
theorem dX9_init_96 : decode cX9_init 96 = .ok (.aload_n 0, 1) := by decide +kernel
theorem dX9_init_97 : decode cX9_init 97 = .ok (.new 54, 3) := by decide +kernel
theorem dX9_init_100 : decode cX9_init 100 = .ok (.dup, 1) := by decide +kernel
theorem dX9_init_101 : decode cX9_init 101 = .ok (.invokespecial 56, 3) := by decide +kernel
theorem dX9_init_104 : decode cX9_init 104 = .ok (.putfield 61, 3) := by decide +kernel
theorem dX9_init_107 : decode cX9_init 107 = .ok (.aload_n 0, 1) := by decide +kernel
theorem dX9_init_108 : decode cX9_init 108 = .ok (.iconst 3, 1) := by decide +kernel
theorem dX9_init_109 : decode cX9_init 109 = .ok (.anewarray 54, 3) := by decide +kernel
theorem dX9_init_112 : decode cX9_init 112 = .ok (.putfield 64, 3) := by decide +kernel
theorem dX9_init_115 : decode cX9_init 115 = .ok (.aload_n 0, 1) := by decide +kernel
theorem dX9_init_116 : decode cX9_init 116 = .ok (.iconst 4, 1) := by decide +kernel
theorem dX9_init_117 : decode cX9_init 117 = .ok (.anewarray 68, 3) := by decide +kernel
theorem dX9_init_120 : decode cX9_init 120 = .ok (.putfield 70, 3) := by decide +kernel
theorem dX9_init_123 : decode cX9_init 123 = .ok (.aload_n 0, 1) := by decide +kernel
theorem dX9_init_124 : decode cX9_init 124 = .ok (.bipush 12, 2) := by decide +kernel
theorem dX9_init_126 : decode cX9_init 126 = .ok (.newarray .int, 2) := by decide +kernel
theorem dX9_init_128 : decode cX9_init 128 = .ok (.putfield 74, 3) := by decide +kernel
theorem dX9_init_131 : decode cX9_init 131 = .ok (.aload_n 0, 1) := by decide +kernel
theorem dX9_init_132 : decode cX9_init 132 = .ok (.aload_n 1, 1) := by decide +kernel
theorem dX9_init_133 : decode cX9_init 133 = .ok (.putfield 77, 3) := by decide +kernel
theorem dX9_init_136 : decode cX9_init 136 = .ok (.iconst 0, 1) := by decide +kernel
theorem dX9_init_137 : decode cX9_init 137 = .ok (.istore_n 2, 1) := by decide +kernel
theorem dX9_init_138 : decode cX9_init 138 = .ok (.iload_n 2, 1) := by decide +kernel
theorem dX9_init_139 : decode cX9_init 139 = .ok (.aload_n 0, 1) := by decide +kernel
theorem dX9_init_140 : decode cX9_init 140 = .ok (.getfield 34, 3) := by decide +kernel
theorem dX9_init_143 : decode cX9_init 143 = .ok (.arraylength, 1) := by decide +kernel
theorem dX9_init_144 : decode cX9_init 144 = .ok (.if_icmp .ge 22, 3) := by decide +kernel
theorem dX9_init_147 : decode cX9_init 147 = .ok (.aload_n 0, 1) := by decide +kernel
theorem dX9_init_148 : decode cX9_init 148 = .ok (.getfield 34, 3) := by decide +kernel
theorem dX9_init_151 : decode cX9_init 151 = .ok (.iload_n 2, 1) := by decide +kernel
theorem dX9_init_152 : decode cX9_init 152 = .ok (.new 32, 3) := by decide +kernel
theorem dX9_init_155 : decode cX9_init 155 = .ok (.dup, 1) := by decide +kernel
theorem dX9_init_156 : decode cX9_init 156 = .ok (.invokespecial 38, 3) := by decide +kernel
theorem dX9_init_159 : decode cX9_init 159 = .ok (.aastore, 1) := by decide +kernel
theorem dX9_init_160 : decode cX9_init 160 = .ok (.iinc 2 1, 3) := by decide +kernel
theorem dX9_init_163 : decode cX9_init 163 = .ok (.goto (-25), 3) := by decide +kernel
theorem dX9_init_166 : decode cX9_init 166 = .ok (.iconst 0, 1) := by decide +kernel
theorem dX9_init_167 : decode cX9_init 167 = .ok (.istore_n 2, 1) := by decide +kernel
theorem dX9_init_168 : decode cX9_init 168 = .ok (.iload_n 2, 1) := by decide +kernel
theorem dX9_init_169 : decode cX9_init 169 = .ok (.aload_n 0, 1) := by decide +kernel
theorem dX9_init_170 : decode cX9_init 170 = .ok (.getfield 64, 3) := by decide +kernel
theorem dX9_init_173 : decode cX9_init 173 = .ok (.arraylength, 1) := by decide +kernel
theorem dX9_init_174 : decode cX9_init 174 = .ok (.if_icmp .ge 22, 3) := by decide +kernel
theorem dX9_init_177 : decode cX9_init 177 = .ok (.aload_n 0, 1) := by decide +kernel
theorem dX9_init_178 : decode cX9_init 178 = .ok (.getfield 64, 3) := by decide +kernel
theorem dX9_init_181 : decode cX9_init 181 = .ok (.iload_n 2, 1) := by decide +kernel
theorem dX9_init_182 : decode cX9_init 182 = .ok (.new 54, 3) := by decide +kernel
theorem dX9_init_185 : decode cX9_init 185 = .ok (.dup, 1) := by decide +kernel
theorem dX9_init_186 : decode cX9_init 186 = .ok (.invokespecial 56, 3) := by decide +kernel
theorem dX9_init_189 : decode cX9_init 189 = .ok (.aastore, 1) := by decide +kernel
theorem dX9_init_190 : decode cX9_init 190 = .ok (.iinc 2 1, 3) := by decide +kernel
theorem dX9_init_193 : decode cX9_init 193 = .ok (.goto (-25), 3) := by decide +kernel
theorem dX9_init_196 : decode cX9_init 196 = .ok (.iconst 0, 1) := by decide +kernel
theorem dX9_init_197 : decode cX9_init 197 = .ok (.istore_n 2, 1) := by decide +kernel
theorem dX9_init_198 : decode cX9_init 198 = .ok (.iload_n 2, 1) := by decide +kernel
theorem dX9_init_199 : decode cX9_init 199 = .ok (.aload_n 0, 1) := by decide +kernel
theorem dX9_init_200 : decode cX9_init 200 = .ok (.getfield 70, 3) := by decide +kernel
theorem dX9_init_203 : decode cX9_init 203 = .ok (.arraylength, 1) := by decide +kernel
theorem dX9_init_204 : decode cX9_init 204 = .ok (.if_icmp .ge 22, 3) := by decide +kernel
theorem dX9_init_207 : decode cX9_init 207 = .ok (.aload_n 0, 1) := by decide +kernel
theorem dX9_init_208 : decode cX9_init 208 = .ok (.getfield 70, 3) := by decide +kernel
theorem dX9_init_211 : decode cX9_init 211 = .ok (.iload_n 2, 1) := by decide +kernel
theorem dX9_init_212 : decode cX9_init 212 = .ok (.new 68, 3) := by decide +kernel
theorem dX9_init_215 : decode cX9_init 215 = .ok (.dup, 1) := by decide +kernel
theorem dX9_init_216 : decode cX9_init 216 = .ok (.invokespecial 81, 3) := by decide +kernel
theorem dX9_init_219 : decode cX9_init 219 = .ok (.aastore, 1) := by decide +kernel
theorem dX9_init_220 : decode cX9_init 220 = .ok (.iinc 2 1, 3) := by decide +kernel
theorem dX9_init_223 : decode cX9_init 223 = .ok (.goto (-25), 3) := by decide +kernel
theorem dX9_init_226 : decode cX9_init 226 = .ok (.aload_n 0, 1) := by decide +kernel
theorem dX9_init_227 : decode cX9_init 227 = .ok (.new 68, 3) := by decide +kernel
theorem dX9_init_230 : decode cX9_init 230 = .ok (.dup, 1) := by decide +kernel
theorem dX9_init_231 : decode cX9_init 231 = .ok (.invokespecial 81, 3) := by decide +kernel
theorem dX9_init_234 : decode cX9_init 234 = .ok (.putfield 82, 3) := by decide +kernel
theorem dX9_init_237 : decode cX9_init 237 = .ok (.return_, 1) := by decide +kernel

set_option maxHeartbeats 20000000 in
set_option maxRecDepth 100000 in
theorem wt9_mk {S : Hp} {h q_1 q_5 q_6 q_41 q_47 q_48 q_49 q_50 q_51 q_52 q_53 q_54 q_126 q_132 q_161 q_183 q_188 q_224 q_230 q_266 q_295 q_328 q_333 q_334 q_335 q_336 q_337 q_338 q_339 q_340 q_425 q_431 q_432 q_433 q_434 q_435 q_436 q_437 q_438 q_524 q_565 q_610 q_661 q_666 q_784 q_789 q_908 q_913 q_1032 q_1037 q_1156 q_1161 q_1280 q_1285 q_1404 q_1409 q_1528 q_1533 q_1652 q_1657 q_1776 q_1781 q_1900 q_1905 q_2024 q_2029 q_2148 q_2153 q_2272 q_2277 q_2396 q_2401 q_2520 q_2525 q_2644 q_2649 q_2650 q_2651 q_2652 q_2653 q_2654 q_2655 q_2656 q_2815 q_2820 q_2821 q_2822 q_2823 q_2824 q_2825 q_2826 q_2827 q_2987 q_2992 q_2993 q_2994 q_2995 q_2996 q_2997 q_2998 q_2999 q_3159 q_3272 q_3386 q_3500 q_3614 : Nat} (hGe : Gs h [(3, [q_1, q_5, q_6]), (4, [q_41, q_47, q_48, q_49, q_50, q_51, q_52, q_53, q_54]), (0, [q_126, q_132]), (1, [q_183, q_188]), (0, [q_224, q_230]), (2, [q_328, q_333, q_334, q_335, q_336, q_337, q_338, q_339, q_340]), (2, [q_425, q_431, q_432, q_433, q_434, q_435, q_436, q_437, q_438]), (1, [q_661, q_666]), (1, [q_784, q_789]), (1, [q_908, q_913]), (1, [q_1032, q_1037]), (1, [q_1156, q_1161]), (1, [q_1280, q_1285]), (1, [q_1404, q_1409]), (1, [q_1528, q_1533]), (1, [q_1652, q_1657]), (1, [q_1776, q_1781]), (1, [q_1900, q_1905]), (1, [q_2024, q_2029]), (1, [q_2148, q_2153]), (1, [q_2272, q_2277]), (1, [q_2396, q_2401]), (1, [q_2520, q_2525]), (2, [q_2644, q_2649, q_2650, q_2651, q_2652, q_2653, q_2654, q_2655, q_2656]), (2, [q_2815, q_2820, q_2821, q_2822, q_2823, q_2824, q_2825, q_2826, q_2827]), (2, [q_2987, q_2992, q_2993, q_2994, q_2995, q_2996, q_2997, q_2998, q_2999]), (5, [q_3159]), (5, [q_3272]), (5, [q_3386]), (5, [q_3500]), (5, [q_3614])] S) (hm_q_610 : q_610 ∈ hL S) (hk_q_610 : Kd S q_610 14) (hm_q_565 : q_565 ∈ hL S) (hk_q_565 : Kd S q_565 19) (hm_q_524 : q_524 ∈ hL S) (hk_q_524 : Kd S q_524 18) (hm_q_295 : q_295 ∈ hL S) (hk_q_295 : Kd S q_295 14) (hm_q_266 : q_266 ∈ hL S) (hk_q_266 : Kd S q_266 13) (hm_q_161 : q_161 ∈ hL S) (hk_q_161 : Kd S q_161 20) (hm_h : h ∈ hL S) (hk_h : Kd S h 9) (el_q_161 : ELs S q_161 [q_661, q_784, q_908, q_1032, q_1156, q_1280, q_1404, q_1528, q_1652, q_1776, q_1900, q_2024, q_2148, q_2272, q_2396, q_2520]) (el_q_524 : ELs S q_524 [q_2644, q_2815, q_2987]) (el_q_565 : ELs S q_565 [q_3159, q_3272, q_3386, q_3500]) (hn_q_161 : Ln S q_161 16) (hn_q_266 : Ln S q_266 24000) (hn_q_295 : Ln S q_295 16) (hn_q_524 : Ln S q_524 3) (hn_q_565 : Ln S q_565 4) (hn_q_610 : Ln S q_610 12) (hr_901_h : hR S 901 h = (some q_1)) (hr_902_h : hR S 902 h = (some q_41)) (hr_903_h : hR S 903 h = (some q_126)) (hr_904_h : hR S 904 h = (some q_161)) (hr_905_h : hR S 905 h = (some q_183)) (hr_906_h : hR S 906 h = (some q_224)) (hr_907_h : hR S 907 h = (some q_266)) (hr_908_h : hR S 908 h = (some q_295)) (hr_909_h : hR S 909 h = (some q_328)) (hr_910_h : hR S 910 h = (some q_425)) (hr_911_h : hR S 911 h = (some q_524)) (hr_912_h : hR S 912 h = (some q_565)) (hr_917_h : hR S 917 h = (some q_610)) : Wt s9K s9N s9P s9Q (fun i => (h :: [q_1, q_5, q_6, q_41, q_47, q_48, q_49, q_50, q_51, q_52, q_53, q_54, q_126, q_132, q_161, q_183, q_188, q_224, q_230, q_266, q_295, q_328, q_333, q_334, q_335, q_336, q_337, q_338, q_339, q_340, q_425, q_431, q_432, q_433, q_434, q_435, q_436, q_437, q_438, q_524, q_565, q_610, q_661, q_666, q_784, q_789, q_908, q_913, q_1032, q_1037, q_1156, q_1161, q_1280, q_1285, q_1404, q_1409, q_1528, q_1533, q_1652, q_1657, q_1776, q_1781, q_1900, q_1905, q_2024, q_2029, q_2148, q_2153, q_2272, q_2277, q_2396, q_2401, q_2520, q_2525, q_2644, q_2649, q_2650, q_2651, q_2652, q_2653, q_2654, q_2655, q_2656, q_2815, q_2820, q_2821, q_2822, q_2823, q_2824, q_2825, q_2826, q_2827, q_2987, q_2992, q_2993, q_2994, q_2995, q_2996, q_2997, q_2998, q_2999, q_3159, q_3272, q_3386, q_3500] : List Nat).getD i 0) S ∧ (∀ j, aI S ((h :: [q_1, q_5, q_6, q_41, q_47, q_48, q_49, q_50, q_51, q_52, q_53, q_54, q_126, q_132, q_161, q_183, q_188, q_224, q_230, q_266, q_295, q_328, q_333, q_334, q_335, q_336, q_337, q_338, q_339, q_340, q_425, q_431, q_432, q_433, q_434, q_435, q_436, q_437, q_438, q_524, q_565, q_610, q_661, q_666, q_784, q_789, q_908, q_913, q_1032, q_1037, q_1156, q_1161, q_1280, q_1285, q_1404, q_1409, q_1528, q_1533, q_1652, q_1657, q_1776, q_1781, q_1900, q_1905, q_2024, q_2029, q_2148, q_2153, q_2272, q_2277, q_2396, q_2401, q_2520, q_2525, q_2644, q_2649, q_2650, q_2651, q_2652, q_2653, q_2654, q_2655, q_2656, q_2815, q_2820, q_2821, q_2822, q_2823, q_2824, q_2825, q_2826, q_2827, q_2987, q_2992, q_2993, q_2994, q_2995, q_2996, q_2997, q_2998, q_2999, q_3159, q_3272, q_3386, q_3500] : List Nat).getD 6 0) j = 0) ∧ (∀ j, aI S ((h :: [q_1, q_5, q_6, q_41, q_47, q_48, q_49, q_50, q_51, q_52, q_53, q_54, q_126, q_132, q_161, q_183, q_188, q_224, q_230, q_266, q_295, q_328, q_333, q_334, q_335, q_336, q_337, q_338, q_339, q_340, q_425, q_431, q_432, q_433, q_434, q_435, q_436, q_437, q_438, q_524, q_565, q_610, q_661, q_666, q_784, q_789, q_908, q_913, q_1032, q_1037, q_1156, q_1161, q_1280, q_1285, q_1404, q_1409, q_1528, q_1533, q_1652, q_1657, q_1776, q_1781, q_1900, q_1905, q_2024, q_2029, q_2148, q_2153, q_2272, q_2277, q_2396, q_2401, q_2520, q_2525, q_2644, q_2649, q_2650, q_2651, q_2652, q_2653, q_2654, q_2655, q_2656, q_2815, q_2820, q_2821, q_2822, q_2823, q_2824, q_2825, q_2826, q_2827, q_2987, q_2992, q_2993, q_2994, q_2995, q_2996, q_2997, q_2998, q_2999, q_3159, q_3272, q_3386, q_3500] : List Nat).getD 9 0) j = 0) ∧ (∀ j, aI S ((h :: [q_1, q_5, q_6, q_41, q_47, q_48, q_49, q_50, q_51, q_52, q_53, q_54, q_126, q_132, q_161, q_183, q_188, q_224, q_230, q_266, q_295, q_328, q_333, q_334, q_335, q_336, q_337, q_338, q_339, q_340, q_425, q_431, q_432, q_433, q_434, q_435, q_436, q_437, q_438, q_524, q_565, q_610, q_661, q_666, q_784, q_789, q_908, q_913, q_1032, q_1037, q_1156, q_1161, q_1280, q_1285, q_1404, q_1409, q_1528, q_1533, q_1652, q_1657, q_1776, q_1781, q_1900, q_1905, q_2024, q_2029, q_2148, q_2153, q_2272, q_2277, q_2396, q_2401, q_2520, q_2525, q_2644, q_2649, q_2650, q_2651, q_2652, q_2653, q_2654, q_2655, q_2656, q_2815, q_2820, q_2821, q_2822, q_2823, q_2824, q_2825, q_2826, q_2827, q_2987, q_2992, q_2993, q_2994, q_2995, q_2996, q_2997, q_2998, q_2999, q_3159, q_3272, q_3386, q_3500] : List Nat).getD 14 0) j = 0) ∧ (∀ j, aI S ((h :: [q_1, q_5, q_6, q_41, q_47, q_48, q_49, q_50, q_51, q_52, q_53, q_54, q_126, q_132, q_161, q_183, q_188, q_224, q_230, q_266, q_295, q_328, q_333, q_334, q_335, q_336, q_337, q_338, q_339, q_340, q_425, q_431, q_432, q_433, q_434, q_435, q_436, q_437, q_438, q_524, q_565, q_610, q_661, q_666, q_784, q_789, q_908, q_913, q_1032, q_1037, q_1156, q_1161, q_1280, q_1285, q_1404, q_1409, q_1528, q_1533, q_1652, q_1657, q_1776, q_1781, q_1900, q_1905, q_2024, q_2029, q_2148, q_2153, q_2272, q_2277, q_2396, q_2401, q_2520, q_2525, q_2644, q_2649, q_2650, q_2651, q_2652, q_2653, q_2654, q_2655, q_2656, q_2815, q_2820, q_2821, q_2822, q_2823, q_2824, q_2825, q_2826, q_2827, q_2987, q_2992, q_2993, q_2994, q_2995, q_2996, q_2997, q_2998, q_2999, q_3159, q_3272, q_3386, q_3500] : List Nat).getD 19 0) j = 0) := by
  have g0_9 : Gt 3 [q_1, q_5, q_6] S := (hGe _ (List.mem_of_getElem? (i := 0) rfl)).2.1
  have g1_9 : Gt 4 [q_41, q_47, q_48, q_49, q_50, q_51, q_52, q_53, q_54] S := (hGe _ (List.mem_of_getElem? (i := 1) rfl)).2.1
  have g2_9 : Gt 0 [q_126, q_132] S := (hGe _ (List.mem_of_getElem? (i := 2) rfl)).2.1
  have g3_9 : Gt 1 [q_183, q_188] S := (hGe _ (List.mem_of_getElem? (i := 3) rfl)).2.1
  have g4_9 : Gt 0 [q_224, q_230] S := (hGe _ (List.mem_of_getElem? (i := 4) rfl)).2.1
  have g5_9 : Gt 2 [q_328, q_333, q_334, q_335, q_336, q_337, q_338, q_339, q_340] S := (hGe _ (List.mem_of_getElem? (i := 5) rfl)).2.1
  have g6_9 : Gt 2 [q_425, q_431, q_432, q_433, q_434, q_435, q_436, q_437, q_438] S := (hGe _ (List.mem_of_getElem? (i := 6) rfl)).2.1
  have g7_9 : Gt 1 [q_661, q_666] S := (hGe _ (List.mem_of_getElem? (i := 7) rfl)).2.1
  have g8_9 : Gt 1 [q_784, q_789] S := (hGe _ (List.mem_of_getElem? (i := 8) rfl)).2.1
  have g9_9 : Gt 1 [q_908, q_913] S := (hGe _ (List.mem_of_getElem? (i := 9) rfl)).2.1
  have g10_9 : Gt 1 [q_1032, q_1037] S := (hGe _ (List.mem_of_getElem? (i := 10) rfl)).2.1
  have g11_9 : Gt 1 [q_1156, q_1161] S := (hGe _ (List.mem_of_getElem? (i := 11) rfl)).2.1
  have g12_9 : Gt 1 [q_1280, q_1285] S := (hGe _ (List.mem_of_getElem? (i := 12) rfl)).2.1
  have g13_9 : Gt 1 [q_1404, q_1409] S := (hGe _ (List.mem_of_getElem? (i := 13) rfl)).2.1
  have g14_9 : Gt 1 [q_1528, q_1533] S := (hGe _ (List.mem_of_getElem? (i := 14) rfl)).2.1
  have g15_9 : Gt 1 [q_1652, q_1657] S := (hGe _ (List.mem_of_getElem? (i := 15) rfl)).2.1
  have g16_9 : Gt 1 [q_1776, q_1781] S := (hGe _ (List.mem_of_getElem? (i := 16) rfl)).2.1
  have g17_9 : Gt 1 [q_1900, q_1905] S := (hGe _ (List.mem_of_getElem? (i := 17) rfl)).2.1
  have g18_9 : Gt 1 [q_2024, q_2029] S := (hGe _ (List.mem_of_getElem? (i := 18) rfl)).2.1
  have g19_9 : Gt 1 [q_2148, q_2153] S := (hGe _ (List.mem_of_getElem? (i := 19) rfl)).2.1
  have g20_9 : Gt 1 [q_2272, q_2277] S := (hGe _ (List.mem_of_getElem? (i := 20) rfl)).2.1
  have g21_9 : Gt 1 [q_2396, q_2401] S := (hGe _ (List.mem_of_getElem? (i := 21) rfl)).2.1
  have g22_9 : Gt 1 [q_2520, q_2525] S := (hGe _ (List.mem_of_getElem? (i := 22) rfl)).2.1
  have g23_9 : Gt 2 [q_2644, q_2649, q_2650, q_2651, q_2652, q_2653, q_2654, q_2655, q_2656] S := (hGe _ (List.mem_of_getElem? (i := 23) rfl)).2.1
  have g24_9 : Gt 2 [q_2815, q_2820, q_2821, q_2822, q_2823, q_2824, q_2825, q_2826, q_2827] S := (hGe _ (List.mem_of_getElem? (i := 24) rfl)).2.1
  have g25_9 : Gt 2 [q_2987, q_2992, q_2993, q_2994, q_2995, q_2996, q_2997, q_2998, q_2999] S := (hGe _ (List.mem_of_getElem? (i := 25) rfl)).2.1
  have g26_9 : Gt 5 [q_3159] S := (hGe _ (List.mem_of_getElem? (i := 26) rfl)).2.1
  have g27_9 : Gt 5 [q_3272] S := (hGe _ (List.mem_of_getElem? (i := 27) rfl)).2.1
  have g28_9 : Gt 5 [q_3386] S := (hGe _ (List.mem_of_getElem? (i := 28) rfl)).2.1
  have g29_9 : Gt 5 [q_3500] S := (hGe _ (List.mem_of_getElem? (i := 29) rfl)).2.1
  have g30_9 : Gt 5 [q_3614] S := (hGe _ (List.mem_of_getElem? (i := 30) rfl)).2.1
  have w9 : WK S (h :: [q_1, q_5, q_6, q_41, q_47, q_48, q_49, q_50, q_51, q_52, q_53, q_54, q_126, q_132, q_161, q_183, q_188, q_224, q_230, q_266, q_295, q_328, q_333, q_334, q_335, q_336, q_337, q_338, q_339, q_340, q_425, q_431, q_432, q_433, q_434, q_435, q_436, q_437, q_438, q_524, q_565, q_610, q_661, q_666, q_784, q_789, q_908, q_913, q_1032, q_1037, q_1156, q_1161, q_1280, q_1285, q_1404, q_1409, q_1528, q_1533, q_1652, q_1657, q_1776, q_1781, q_1900, q_1905, q_2024, q_2029, q_2148, q_2153, q_2272, q_2277, q_2396, q_2401, q_2520, q_2525, q_2644, q_2649, q_2650, q_2651, q_2652, q_2653, q_2654, q_2655, q_2656, q_2815, q_2820, q_2821, q_2822, q_2823, q_2824, q_2825, q_2826, q_2827, q_2987, q_2992, q_2993, q_2994, q_2995, q_2996, q_2997, q_2998, q_2999, q_3159, q_3272, q_3386, q_3500]) s9K := (WK.cons ⟨hm_h, hk_h⟩ (WK.cons (g0_9.1 0 _ rfl) (WK.cons (g0_9.1 1 _ rfl) (WK.cons (g0_9.1 2 _ rfl) (WK.cons (g1_9.1 0 _ rfl) (WK.cons (g1_9.1 1 _ rfl) (WK.cons (g1_9.1 2 _ rfl) (WK.cons (g1_9.1 3 _ rfl) (WK.cons (g1_9.1 4 _ rfl) (WK.cons (g1_9.1 5 _ rfl) (WK.cons (g1_9.1 6 _ rfl) (WK.cons (g1_9.1 7 _ rfl) (WK.cons (g1_9.1 8 _ rfl) (WK.cons (g2_9.1 0 _ rfl) (WK.cons (g2_9.1 1 _ rfl) (WK.cons ⟨hm_q_161, hk_q_161⟩ (WK.cons (g3_9.1 0 _ rfl) (WK.cons (g3_9.1 1 _ rfl) (WK.cons (g4_9.1 0 _ rfl) (WK.cons (g4_9.1 1 _ rfl) (WK.cons ⟨hm_q_266, hk_q_266⟩ (WK.cons ⟨hm_q_295, hk_q_295⟩ (WK.cons (g5_9.1 0 _ rfl) (WK.cons (g5_9.1 1 _ rfl) (WK.cons (g5_9.1 2 _ rfl) (WK.cons (g5_9.1 3 _ rfl) (WK.cons (g5_9.1 4 _ rfl) (WK.cons (g5_9.1 5 _ rfl) (WK.cons (g5_9.1 6 _ rfl) (WK.cons (g5_9.1 7 _ rfl) (WK.cons (g5_9.1 8 _ rfl) (WK.cons (g6_9.1 0 _ rfl) (WK.cons (g6_9.1 1 _ rfl) (WK.cons (g6_9.1 2 _ rfl) (WK.cons (g6_9.1 3 _ rfl) (WK.cons (g6_9.1 4 _ rfl) (WK.cons (g6_9.1 5 _ rfl) (WK.cons (g6_9.1 6 _ rfl) (WK.cons (g6_9.1 7 _ rfl) (WK.cons (g6_9.1 8 _ rfl) (WK.cons ⟨hm_q_524, hk_q_524⟩ (WK.cons ⟨hm_q_565, hk_q_565⟩ (WK.cons ⟨hm_q_610, hk_q_610⟩ (WK.cons (g7_9.1 0 _ rfl) (WK.cons (g7_9.1 1 _ rfl) (WK.cons (g8_9.1 0 _ rfl) (WK.cons (g8_9.1 1 _ rfl) (WK.cons (g9_9.1 0 _ rfl) (WK.cons (g9_9.1 1 _ rfl) (WK.cons (g10_9.1 0 _ rfl) (WK.cons (g10_9.1 1 _ rfl) (WK.cons (g11_9.1 0 _ rfl) (WK.cons (g11_9.1 1 _ rfl) (WK.cons (g12_9.1 0 _ rfl) (WK.cons (g12_9.1 1 _ rfl) (WK.cons (g13_9.1 0 _ rfl) (WK.cons (g13_9.1 1 _ rfl) (WK.cons (g14_9.1 0 _ rfl) (WK.cons (g14_9.1 1 _ rfl) (WK.cons (g15_9.1 0 _ rfl) (WK.cons (g15_9.1 1 _ rfl) (WK.cons (g16_9.1 0 _ rfl) (WK.cons (g16_9.1 1 _ rfl) (WK.cons (g17_9.1 0 _ rfl) (WK.cons (g17_9.1 1 _ rfl) (WK.cons (g18_9.1 0 _ rfl) (WK.cons (g18_9.1 1 _ rfl) (WK.cons (g19_9.1 0 _ rfl) (WK.cons (g19_9.1 1 _ rfl) (WK.cons (g20_9.1 0 _ rfl) (WK.cons (g20_9.1 1 _ rfl) (WK.cons (g21_9.1 0 _ rfl) (WK.cons (g21_9.1 1 _ rfl) (WK.cons (g22_9.1 0 _ rfl) (WK.cons (g22_9.1 1 _ rfl) (WK.cons (g23_9.1 0 _ rfl) (WK.cons (g23_9.1 1 _ rfl) (WK.cons (g23_9.1 2 _ rfl) (WK.cons (g23_9.1 3 _ rfl) (WK.cons (g23_9.1 4 _ rfl) (WK.cons (g23_9.1 5 _ rfl) (WK.cons (g23_9.1 6 _ rfl) (WK.cons (g23_9.1 7 _ rfl) (WK.cons (g23_9.1 8 _ rfl) (WK.cons (g24_9.1 0 _ rfl) (WK.cons (g24_9.1 1 _ rfl) (WK.cons (g24_9.1 2 _ rfl) (WK.cons (g24_9.1 3 _ rfl) (WK.cons (g24_9.1 4 _ rfl) (WK.cons (g24_9.1 5 _ rfl) (WK.cons (g24_9.1 6 _ rfl) (WK.cons (g24_9.1 7 _ rfl) (WK.cons (g24_9.1 8 _ rfl) (WK.cons (g25_9.1 0 _ rfl) (WK.cons (g25_9.1 1 _ rfl) (WK.cons (g25_9.1 2 _ rfl) (WK.cons (g25_9.1 3 _ rfl) (WK.cons (g25_9.1 4 _ rfl) (WK.cons (g25_9.1 5 _ rfl) (WK.cons (g25_9.1 6 _ rfl) (WK.cons (g25_9.1 7 _ rfl) (WK.cons (g25_9.1 8 _ rfl) (WK.cons (g26_9.1 0 _ rfl) (WK.cons (g27_9.1 0 _ rfl) (WK.cons (g28_9.1 0 _ rfl) (WK.cons (g29_9.1 0 _ rfl) WK.nil))))))))))))))))))))))))))))))))))))))))))))))))))))))))))))))))))))))))))))))))))))))))))))))))))))))))))
  exact ⟨⟨w9.get, (List.forall_mem_cons.mpr ⟨(g0_9.2.1 _ (List.mem_of_getElem? (i := 0) rfl)), (List.forall_mem_cons.mpr ⟨(g0_9.2.1 _ (List.mem_of_getElem? (i := 1) rfl)), (List.forall_mem_cons.mpr ⟨(g1_9.2.1 _ (List.mem_of_getElem? (i := 0) rfl)), (List.forall_mem_cons.mpr ⟨(g1_9.2.1 _ (List.mem_of_getElem? (i := 1) rfl)), (List.forall_mem_cons.mpr ⟨(g1_9.2.1 _ (List.mem_of_getElem? (i := 2) rfl)), (List.forall_mem_cons.mpr ⟨(g1_9.2.1 _ (List.mem_of_getElem? (i := 3) rfl)), (List.forall_mem_cons.mpr ⟨(g1_9.2.1 _ (List.mem_of_getElem? (i := 4) rfl)), (List.forall_mem_cons.mpr ⟨(g1_9.2.1 _ (List.mem_of_getElem? (i := 5) rfl)), (List.forall_mem_cons.mpr ⟨(g1_9.2.1 _ (List.mem_of_getElem? (i := 6) rfl)), (List.forall_mem_cons.mpr ⟨(g2_9.2.1 _ (List.mem_of_getElem? (i := 0) rfl)), (List.forall_mem_cons.mpr ⟨hn_q_161, (List.forall_mem_cons.mpr ⟨(g3_9.2.1 _ (List.mem_of_getElem? (i := 0) rfl)), (List.forall_mem_cons.mpr ⟨(g4_9.2.1 _ (List.mem_of_getElem? (i := 0) rfl)), (List.forall_mem_cons.mpr ⟨hn_q_266, (List.forall_mem_cons.mpr ⟨hn_q_295, (List.forall_mem_cons.mpr ⟨(g5_9.2.1 _ (List.mem_of_getElem? (i := 0) rfl)), (List.forall_mem_cons.mpr ⟨(g5_9.2.1 _ (List.mem_of_getElem? (i := 1) rfl)), (List.forall_mem_cons.mpr ⟨(g5_9.2.1 _ (List.mem_of_getElem? (i := 2) rfl)), (List.forall_mem_cons.mpr ⟨(g5_9.2.1 _ (List.mem_of_getElem? (i := 3) rfl)), (List.forall_mem_cons.mpr ⟨(g5_9.2.1 _ (List.mem_of_getElem? (i := 4) rfl)), (List.forall_mem_cons.mpr ⟨(g6_9.2.1 _ (List.mem_of_getElem? (i := 0) rfl)), (List.forall_mem_cons.mpr ⟨(g6_9.2.1 _ (List.mem_of_getElem? (i := 1) rfl)), (List.forall_mem_cons.mpr ⟨(g6_9.2.1 _ (List.mem_of_getElem? (i := 2) rfl)), (List.forall_mem_cons.mpr ⟨(g6_9.2.1 _ (List.mem_of_getElem? (i := 3) rfl)), (List.forall_mem_cons.mpr ⟨(g6_9.2.1 _ (List.mem_of_getElem? (i := 4) rfl)), (List.forall_mem_cons.mpr ⟨hn_q_524, (List.forall_mem_cons.mpr ⟨hn_q_565, (List.forall_mem_cons.mpr ⟨hn_q_610, (List.forall_mem_cons.mpr ⟨(g7_9.2.1 _ (List.mem_of_getElem? (i := 0) rfl)), (List.forall_mem_cons.mpr ⟨(g8_9.2.1 _ (List.mem_of_getElem? (i := 0) rfl)), (List.forall_mem_cons.mpr ⟨(g9_9.2.1 _ (List.mem_of_getElem? (i := 0) rfl)), (List.forall_mem_cons.mpr ⟨(g10_9.2.1 _ (List.mem_of_getElem? (i := 0) rfl)), (List.forall_mem_cons.mpr ⟨(g11_9.2.1 _ (List.mem_of_getElem? (i := 0) rfl)), (List.forall_mem_cons.mpr ⟨(g12_9.2.1 _ (List.mem_of_getElem? (i := 0) rfl)), (List.forall_mem_cons.mpr ⟨(g13_9.2.1 _ (List.mem_of_getElem? (i := 0) rfl)), (List.forall_mem_cons.mpr ⟨(g14_9.2.1 _ (List.mem_of_getElem? (i := 0) rfl)), (List.forall_mem_cons.mpr ⟨(g15_9.2.1 _ (List.mem_of_getElem? (i := 0) rfl)), (List.forall_mem_cons.mpr ⟨(g16_9.2.1 _ (List.mem_of_getElem? (i := 0) rfl)), (List.forall_mem_cons.mpr ⟨(g17_9.2.1 _ (List.mem_of_getElem? (i := 0) rfl)), (List.forall_mem_cons.mpr ⟨(g18_9.2.1 _ (List.mem_of_getElem? (i := 0) rfl)), (List.forall_mem_cons.mpr ⟨(g19_9.2.1 _ (List.mem_of_getElem? (i := 0) rfl)), (List.forall_mem_cons.mpr ⟨(g20_9.2.1 _ (List.mem_of_getElem? (i := 0) rfl)), (List.forall_mem_cons.mpr ⟨(g21_9.2.1 _ (List.mem_of_getElem? (i := 0) rfl)), (List.forall_mem_cons.mpr ⟨(g22_9.2.1 _ (List.mem_of_getElem? (i := 0) rfl)), (List.forall_mem_cons.mpr ⟨(g23_9.2.1 _ (List.mem_of_getElem? (i := 0) rfl)), (List.forall_mem_cons.mpr ⟨(g23_9.2.1 _ (List.mem_of_getElem? (i := 1) rfl)), (List.forall_mem_cons.mpr ⟨(g23_9.2.1 _ (List.mem_of_getElem? (i := 2) rfl)), (List.forall_mem_cons.mpr ⟨(g23_9.2.1 _ (List.mem_of_getElem? (i := 3) rfl)), (List.forall_mem_cons.mpr ⟨(g23_9.2.1 _ (List.mem_of_getElem? (i := 4) rfl)), (List.forall_mem_cons.mpr ⟨(g24_9.2.1 _ (List.mem_of_getElem? (i := 0) rfl)), (List.forall_mem_cons.mpr ⟨(g24_9.2.1 _ (List.mem_of_getElem? (i := 1) rfl)), (List.forall_mem_cons.mpr ⟨(g24_9.2.1 _ (List.mem_of_getElem? (i := 2) rfl)), (List.forall_mem_cons.mpr ⟨(g24_9.2.1 _ (List.mem_of_getElem? (i := 3) rfl)), (List.forall_mem_cons.mpr ⟨(g24_9.2.1 _ (List.mem_of_getElem? (i := 4) rfl)), (List.forall_mem_cons.mpr ⟨(g25_9.2.1 _ (List.mem_of_getElem? (i := 0) rfl)), (List.forall_mem_cons.mpr ⟨(g25_9.2.1 _ (List.mem_of_getElem? (i := 1) rfl)), (List.forall_mem_cons.mpr ⟨(g25_9.2.1 _ (List.mem_of_getElem? (i := 2) rfl)), (List.forall_mem_cons.mpr ⟨(g25_9.2.1 _ (List.mem_of_getElem? (i := 3) rfl)), (List.forall_mem_cons.mpr ⟨(g25_9.2.1 _ (List.mem_of_getElem? (i := 4) rfl)), (fun _ h9 => absurd h9 List.not_mem_nil)⟩)⟩)⟩)⟩)⟩)⟩)⟩)⟩)⟩)⟩)⟩)⟩)⟩)⟩)⟩)⟩)⟩)⟩)⟩)⟩)⟩)⟩)⟩)⟩)⟩)⟩)⟩)⟩)⟩)⟩)⟩)⟩)⟩)⟩)⟩)⟩)⟩)⟩)⟩)⟩)⟩)⟩)⟩)⟩)⟩)⟩)⟩)⟩)⟩)⟩)⟩)⟩)⟩)⟩)⟩)⟩)⟩)⟩)⟩), (List.forall_mem_cons.mpr ⟨hr_901_h, (List.forall_mem_cons.mpr ⟨(g0_9.2.2.1 _ (List.mem_of_getElem? (i := 0) rfl)), (List.forall_mem_cons.mpr ⟨(g0_9.2.2.1 _ (List.mem_of_getElem? (i := 1) rfl)), (List.forall_mem_cons.mpr ⟨hr_902_h, (List.forall_mem_cons.mpr ⟨(g1_9.2.2.1 _ (List.mem_of_getElem? (i := 0) rfl)), (List.forall_mem_cons.mpr ⟨(g1_9.2.2.1 _ (List.mem_of_getElem? (i := 1) rfl)), (List.forall_mem_cons.mpr ⟨(g1_9.2.2.1 _ (List.mem_of_getElem? (i := 2) rfl)), (List.forall_mem_cons.mpr ⟨(g1_9.2.2.1 _ (List.mem_of_getElem? (i := 3) rfl)), (List.forall_mem_cons.mpr ⟨(g1_9.2.2.1 _ (List.mem_of_getElem? (i := 4) rfl)), (List.forall_mem_cons.mpr ⟨(g1_9.2.2.1 _ (List.mem_of_getElem? (i := 5) rfl)), (List.forall_mem_cons.mpr ⟨(g1_9.2.2.1 _ (List.mem_of_getElem? (i := 6) rfl)), (List.forall_mem_cons.mpr ⟨(g1_9.2.2.1 _ (List.mem_of_getElem? (i := 7) rfl)), (List.forall_mem_cons.mpr ⟨hr_903_h, (List.forall_mem_cons.mpr ⟨(g2_9.2.2.1 _ (List.mem_of_getElem? (i := 0) rfl)), (List.forall_mem_cons.mpr ⟨hr_904_h, (List.forall_mem_cons.mpr ⟨hr_905_h, (List.forall_mem_cons.mpr ⟨(g3_9.2.2.1 _ (List.mem_of_getElem? (i := 0) rfl)), (List.forall_mem_cons.mpr ⟨hr_906_h, (List.forall_mem_cons.mpr ⟨(g4_9.2.2.1 _ (List.mem_of_getElem? (i := 0) rfl)), (List.forall_mem_cons.mpr ⟨hr_907_h, (List.forall_mem_cons.mpr ⟨hr_908_h, (List.forall_mem_cons.mpr ⟨hr_909_h, (List.forall_mem_cons.mpr ⟨(g5_9.2.2.1 _ (List.mem_of_getElem? (i := 0) rfl)), (List.forall_mem_cons.mpr ⟨(g5_9.2.2.1 _ (List.mem_of_getElem? (i := 1) rfl)), (List.forall_mem_cons.mpr ⟨(g5_9.2.2.1 _ (List.mem_of_getElem? (i := 2) rfl)), (List.forall_mem_cons.mpr ⟨(g5_9.2.2.1 _ (List.mem_of_getElem? (i := 3) rfl)), (List.forall_mem_cons.mpr ⟨(g5_9.2.2.1 _ (List.mem_of_getElem? (i := 4) rfl)), (List.forall_mem_cons.mpr ⟨(g5_9.2.2.1 _ (List.mem_of_getElem? (i := 5) rfl)), (List.forall_mem_cons.mpr ⟨(g5_9.2.2.1 _ (List.mem_of_getElem? (i := 6) rfl)), (List.forall_mem_cons.mpr ⟨(g5_9.2.2.1 _ (List.mem_of_getElem? (i := 7) rfl)), (List.forall_mem_cons.mpr ⟨hr_910_h, (List.forall_mem_cons.mpr ⟨(g6_9.2.2.1 _ (List.mem_of_getElem? (i := 0) rfl)), (List.forall_mem_cons.mpr ⟨(g6_9.2.2.1 _ (List.mem_of_getElem? (i := 1) rfl)), (List.forall_mem_cons.mpr ⟨(g6_9.2.2.1 _ (List.mem_of_getElem? (i := 2) rfl)), (List.forall_mem_cons.mpr ⟨(g6_9.2.2.1 _ (List.mem_of_getElem? (i := 3) rfl)), (List.forall_mem_cons.mpr ⟨(g6_9.2.2.1 _ (List.mem_of_getElem? (i := 4) rfl)), (List.forall_mem_cons.mpr ⟨(g6_9.2.2.1 _ (List.mem_of_getElem? (i := 5) rfl)), (List.forall_mem_cons.mpr ⟨(g6_9.2.2.1 _ (List.mem_of_getElem? (i := 6) rfl)), (List.forall_mem_cons.mpr ⟨(g6_9.2.2.1 _ (List.mem_of_getElem? (i := 7) rfl)), (List.forall_mem_cons.mpr ⟨hr_911_h, (List.forall_mem_cons.mpr ⟨hr_912_h, (List.forall_mem_cons.mpr ⟨hr_917_h, (List.forall_mem_cons.mpr ⟨(g7_9.2.2.1 _ (List.mem_of_getElem? (i := 0) rfl)), (List.forall_mem_cons.mpr ⟨(g8_9.2.2.1 _ (List.mem_of_getElem? (i := 0) rfl)), (List.forall_mem_cons.mpr ⟨(g9_9.2.2.1 _ (List.mem_of_getElem? (i := 0) rfl)), (List.forall_mem_cons.mpr ⟨(g10_9.2.2.1 _ (List.mem_of_getElem? (i := 0) rfl)), (List.forall_mem_cons.mpr ⟨(g11_9.2.2.1 _ (List.mem_of_getElem? (i := 0) rfl)), (List.forall_mem_cons.mpr ⟨(g12_9.2.2.1 _ (List.mem_of_getElem? (i := 0) rfl)), (List.forall_mem_cons.mpr ⟨(g13_9.2.2.1 _ (List.mem_of_getElem? (i := 0) rfl)), (List.forall_mem_cons.mpr ⟨(g14_9.2.2.1 _ (List.mem_of_getElem? (i := 0) rfl)), (List.forall_mem_cons.mpr ⟨(g15_9.2.2.1 _ (List.mem_of_getElem? (i := 0) rfl)), (List.forall_mem_cons.mpr ⟨(g16_9.2.2.1 _ (List.mem_of_getElem? (i := 0) rfl)), (List.forall_mem_cons.mpr ⟨(g17_9.2.2.1 _ (List.mem_of_getElem? (i := 0) rfl)), (List.forall_mem_cons.mpr ⟨(g18_9.2.2.1 _ (List.mem_of_getElem? (i := 0) rfl)), (List.forall_mem_cons.mpr ⟨(g19_9.2.2.1 _ (List.mem_of_getElem? (i := 0) rfl)), (List.forall_mem_cons.mpr ⟨(g20_9.2.2.1 _ (List.mem_of_getElem? (i := 0) rfl)), (List.forall_mem_cons.mpr ⟨(g21_9.2.2.1 _ (List.mem_of_getElem? (i := 0) rfl)), (List.forall_mem_cons.mpr ⟨(g22_9.2.2.1 _ (List.mem_of_getElem? (i := 0) rfl)), (List.forall_mem_cons.mpr ⟨(g23_9.2.2.1 _ (List.mem_of_getElem? (i := 0) rfl)), (List.forall_mem_cons.mpr ⟨(g23_9.2.2.1 _ (List.mem_of_getElem? (i := 1) rfl)), (List.forall_mem_cons.mpr ⟨(g23_9.2.2.1 _ (List.mem_of_getElem? (i := 2) rfl)), (List.forall_mem_cons.mpr ⟨(g23_9.2.2.1 _ (List.mem_of_getElem? (i := 3) rfl)), (List.forall_mem_cons.mpr ⟨(g23_9.2.2.1 _ (List.mem_of_getElem? (i := 4) rfl)), (List.forall_mem_cons.mpr ⟨(g23_9.2.2.1 _ (List.mem_of_getElem? (i := 5) rfl)), (List.forall_mem_cons.mpr ⟨(g23_9.2.2.1 _ (List.mem_of_getElem? (i := 6) rfl)), (List.forall_mem_cons.mpr ⟨(g23_9.2.2.1 _ (List.mem_of_getElem? (i := 7) rfl)), (List.forall_mem_cons.mpr ⟨(g24_9.2.2.1 _ (List.mem_of_getElem? (i := 0) rfl)), (List.forall_mem_cons.mpr ⟨(g24_9.2.2.1 _ (List.mem_of_getElem? (i := 1) rfl)), (List.forall_mem_cons.mpr ⟨(g24_9.2.2.1 _ (List.mem_of_getElem? (i := 2) rfl)), (List.forall_mem_cons.mpr ⟨(g24_9.2.2.1 _ (List.mem_of_getElem? (i := 3) rfl)), (List.forall_mem_cons.mpr ⟨(g24_9.2.2.1 _ (List.mem_of_getElem? (i := 4) rfl)), (List.forall_mem_cons.mpr ⟨(g24_9.2.2.1 _ (List.mem_of_getElem? (i := 5) rfl)), (List.forall_mem_cons.mpr ⟨(g24_9.2.2.1 _ (List.mem_of_getElem? (i := 6) rfl)), (List.forall_mem_cons.mpr ⟨(g24_9.2.2.1 _ (List.mem_of_getElem? (i := 7) rfl)), (List.forall_mem_cons.mpr ⟨(g25_9.2.2.1 _ (List.mem_of_getElem? (i := 0) rfl)), (List.forall_mem_cons.mpr ⟨(g25_9.2.2.1 _ (List.mem_of_getElem? (i := 1) rfl)), (List.forall_mem_cons.mpr ⟨(g25_9.2.2.1 _ (List.mem_of_getElem? (i := 2) rfl)), (List.forall_mem_cons.mpr ⟨(g25_9.2.2.1 _ (List.mem_of_getElem? (i := 3) rfl)), (List.forall_mem_cons.mpr ⟨(g25_9.2.2.1 _ (List.mem_of_getElem? (i := 4) rfl)), (List.forall_mem_cons.mpr ⟨(g25_9.2.2.1 _ (List.mem_of_getElem? (i := 5) rfl)), (List.forall_mem_cons.mpr ⟨(g25_9.2.2.1 _ (List.mem_of_getElem? (i := 6) rfl)), (List.forall_mem_cons.mpr ⟨(g25_9.2.2.1 _ (List.mem_of_getElem? (i := 7) rfl)), (fun _ h9 => absurd h9 List.not_mem_nil)⟩)⟩)⟩)⟩)⟩)⟩)⟩)⟩)⟩)⟩)⟩)⟩)⟩)⟩)⟩)⟩)⟩)⟩)⟩)⟩)⟩)⟩)⟩)⟩)⟩)⟩)⟩)⟩)⟩)⟩)⟩)⟩)⟩)⟩)⟩)⟩)⟩)⟩)⟩)⟩)⟩)⟩)⟩)⟩)⟩)⟩)⟩)⟩)⟩)⟩)⟩)⟩)⟩)⟩)⟩)⟩)⟩)⟩)⟩)⟩)⟩)⟩)⟩)⟩)⟩)⟩)⟩)⟩)⟩)⟩)⟩)⟩)⟩)⟩)⟩)⟩)⟩)⟩)⟩)⟩)⟩)⟩), (List.forall_mem_cons.mpr ⟨(el_q_161 0 _ rfl), (List.forall_mem_cons.mpr ⟨(el_q_161 1 _ rfl), (List.forall_mem_cons.mpr ⟨(el_q_161 2 _ rfl), (List.forall_mem_cons.mpr ⟨(el_q_161 3 _ rfl), (List.forall_mem_cons.mpr ⟨(el_q_161 4 _ rfl), (List.forall_mem_cons.mpr ⟨(el_q_161 5 _ rfl), (List.forall_mem_cons.mpr ⟨(el_q_161 6 _ rfl), (List.forall_mem_cons.mpr ⟨(el_q_161 7 _ rfl), (List.forall_mem_cons.mpr ⟨(el_q_161 8 _ rfl), (List.forall_mem_cons.mpr ⟨(el_q_161 9 _ rfl), (List.forall_mem_cons.mpr ⟨(el_q_161 10 _ rfl), (List.forall_mem_cons.mpr ⟨(el_q_161 11 _ rfl), (List.forall_mem_cons.mpr ⟨(el_q_161 12 _ rfl), (List.forall_mem_cons.mpr ⟨(el_q_161 13 _ rfl), (List.forall_mem_cons.mpr ⟨(el_q_161 14 _ rfl), (List.forall_mem_cons.mpr ⟨(el_q_161 15 _ rfl), (List.forall_mem_cons.mpr ⟨(el_q_524 0 _ rfl), (List.forall_mem_cons.mpr ⟨(el_q_524 1 _ rfl), (List.forall_mem_cons.mpr ⟨(el_q_524 2 _ rfl), (List.forall_mem_cons.mpr ⟨(el_q_565 0 _ rfl), (List.forall_mem_cons.mpr ⟨(el_q_565 1 _ rfl), (List.forall_mem_cons.mpr ⟨(el_q_565 2 _ rfl), (List.forall_mem_cons.mpr ⟨(el_q_565 3 _ rfl), (fun _ h9 => absurd h9 List.not_mem_nil)⟩)⟩)⟩)⟩)⟩)⟩)⟩)⟩)⟩)⟩)⟩)⟩)⟩)⟩)⟩)⟩)⟩)⟩)⟩)⟩)⟩)⟩)⟩)⟩, g1_9.2.2.2 2 (by decide), g1_9.2.2.2 5 (by decide), g2_9.2.2.2 1 (by decide), g4_9.2.2.2 1 (by decide)⟩

set_option maxRecDepth 100000 in
set_option maxHeartbeats 60000000 in
theorem c_X9_init (S : Hp) (h : Nat) (hm : h ∈ hL S) (hk : hK S h = 9) (s0 : Nat) : Ct 4 yX9_init cX9_init 3 none 113 68424 [.ref h, .ref s0] S (fun r S' => r = none ∧ Fm (fun _ _ => False) (fun f9 b9 => b9 = h) (fun _ => False) S S' ∧ hR S' 900 h = some s0 ∧ ∃ l : List Nat, Wt s9K s9N s9P s9Q (fun i => (h :: l).getD i 0) S' ∧ l.length = 105 ∧ NL S l S' ∧ (∀ j, aI S' ((h :: l).getD 6 0) j = 0) ∧ (∀ j, aI S' ((h :: l).getD 9 0) j = 0) ∧ (∀ j, aI S' ((h :: l).getD 14 0) j = 0) ∧ (∀ j, aI S' ((h :: l).getD 19 0) j = 0)) := by
  refine ct_of (by decide) (Nat.le_of_ble_eq_true rfl) fun x hn9 C M hm9 => ?_
  have C : CB x RX9 cX9_init := C
  refine J.eq (lv' := [(0, .ref h), (1, .ref s0)]) rfl rfl rfl ?_
  refine j_aload_n C dX9_init_0 rfl 0 rfl ?_
  refine j_objInit C mlX9_3 nst_oi (M.fl (by decide)) dX9_init_1 ?_
  refine j_aload_n C dX9_init_4 rfl 0 rfl ?_
  refine j_new (N := 15) C (ci := 0) rfl rfl klX9_9 knX0 kiX0 (M.cells (by decide)) (M.slots (by decide)) dX9_init_5 (fun q_1 hq_2 => ?_)
  have hz_3 : q_1 ∉ hL S := hq_2
  refine j_dup C dX9_init_8 rfl ?_
  have hf_4 : Fm (fun _ _ => False) (fun f9 b9 => b9 = h) (fun _ => False) S (nO S q_1 0) := ((Fm.refl (WI := (fun _ _ => False)) (WR := (fun f9 b9 => b9 = h)) (WA := (fun _ => False))).nO _ hq_2)
  refine j_callI C [] [.ref q_1, .ref h] mlX9_11 mcX0_init (c_X0_init (nO S q_1 0) q_1 mem_new (kd_nO' (k := 0))) (M.rm (by decide) (by decide) (Nat.le_of_ble_eq_true rfl) (Nat.le_of_ble_eq_true rfl)) rfl rfl (Nat.le_of_ble_eq_true rfl) dX9_init_9 (fun r_18 S_19 hp_20 => ?_)
  obtain ⟨rfl, hf_21, q_5, q_6, e_7, e_8, e_9, e_10, e_11, e_12, e_13, e_14, e_15, e_16, hNl_17⟩ := hp_20
  refine J.eq (st' := [.ref q_1, .ref h]) rfl rfl rfl ?_
  have hm_22 : h ∈ hL S_19 := hf_21.mem (mem_old hm)
  have hk_23 : Kd S_19 h 9 := hf_21.kd (mem_old hm) (kd_nO (k := 0) hq_2 hm hk)
  have hm_24 : q_1 ∈ hL S_19 := hf_21.mem mem_new
  have hk_25 : Kd S_19 q_1 0 := hf_21.kd mem_new (kd_nO' (k := 0))
  have hv_26 : hI S_19 2 q_1 = 0 := hf_21.fi mem_new (fun h9 => h9) (rd_nOI' (k := 0))
  have hv_27 : hI S_19 3 q_1 = 0 := hf_21.fi mem_new (fun h9 => h9) (rd_nOI' (k := 0))
  have hv_28 : hI S_19 4 q_1 = 0 := hf_21.fi mem_new (fun h9 => h9) (rd_nOI' (k := 0))
  have hv_29 : hI S_19 5 q_1 = 0 := hf_21.fi mem_new (fun h9 => h9) (rd_nOI' (k := 0))
  have hf_30 : Fm (fun _ _ => False) (fun f9 b9 => b9 = h) (fun _ => False) S S_19 := hf_4.then hf_21 (fun a9 ha9 => ⟨(fun f9 h9 => h9.elim), (fun f9 h9 => (fun h8 => absurd (h8 ▸ ha9) hz_3) h9), (fun h9 => h9.elim)⟩)
  have hN_31 : NL S ([] ++ [q_1]) S_19 := NL.mono (show NL S ([] ++ [q_1]) (nO S q_1 0) from NL.nO (NL.nil : NL S [] S) hq_2 hz_3) (fun a9 h9 => hf_21.mem h9)
  have hz_32 : q_5 ∉ hL S := fun h9 => e_7 (hf_4.mem h9)
  have hz_33 : q_6 ∉ hL S := fun h9 => e_12 (hf_4.mem h9)
  have hN_34 : NL S (([] ++ [q_1]) ++ [q_5, q_6]) S_19 := NL.app (show NL S ([] ++ [q_1]) (nO S q_1 0) from NL.nO (NL.nil : NL S [] S) hq_2 hz_3) hNl_17 (fun a9 h9 => hf_21.mem h9) (fun a9 h9 => hf_4.mem h9)
  obtain ⟨L_35, eL_36⟩ : ∃ L9 : List Nat, L9 = (([] ++ [q_1]) ++ [q_5, q_6]) := ⟨_, rfl⟩
  rw [← eL_36] at hN_34
  have hGt_37 : Gt 3 [q_1, q_5, q_6] S_19 := ⟨fun i9 k9 h9 => (match i9, h9 with | 0, h9 => (by have e9 : (0 : Nat) = k9 := Option.some.inj h9; subst e9; exact ⟨hm_24, hk_25⟩) | 1, h9 => (by have e9 : (14 : Nat) = k9 := Option.some.inj h9; subst e9; exact ⟨e_8, e_9⟩) | 2, h9 => (by have e9 : (14 : Nat) = k9 := Option.some.inj h9; subst e9; exact ⟨e_13, e_14⟩) | i9 + 3, h9 => absurd h9 (by simp [gT])), (List.forall_mem_cons.mpr ⟨e_10, (List.forall_mem_cons.mpr ⟨e_15, (fun _ h9 => absurd h9 List.not_mem_nil)⟩)⟩), (List.forall_mem_cons.mpr ⟨e_11, (List.forall_mem_cons.mpr ⟨e_16, (fun _ h9 => absurd h9 List.not_mem_nil)⟩)⟩), (fun _ h9 => absurd h9 List.not_mem_nil)⟩
  have hG_38 : Gs h ([] ++ [(3, [q_1, q_5, q_6])]) S_19 := Gs.snoc (Gs.nil : Gs h [] S_19) (by decide) hGt_37 (List.forall_mem_cons.mpr ⟨(own_ne hz_3 hm), (List.forall_mem_cons.mpr ⟨(own_ne hz_3 hm), (fun _ h9 => absurd h9 List.not_mem_nil)⟩)⟩)
  obtain ⟨gs_39, eG_40⟩ : ∃ G9 : List (Nat × List Nat), G9 = [] ++ [(3, [q_1, q_5, q_6])] := ⟨_, rfl⟩
  rw [← eG_40] at hG_38
  refine j_putrF (f := 901) C hm9 flX9_12o (by decide) rfl rfl dX9_init_12 hm_22 hk_23 rfl ?_
  refine j_aload_n C dX9_init_15 rfl 0 rfl ?_
  show J _ _ _ _ _ 16 _
  have hf_43 : Fm (fun _ _ => False) (fun f9 b9 => b9 = h) (fun _ => False) S (sR S_19 901 h (some q_1)) := (hf_30.sR _ (fun _ => rfl))
  refine j_new (N := 10) C (ci := 2) rfl rfl klX9_18 knX2 kiX2 (M.cells (by decide)) (M.slots (by decide)) dX9_init_16 (fun q_41 hq_42 => ?_)
  have hz_44 : q_41 ∉ hL S := fun h9 => hq_42 (hf_43.mem h9)
  have gn_45 : ∀ g9 ∈ gs_39, ∀ p9 ∈ (gT g9.1).2.2, g9.2.getD p9.2.1 0 ≠ q_41 := Gs.ne (Gs.sR (S := S_19) hG_38) hq_42
  refine j_dup C dX9_init_19 rfl ?_
  have hf_46 : Fm (fun _ _ => False) (fun f9 b9 => b9 = h) (fun _ => False) S (nO (sR S_19 901 h (some q_1)) q_41 2) := (hf_43.nO _ hq_42)
  refine j_callI C [] [.ref q_41, .ref h] mlX9_20 mcX2_init (c_X2_init (nO (sR S_19 901 h (some q_1)) q_41 2) q_41 mem_new (kd_nO' (k := 2))) (M.rm (by decide) (by decide) (Nat.le_of_ble_eq_true rfl) (Nat.le_of_ble_eq_true rfl)) rfl rfl (Nat.le_of_ble_eq_true rfl) dX9_init_20 (fun r_97 S_98 hp_99 => ?_)
  obtain ⟨rfl, hf_100, q_47, q_48, q_49, q_50, q_51, q_52, q_53, q_54, e_55, e_56, e_57, e_58, e_59, e_60, e_61, e_62, e_63, e_64, e_65, e_66, e_67, e_68, e_69, e_70, e_71, e_72, e_73, e_74, e_75, e_76, e_77, e_78, e_79, e_80, e_81, e_82, e_83, e_84, e_85, e_86, e_87, e_88, e_89, e_90, e_91, e_92, e_93, e_94, e_95, hNl_96⟩ := hp_99
  refine J.eq (st' := [.ref q_41, .ref h]) rfl rfl rfl ?_
  have hm_101 : h ∈ hL S_98 := hf_100.mem (mem_old hm_22)
  have hk_102 : Kd S_98 h 9 := hf_100.kd (mem_old hm_22) (kd_nO (k := 2) hq_42 hm_22 hk_23)
  have hm_103 : q_41 ∈ hL S_98 := hf_100.mem mem_new
  have hk_104 : Kd S_98 q_41 2 := hf_100.kd mem_new (kd_nO' (k := 2))
  have hv_105 : hI S_98 206 q_41 = 0 := hf_100.fi mem_new (fun h9 => h9) (rd_nOI' (k := 2))
  have hv_106 : hI S_98 209 q_41 = 0 := hf_100.fi mem_new (fun h9 => h9) (rd_nOI' (k := 2))
  have hv_107 : hR S_98 901 h = (some q_1) := hf_100.fr (mem_old hm_22) (fun q9 => (fun e9 => absurd (((kd_nO (k := 2) hq_42 hm_22 hk_23)).symm.trans ((congrArg (hK _) e9).trans (kd_nO' (k := 2)))) (by decide)) q9) (rd_nOR (k := 2) hq_42 hm_22 (rd_sR (S := S_19) (g := 901) (a := h) (v := (some q_1))))
  have hf_108 : Fm (fun _ _ => False) (fun f9 b9 => b9 = h) (fun _ => False) S S_98 := hf_46.then hf_100 (fun a9 ha9 => ⟨(fun f9 h9 => h9.elim), (fun f9 h9 => (fun h8 => absurd (h8 ▸ ha9) hz_44) h9), (fun h9 => h9.elim)⟩)
  have hN_109 : NL S (L_35 ++ [q_41]) S_98 := NL.mono (show NL S (L_35 ++ [q_41]) (nO (sR S_19 901 h (some q_1)) q_41 2) from NL.nO (NL.sR (S := S_19) hN_34) hq_42 hz_44) (fun a9 h9 => hf_100.mem h9)
  have hG_110 : Gs h gs_39 S_98 := Gs.fm (show Gs h gs_39 (nO (sR S_19 901 h (some q_1)) q_41 2) from Gs.nO (Gs.sR (S := S_19) hG_38) hq_42) hf_100 (fun g9 hg9 p9 hp9 => gn_45 g9 hg9 p9 hp9)
  have hz_111 : q_47 ∉ hL S := fun h9 => e_55 (hf_46.mem h9)
  have hz_112 : q_48 ∉ hL S := fun h9 => e_59 (hf_46.mem h9)
  have hz_113 : q_49 ∉ hL S := fun h9 => e_65 (hf_46.mem h9)
  have hz_114 : q_50 ∉ hL S := fun h9 => e_70 (hf_46.mem h9)
  have hz_115 : q_51 ∉ hL S := fun h9 => e_75 (hf_46.mem h9)
  have hz_116 : q_52 ∉ hL S := fun h9 => e_81 (hf_46.mem h9)
  have hz_117 : q_53 ∉ hL S := fun h9 => e_86 (hf_46.mem h9)
  have hz_118 : q_54 ∉ hL S := fun h9 => e_91 (hf_46.mem h9)
  have hN_119 : NL S ((L_35 ++ [q_41]) ++ [q_47, q_48, q_49, q_50, q_51, q_52, q_53, q_54]) S_98 := NL.app (show NL S (L_35 ++ [q_41]) (nO (sR S_19 901 h (some q_1)) q_41 2) from NL.nO (NL.sR (S := S_19) hN_34) hq_42 hz_44) hNl_96 (fun a9 h9 => hf_100.mem h9) (fun a9 h9 => hf_46.mem h9)
  obtain ⟨L_120, eL_121⟩ : ∃ L9 : List Nat, L9 = ((L_35 ++ [q_41]) ++ [q_47, q_48, q_49, q_50, q_51, q_52, q_53, q_54]) := ⟨_, rfl⟩
  rw [← eL_121] at hN_119
  have hGt_122 : Gt 4 [q_41, q_47, q_48, q_49, q_50, q_51, q_52, q_53, q_54] S_98 := ⟨fun i9 k9 h9 => (match i9, h9 with | 0, h9 => (by have e9 : (2 : Nat) = k9 := Option.some.inj h9; subst e9; exact ⟨hm_103, hk_104⟩) | 1, h9 => (by have e9 : (8 : Nat) = k9 := Option.some.inj h9; subst e9; exact ⟨e_56, e_57⟩) | 2, h9 => (by have e9 : (14 : Nat) = k9 := Option.some.inj h9; subst e9; exact ⟨e_60, e_61⟩) | 3, h9 => (by have e9 : (14 : Nat) = k9 := Option.some.inj h9; subst e9; exact ⟨e_66, e_67⟩) | 4, h9 => (by have e9 : (14 : Nat) = k9 := Option.some.inj h9; subst e9; exact ⟨e_71, e_72⟩) | 5, h9 => (by have e9 : (17 : Nat) = k9 := Option.some.inj h9; subst e9; exact ⟨e_76, e_77⟩) | 6, h9 => (by have e9 : (14 : Nat) = k9 := Option.some.inj h9; subst e9; exact ⟨e_82, e_83⟩) | 7, h9 => (by have e9 : (14 : Nat) = k9 := Option.some.inj h9; subst e9; exact ⟨e_87, e_88⟩) | 8, h9 => (by have e9 : (14 : Nat) = k9 := Option.some.inj h9; subst e9; exact ⟨e_92, e_93⟩) | i9 + 9, h9 => absurd h9 (by simp [gT])), (List.forall_mem_cons.mpr ⟨e_62, (List.forall_mem_cons.mpr ⟨e_68, (List.forall_mem_cons.mpr ⟨e_73, (List.forall_mem_cons.mpr ⟨e_78, (List.forall_mem_cons.mpr ⟨e_84, (List.forall_mem_cons.mpr ⟨e_89, (List.forall_mem_cons.mpr ⟨e_94, (fun _ h9 => absurd h9 List.not_mem_nil)⟩)⟩)⟩)⟩)⟩)⟩)⟩), (List.forall_mem_cons.mpr ⟨e_58, (List.forall_mem_cons.mpr ⟨e_63, (List.forall_mem_cons.mpr ⟨e_69, (List.forall_mem_cons.mpr ⟨e_74, (List.forall_mem_cons.mpr ⟨e_79, (List.forall_mem_cons.mpr ⟨e_85, (List.forall_mem_cons.mpr ⟨e_90, (List.forall_mem_cons.mpr ⟨e_95, (fun _ h9 => absurd h9 List.not_mem_nil)⟩)⟩)⟩)⟩)⟩)⟩)⟩)⟩), (List.forall_mem_cons.mpr ⟨e_64, (List.forall_mem_cons.mpr ⟨e_80, (fun _ h9 => absurd h9 List.not_mem_nil)⟩)⟩)⟩
  have hG_123 : Gs h (gs_39 ++ [(4, [q_41, q_47, q_48, q_49, q_50, q_51, q_52, q_53, q_54])]) S_98 := Gs.snoc hG_110 (by decide) hGt_122 (List.forall_mem_cons.mpr ⟨(own_ne hz_44 hm), (List.forall_mem_cons.mpr ⟨(own_ne hz_111 hm), (List.forall_mem_cons.mpr ⟨(own_ne hz_44 hm), (List.forall_mem_cons.mpr ⟨(own_ne hz_44 hm), (List.forall_mem_cons.mpr ⟨(own_ne hz_44 hm), (List.forall_mem_cons.mpr ⟨(own_ne hz_44 hm), (List.forall_mem_cons.mpr ⟨(own_ne hz_44 hm), (List.forall_mem_cons.mpr ⟨(own_ne hz_44 hm), (fun _ h9 => absurd h9 List.not_mem_nil)⟩)⟩)⟩)⟩)⟩)⟩)⟩)⟩)
  obtain ⟨gs_124, eG_125⟩ : ∃ G9 : List (Nat × List Nat), G9 = gs_39 ++ [(4, [q_41, q_47, q_48, q_49, q_50, q_51, q_52, q_53, q_54])] := ⟨_, rfl⟩
  rw [← eG_125] at hG_123
  refine j_putrF (f := 902) C hm9 flX9_21o (by decide) rfl rfl dX9_init_23 hm_101 hk_102 rfl ?_
  refine j_aload_n C dX9_init_26 rfl 0 rfl ?_
  have hf_128 : Fm (fun _ _ => False) (fun f9 b9 => b9 = h) (fun _ => False) S (sR S_98 902 h (some q_41)) := (hf_108.sR _ (fun _ => rfl))
  refine j_new (N := 1) C (ci := 8) rfl rfl klX9_25 knX8 kiX8 (M.cells (by decide)) (M.slots (by decide)) dX9_init_27 (fun q_126 hq_127 => ?_)
  have hz_129 : q_126 ∉ hL S := fun h9 => hq_127 (hf_128.mem h9)
  have gn_130 : ∀ g9 ∈ gs_124, ∀ p9 ∈ (gT g9.1).2.2, g9.2.getD p9.2.1 0 ≠ q_126 := Gs.ne (Gs.sR (S := S_98) hG_123) hq_127
  refine j_dup C dX9_init_30 rfl ?_
  have hf_131 : Fm (fun _ _ => False) (fun f9 b9 => b9 = h) (fun _ => False) S (nO (sR S_98 902 h (some q_41)) q_126 8) := (hf_128.nO _ hq_127)
  refine j_callI C [] [.ref q_126, .ref h] mlX9_27 mcX8_init (c_X8_init (nO (sR S_98 902 h (some q_41)) q_126 8) q_126 mem_new (kd_nO' (k := 8))) (M.rm (by decide) (by decide) (Nat.le_of_ble_eq_true rfl) (Nat.le_of_ble_eq_true rfl)) rfl rfl (Nat.le_of_ble_eq_true rfl) dX9_init_31 (fun r_140 S_141 hp_142 => ?_)
  obtain ⟨rfl, hf_143, q_132, e_133, e_134, e_135, e_136, e_137, e_138, hNl_139⟩ := hp_142
  refine J.eq (st' := [.ref q_126, .ref h]) rfl rfl rfl ?_
  have hm_144 : h ∈ hL S_141 := hf_143.mem (mem_old hm_101)
  have hk_145 : Kd S_141 h 9 := hf_143.kd (mem_old hm_101) (kd_nO (k := 8) hq_127 hm_101 hk_102)
  have hm_146 : q_126 ∈ hL S_141 := hf_143.mem mem_new
  have hk_147 : Kd S_141 q_126 8 := hf_143.kd mem_new (kd_nO' (k := 8))
  have hv_148 : hR S_141 901 h = (some q_1) := hf_143.fr (mem_old hm_101) (fun q9 => (fun e9 => absurd (((kd_nO (k := 8) hq_127 hm_101 hk_102)).symm.trans ((congrArg (hK _) e9).trans (kd_nO' (k := 8)))) (by decide)) q9) (rd_nOR (k := 8) hq_127 hm_101 (rd_sRf (S := S_98) (g := 902) (a := h) (v := (some q_41)) (by decide) hv_107))
  have hv_149 : hR S_141 902 h = (some q_41) := hf_143.fr (mem_old hm_101) (fun q9 => (fun e9 => absurd (((kd_nO (k := 8) hq_127 hm_101 hk_102)).symm.trans ((congrArg (hK _) e9).trans (kd_nO' (k := 8)))) (by decide)) q9) (rd_nOR (k := 8) hq_127 hm_101 (rd_sR (S := S_98) (g := 902) (a := h) (v := (some q_41))))
  have hf_150 : Fm (fun _ _ => False) (fun f9 b9 => b9 = h) (fun _ => False) S S_141 := hf_131.then hf_143 (fun a9 ha9 => ⟨(fun f9 h9 => h9.elim), (fun f9 h9 => (fun h8 => absurd (h8 ▸ ha9) hz_129) h9), (fun h9 => h9.elim)⟩)
  have hN_151 : NL S (L_120 ++ [q_126]) S_141 := NL.mono (show NL S (L_120 ++ [q_126]) (nO (sR S_98 902 h (some q_41)) q_126 8) from NL.nO (NL.sR (S := S_98) hN_119) hq_127 hz_129) (fun a9 h9 => hf_143.mem h9)
  have hG_152 : Gs h gs_124 S_141 := Gs.fm (show Gs h gs_124 (nO (sR S_98 902 h (some q_41)) q_126 8) from Gs.nO (Gs.sR (S := S_98) hG_123) hq_127) hf_143 (fun g9 hg9 p9 hp9 => gn_130 g9 hg9 p9 hp9)
  have hz_153 : q_132 ∉ hL S := fun h9 => e_133 (hf_131.mem h9)
  have hN_154 : NL S ((L_120 ++ [q_126]) ++ [q_132]) S_141 := NL.app (show NL S (L_120 ++ [q_126]) (nO (sR S_98 902 h (some q_41)) q_126 8) from NL.nO (NL.sR (S := S_98) hN_119) hq_127 hz_129) hNl_139 (fun a9 h9 => hf_143.mem h9) (fun a9 h9 => hf_131.mem h9)
  obtain ⟨L_155, eL_156⟩ : ∃ L9 : List Nat, L9 = ((L_120 ++ [q_126]) ++ [q_132]) := ⟨_, rfl⟩
  rw [← eL_156] at hN_154
  have hGt_157 : Gt 0 [q_126, q_132] S_141 := ⟨fun i9 k9 h9 => (match i9, h9 with | 0, h9 => (by have e9 : (8 : Nat) = k9 := Option.some.inj h9; subst e9; exact ⟨hm_146, hk_147⟩) | 1, h9 => (by have e9 : (14 : Nat) = k9 := Option.some.inj h9; subst e9; exact ⟨e_134, e_135⟩) | i9 + 2, h9 => absurd h9 (by simp [gT])), (List.forall_mem_cons.mpr ⟨e_136, (fun _ h9 => absurd h9 List.not_mem_nil)⟩), (List.forall_mem_cons.mpr ⟨e_137, (fun _ h9 => absurd h9 List.not_mem_nil)⟩), (List.forall_mem_cons.mpr ⟨e_138, (fun _ h9 => absurd h9 List.not_mem_nil)⟩)⟩
  have hG_158 : Gs h (gs_124 ++ [(0, [q_126, q_132])]) S_141 := Gs.snoc hG_152 (by decide) hGt_157 (List.forall_mem_cons.mpr ⟨(own_ne hz_129 hm), (fun _ h9 => absurd h9 List.not_mem_nil)⟩)
  obtain ⟨gs_159, eG_160⟩ : ∃ G9 : List (Nat × List Nat), G9 = gs_124 ++ [(0, [q_126, q_132])] := ⟨_, rfl⟩
  rw [← eG_160] at hG_158
  show J _ _ _ _ _ 34 _
  refine j_putrF (f := 903) C hm9 flX9_28o (by decide) rfl rfl dX9_init_34 hm_144 hk_145 rfl ?_
  refine j_aload_n C dX9_init_37 rfl 0 rfl ?_
  refine j_bipush (v := 16) C dX9_init_38 (by decide) ?_
  have hf_163 : Fm (fun _ _ => False) (fun f9 b9 => b9 = h) (fun _ => False) S (sR S_141 903 h (some q_126)) := (hf_150.sR _ (fun _ => rfl))
  refine j_newQ (N := 16) C 20 (by decide) rfl klX9_32 (gx_Tile C) (by decide) (by decide) (by decide) (M.cells (by decide)) (M.slots (by decide)) dX9_init_40 (fun q_161 hq_162 => ?_)
  have hz_164 : q_161 ∉ hL S := fun h9 => hq_162 (hf_163.mem h9)
  refine j_putrF (f := 904) C hm9 flX9_34o (by decide) rfl rfl dX9_init_43 (mem_old hm_144) (kd_nA (k := 20) (n := 16) hq_162 hm_144 hk_145) rfl ?_
  refine j_aload_n C dX9_init_46 rfl 0 rfl ?_
  have hf_167 : Fm (fun _ _ => False) (fun f9 b9 => b9 = h) (fun _ => False) S (sR (nA (sR S_141 903 h (some q_126)) q_161 20 16) 904 h (some q_161)) := ((hf_163.nA _ _ hq_162).sR _ (fun _ => rfl))
  obtain ⟨S_165, eS_166⟩ : ∃ S9 : Hp, S9 = (sR (nA (sR S_141 903 h (some q_126)) q_161 20 16) 904 h (some q_161)) := ⟨_, rfl⟩
  refine J.eq (S' := S_165) eS_166.symm rfl rfl ?_
  have hm_168 : h ∈ hL S_165 := by rw [eS_166]; exact (mem_old hm_144)
  have hk_169 : Kd S_165 h 9 := by rw [eS_166]; exact (kd_nA (k := 20) (n := 16) hq_162 hm_144 hk_145)
  have hm_170 : q_161 ∈ hL S_165 := by rw [eS_166]; exact mem_new
  have hk_171 : Kd S_165 q_161 20 := by rw [eS_166]; exact (kd_nA' (k := 20) (n := 16))
  have hn_172 : Ln S_165 q_161 16 := by rw [eS_166]; exact (ln_nA' (k := 20))
  have hz_173 : ∀ j, aI S_165 q_161 j = 0 := by rw [eS_166]; exact (fun j9 => rd_nAI' (k := 20) (n := 16))
  have hv_174 : hR S_165 901 h = (some q_1) := by rw [eS_166]; exact (rd_sRf (S := (nA (sR S_141 903 h (some q_126)) q_161 20 16)) (g := 904) (a := h) (v := (some q_161)) (by decide) (rd_sRf (S := S_141) (g := 903) (a := h) (v := (some q_126)) (by decide) hv_148))
  have hv_175 : hR S_165 902 h = (some q_41) := by rw [eS_166]; exact (rd_sRf (S := (nA (sR S_141 903 h (some q_126)) q_161 20 16)) (g := 904) (a := h) (v := (some q_161)) (by decide) (rd_sRf (S := S_141) (g := 903) (a := h) (v := (some q_126)) (by decide) hv_149))
  have hv_176 : hR S_165 903 h = (some q_126) := by rw [eS_166]; exact (rd_sRf (S := (nA (sR S_141 903 h (some q_126)) q_161 20 16)) (g := 904) (a := h) (v := (some q_161)) (by decide) (rd_sR (S := S_141) (g := 903) (a := h) (v := (some q_126))))
  have hv_177 : hR S_165 904 h = (some q_161) := by rw [eS_166]; exact (rd_sR (S := (nA (sR S_141 903 h (some q_126)) q_161 20 16)) (g := 904) (a := h) (v := (some q_161)))
  have hf_178 : Fm (fun _ _ => False) (fun f9 b9 => b9 = h) (fun _ => False) S S_165 := by rw [eS_166]; exact hf_167
  have hN_179 : NL S (L_155 ++ [q_161]) S_165 := by rw [eS_166]; exact (NL.sR (S := (nA (sR S_141 903 h (some q_126)) q_161 20 16)) (show NL S (L_155 ++ [q_161]) (nA (sR S_141 903 h (some q_126)) q_161 20 16) from NL.nA (NL.sR (S := S_141) hN_154) hq_162 hz_164))
  obtain ⟨L_180, eL_181⟩ : ∃ L9 : List Nat, L9 = (L_155 ++ [q_161]) := ⟨_, rfl⟩
  rw [← eL_181] at hN_179
  have hG_182 : Gs h gs_159 S_165 := by rw [eS_166]; exact (Gs.sR (S := (nA (sR S_141 903 h (some q_126)) q_161 20 16)) (show Gs h gs_159 (nA (sR S_141 903 h (some q_126)) q_161 20 16) from Gs.nA (Gs.sR (S := S_141) hG_158) hq_162))
  refine j_new (N := 4) C (ci := 10) rfl rfl klX9_32 knX10 kiX10 (M.cells (by decide)) (M.slots (by decide)) dX9_init_47 (fun q_183 hq_184 => ?_)
  have hz_185 : q_183 ∉ hL S := fun h9 => hq_184 (hf_178.mem h9)
  have gn_186 : ∀ g9 ∈ gs_159, ∀ p9 ∈ (gT g9.1).2.2, g9.2.getD p9.2.1 0 ≠ q_183 := Gs.ne hG_182 hq_184
  refine j_dup C dX9_init_50 rfl ?_
  show J _ _ _ _ _ 51 _
  have hf_187 : Fm (fun _ _ => False) (fun f9 b9 => b9 = h) (fun _ => False) S (nO S_165 q_183 10) := (hf_178.nO _ hq_184)
  refine j_callI C [] [.ref q_183, .ref h] mlX9_38 mcX10_init (c_X10_init (nO S_165 q_183 10) q_183 mem_new (kd_nO' (k := 10))) (M.rm (by decide) (by decide) (Nat.le_of_ble_eq_true rfl) (Nat.le_of_ble_eq_true rfl)) rfl rfl (Nat.le_of_ble_eq_true rfl) dX9_init_51 (fun r_197 S_198 hp_199 => ?_)
  obtain ⟨rfl, hf_200, e_189, e_190, q_188, e_191, e_192, e_193, e_194, e_195, hNl_196⟩ := hp_199
  refine J.eq (st' := [.ref q_183, .ref h]) rfl rfl rfl ?_
  have hz_201 : ∀ j, aI S_198 q_161 j = 0 := fun j9 => (hf_200.ai (mem_old hm_170) (fun h9 => h9) j9).trans (hz_173 j9)
  have hm_202 : h ∈ hL S_198 := hf_200.mem (mem_old hm_168)
  have hk_203 : Kd S_198 h 9 := hf_200.kd (mem_old hm_168) (kd_nO (k := 10) hq_184 hm_168 hk_169)
  have hm_204 : q_161 ∈ hL S_198 := hf_200.mem (mem_old hm_170)
  have hk_205 : Kd S_198 q_161 20 := hf_200.kd (mem_old hm_170) (kd_nO (k := 10) hq_184 hm_170 hk_171)
  have hn_206 : Ln S_198 q_161 16 := hf_200.ln (mem_old hm_170) hn_172
  have hm_207 : q_183 ∈ hL S_198 := hf_200.mem mem_new
  have hk_208 : Kd S_198 q_183 10 := hf_200.kd mem_new (kd_nO' (k := 10))
  have hv_209 : hR S_198 901 h = (some q_1) := hf_200.fr (mem_old hm_168) (fun q9 => (fun e9 => absurd (((kd_nO (k := 10) hq_184 hm_168 hk_169)).symm.trans ((congrArg (hK _) e9).trans (kd_nO' (k := 10)))) (by decide)) q9) (rd_nOR (k := 10) hq_184 hm_168 hv_174)
  have hv_210 : hR S_198 902 h = (some q_41) := hf_200.fr (mem_old hm_168) (fun q9 => (fun e9 => absurd (((kd_nO (k := 10) hq_184 hm_168 hk_169)).symm.trans ((congrArg (hK _) e9).trans (kd_nO' (k := 10)))) (by decide)) q9) (rd_nOR (k := 10) hq_184 hm_168 hv_175)
  have hv_211 : hR S_198 903 h = (some q_126) := hf_200.fr (mem_old hm_168) (fun q9 => (fun e9 => absurd (((kd_nO (k := 10) hq_184 hm_168 hk_169)).symm.trans ((congrArg (hK _) e9).trans (kd_nO' (k := 10)))) (by decide)) q9) (rd_nOR (k := 10) hq_184 hm_168 hv_176)
  have hv_212 : hR S_198 904 h = (some q_161) := hf_200.fr (mem_old hm_168) (fun q9 => (fun e9 => absurd (((kd_nO (k := 10) hq_184 hm_168 hk_169)).symm.trans ((congrArg (hK _) e9).trans (kd_nO' (k := 10)))) (by decide)) q9) (rd_nOR (k := 10) hq_184 hm_168 hv_177)
  have hf_213 : Fm (fun _ _ => False) (fun f9 b9 => b9 = h) (fun _ => False) S S_198 := hf_187.then hf_200 (fun a9 ha9 => ⟨(fun f9 h9 => (fun h9 => h9.elim (fun h8 => absurd (h8.2 ▸ ha9) hz_185) (fun h8 => absurd (h8.2 ▸ ha9) hz_185)) h9), (fun f9 h9 => (fun h8 => absurd (h8 ▸ ha9) hz_185) h9), (fun h9 => h9.elim)⟩)
  have hN_214 : NL S (L_180 ++ [q_183]) S_198 := NL.mono (show NL S (L_180 ++ [q_183]) (nO S_165 q_183 10) from NL.nO hN_179 hq_184 hz_185) (fun a9 h9 => hf_200.mem h9)
  have hG_215 : Gs h gs_159 S_198 := Gs.fm (show Gs h gs_159 (nO S_165 q_183 10) from Gs.nO hG_182 hq_184) hf_200 (fun g9 hg9 p9 hp9 => gn_186 g9 hg9 p9 hp9)
  have hz_216 : q_188 ∉ hL S := fun h9 => e_191 (hf_187.mem h9)
  have hN_217 : NL S ((L_180 ++ [q_183]) ++ [q_188]) S_198 := NL.app (show NL S (L_180 ++ [q_183]) (nO S_165 q_183 10) from NL.nO hN_179 hq_184 hz_185) hNl_196 (fun a9 h9 => hf_200.mem h9) (fun a9 h9 => hf_187.mem h9)
  obtain ⟨L_218, eL_219⟩ : ∃ L9 : List Nat, L9 = ((L_180 ++ [q_183]) ++ [q_188]) := ⟨_, rfl⟩
  rw [← eL_219] at hN_217
  have hGt_220 : Gt 1 [q_183, q_188] S_198 := ⟨fun i9 k9 h9 => (match i9, h9 with | 0, h9 => (by have e9 : (10 : Nat) = k9 := Option.some.inj h9; subst e9; exact ⟨hm_207, hk_208⟩) | 1, h9 => (by have e9 : (15 : Nat) = k9 := Option.some.inj h9; subst e9; exact ⟨e_192, e_193⟩) | i9 + 2, h9 => absurd h9 (by simp [gT])), (List.forall_mem_cons.mpr ⟨e_194, (fun _ h9 => absurd h9 List.not_mem_nil)⟩), (List.forall_mem_cons.mpr ⟨e_195, (fun _ h9 => absurd h9 List.not_mem_nil)⟩), (fun _ h9 => absurd h9 List.not_mem_nil)⟩
  have hG_221 : Gs h (gs_159 ++ [(1, [q_183, q_188])]) S_198 := Gs.snoc hG_215 (by decide) hGt_220 (List.forall_mem_cons.mpr ⟨(own_ne hz_185 hm), (fun _ h9 => absurd h9 List.not_mem_nil)⟩)
  obtain ⟨gs_222, eG_223⟩ : ∃ G9 : List (Nat × List Nat), G9 = gs_159 ++ [(1, [q_183, q_188])] := ⟨_, rfl⟩
  rw [← eG_223] at hG_221
  refine j_putrF (f := 905) C hm9 flX9_39o (by decide) rfl rfl dX9_init_54 hm_202 hk_203 rfl ?_
  refine j_aload_n C dX9_init_57 rfl 0 rfl ?_
  have hf_226 : Fm (fun _ _ => False) (fun f9 b9 => b9 = h) (fun _ => False) S (sR S_198 905 h (some q_183)) := (hf_213.sR _ (fun _ => rfl))
  refine j_new (N := 1) C (ci := 8) rfl rfl klX9_25 knX8 kiX8 (M.cells (by decide)) (M.slots (by decide)) dX9_init_58 (fun q_224 hq_225 => ?_)
  have hz_227 : q_224 ∉ hL S := fun h9 => hq_225 (hf_226.mem h9)
  have gn_228 : ∀ g9 ∈ gs_222, ∀ p9 ∈ (gT g9.1).2.2, g9.2.getD p9.2.1 0 ≠ q_224 := Gs.ne (Gs.sR (S := S_198) hG_221) hq_225
  refine j_dup C dX9_init_61 rfl ?_
  have hf_229 : Fm (fun _ _ => False) (fun f9 b9 => b9 = h) (fun _ => False) S (nO (sR S_198 905 h (some q_183)) q_224 8) := (hf_226.nO _ hq_225)
  refine j_callI C [] [.ref q_224, .ref h] mlX9_27 mcX8_init (c_X8_init (nO (sR S_198 905 h (some q_183)) q_224 8) q_224 mem_new (kd_nO' (k := 8))) (M.rm (by decide) (by decide) (Nat.le_of_ble_eq_true rfl) (Nat.le_of_ble_eq_true rfl)) rfl rfl (Nat.le_of_ble_eq_true rfl) dX9_init_62 (fun r_238 S_239 hp_240 => ?_)
  obtain ⟨rfl, hf_241, q_230, e_231, e_232, e_233, e_234, e_235, e_236, hNl_237⟩ := hp_240
  refine J.eq (st' := [.ref q_224, .ref h]) rfl rfl rfl ?_
  have hz_242 : ∀ j, aI S_239 q_161 j = 0 := fun j9 => (hf_241.ai (mem_old hm_204) (fun h9 => h9) j9).trans (hz_201 j9)
  have hm_243 : h ∈ hL S_239 := hf_241.mem (mem_old hm_202)
  have hk_244 : Kd S_239 h 9 := hf_241.kd (mem_old hm_202) (kd_nO (k := 8) hq_225 hm_202 hk_203)
  have hm_245 : q_161 ∈ hL S_239 := hf_241.mem (mem_old hm_204)
  have hk_246 : Kd S_239 q_161 20 := hf_241.kd (mem_old hm_204) (kd_nO (k := 8) hq_225 hm_204 hk_205)
  have hn_247 : Ln S_239 q_161 16 := hf_241.ln (mem_old hm_204) hn_206
  have hm_248 : q_224 ∈ hL S_239 := hf_241.mem mem_new
  have hk_249 : Kd S_239 q_224 8 := hf_241.kd mem_new (kd_nO' (k := 8))
  have hv_250 : hR S_239 901 h = (some q_1) := hf_241.fr (mem_old hm_202) (fun q9 => (fun e9 => absurd (((kd_nO (k := 8) hq_225 hm_202 hk_203)).symm.trans ((congrArg (hK _) e9).trans (kd_nO' (k := 8)))) (by decide)) q9) (rd_nOR (k := 8) hq_225 hm_202 (rd_sRf (S := S_198) (g := 905) (a := h) (v := (some q_183)) (by decide) hv_209))
  have hv_251 : hR S_239 902 h = (some q_41) := hf_241.fr (mem_old hm_202) (fun q9 => (fun e9 => absurd (((kd_nO (k := 8) hq_225 hm_202 hk_203)).symm.trans ((congrArg (hK _) e9).trans (kd_nO' (k := 8)))) (by decide)) q9) (rd_nOR (k := 8) hq_225 hm_202 (rd_sRf (S := S_198) (g := 905) (a := h) (v := (some q_183)) (by decide) hv_210))
  have hv_252 : hR S_239 903 h = (some q_126) := hf_241.fr (mem_old hm_202) (fun q9 => (fun e9 => absurd (((kd_nO (k := 8) hq_225 hm_202 hk_203)).symm.trans ((congrArg (hK _) e9).trans (kd_nO' (k := 8)))) (by decide)) q9) (rd_nOR (k := 8) hq_225 hm_202 (rd_sRf (S := S_198) (g := 905) (a := h) (v := (some q_183)) (by decide) hv_211))
  have hv_253 : hR S_239 904 h = (some q_161) := hf_241.fr (mem_old hm_202) (fun q9 => (fun e9 => absurd (((kd_nO (k := 8) hq_225 hm_202 hk_203)).symm.trans ((congrArg (hK _) e9).trans (kd_nO' (k := 8)))) (by decide)) q9) (rd_nOR (k := 8) hq_225 hm_202 (rd_sRf (S := S_198) (g := 905) (a := h) (v := (some q_183)) (by decide) hv_212))
  have hv_254 : hR S_239 905 h = (some q_183) := hf_241.fr (mem_old hm_202) (fun q9 => (fun e9 => absurd (((kd_nO (k := 8) hq_225 hm_202 hk_203)).symm.trans ((congrArg (hK _) e9).trans (kd_nO' (k := 8)))) (by decide)) q9) (rd_nOR (k := 8) hq_225 hm_202 (rd_sR (S := S_198) (g := 905) (a := h) (v := (some q_183))))
  have hf_255 : Fm (fun _ _ => False) (fun f9 b9 => b9 = h) (fun _ => False) S S_239 := hf_229.then hf_241 (fun a9 ha9 => ⟨(fun f9 h9 => h9.elim), (fun f9 h9 => (fun h8 => absurd (h8 ▸ ha9) hz_227) h9), (fun h9 => h9.elim)⟩)
  have hN_256 : NL S (L_218 ++ [q_224]) S_239 := NL.mono (show NL S (L_218 ++ [q_224]) (nO (sR S_198 905 h (some q_183)) q_224 8) from NL.nO (NL.sR (S := S_198) hN_217) hq_225 hz_227) (fun a9 h9 => hf_241.mem h9)
  have hG_257 : Gs h gs_222 S_239 := Gs.fm (show Gs h gs_222 (nO (sR S_198 905 h (some q_183)) q_224 8) from Gs.nO (Gs.sR (S := S_198) hG_221) hq_225) hf_241 (fun g9 hg9 p9 hp9 => gn_228 g9 hg9 p9 hp9)
  have hz_258 : q_230 ∉ hL S := fun h9 => e_231 (hf_229.mem h9)
  have hN_259 : NL S ((L_218 ++ [q_224]) ++ [q_230]) S_239 := NL.app (show NL S (L_218 ++ [q_224]) (nO (sR S_198 905 h (some q_183)) q_224 8) from NL.nO (NL.sR (S := S_198) hN_217) hq_225 hz_227) hNl_237 (fun a9 h9 => hf_241.mem h9) (fun a9 h9 => hf_229.mem h9)
  obtain ⟨L_260, eL_261⟩ : ∃ L9 : List Nat, L9 = ((L_218 ++ [q_224]) ++ [q_230]) := ⟨_, rfl⟩
  rw [← eL_261] at hN_259
  have hGt_262 : Gt 0 [q_224, q_230] S_239 := ⟨fun i9 k9 h9 => (match i9, h9 with | 0, h9 => (by have e9 : (8 : Nat) = k9 := Option.some.inj h9; subst e9; exact ⟨hm_248, hk_249⟩) | 1, h9 => (by have e9 : (14 : Nat) = k9 := Option.some.inj h9; subst e9; exact ⟨e_232, e_233⟩) | i9 + 2, h9 => absurd h9 (by simp [gT])), (List.forall_mem_cons.mpr ⟨e_234, (fun _ h9 => absurd h9 List.not_mem_nil)⟩), (List.forall_mem_cons.mpr ⟨e_235, (fun _ h9 => absurd h9 List.not_mem_nil)⟩), (List.forall_mem_cons.mpr ⟨e_236, (fun _ h9 => absurd h9 List.not_mem_nil)⟩)⟩
  have hG_263 : Gs h (gs_222 ++ [(0, [q_224, q_230])]) S_239 := Gs.snoc hG_257 (by decide) hGt_262 (List.forall_mem_cons.mpr ⟨(own_ne hz_227 hm), (fun _ h9 => absurd h9 List.not_mem_nil)⟩)
  obtain ⟨gs_264, eG_265⟩ : ∃ G9 : List (Nat × List Nat), G9 = gs_222 ++ [(0, [q_224, q_230])] := ⟨_, rfl⟩
  rw [← eG_265] at hG_263
  refine j_putrF (f := 906) C hm9 flX9_43o (by decide) rfl rfl dX9_init_65 hm_243 hk_244 rfl ?_
  refine j_aload_n C dX9_init_68 rfl 0 rfl ?_
  show J _ _ _ _ _ 69 _
  refine j_sipush (v := 24000) C dX9_init_69 (by decide) ?_
  have hf_268 : Fm (fun _ _ => False) (fun f9 b9 => b9 = h) (fun _ => False) S (sR S_239 906 h (some q_224)) := (hf_255.sR _ (fun _ => rfl))
  refine j_newB (N := 24000) C ka_byte (by decide) (by decide) (Nat.le_of_ble_eq_true rfl) (M.cells (by decide)) (M.slots (Nat.le_of_ble_eq_true rfl)) dX9_init_72 (fun q_266 hq_267 => ?_)
  have hz_269 : q_266 ∉ hL S := fun h9 => hq_267 (hf_268.mem h9)
  refine j_putrF (f := 907) C hm9 flX9_46o (by decide) rfl rfl dX9_init_74 (mem_old hm_243) (kd_nA (k := 13) (n := 24000) hq_267 hm_243 hk_244) rfl ?_
  refine j_aload_n C dX9_init_77 rfl 0 rfl ?_
  refine j_bipush (v := 16) C dX9_init_78 (by decide) ?_
  have hf_272 : Fm (fun _ _ => False) (fun f9 b9 => b9 = h) (fun _ => False) S (sR (nA (sR S_239 906 h (some q_224)) q_266 13 24000) 907 h (some q_266)) := ((hf_268.nA _ _ hq_267).sR _ (fun _ => rfl))
  obtain ⟨S_270, eS_271⟩ : ∃ S9 : Hp, S9 = (sR (nA (sR S_239 906 h (some q_224)) q_266 13 24000) 907 h (some q_266)) := ⟨_, rfl⟩
  refine J.eq (S' := S_270) eS_271.symm rfl rfl ?_
  have hm_273 : h ∈ hL S_270 := by rw [eS_271]; exact (mem_old hm_243)
  have hk_274 : Kd S_270 h 9 := by rw [eS_271]; exact (kd_nA (k := 13) (n := 24000) hq_267 hm_243 hk_244)
  have hm_275 : q_161 ∈ hL S_270 := by rw [eS_271]; exact (mem_old hm_245)
  have hk_276 : Kd S_270 q_161 20 := by rw [eS_271]; exact (kd_nA (k := 13) (n := 24000) hq_267 hm_245 hk_246)
  have hn_277 : Ln S_270 q_161 16 := by rw [eS_271]; exact (ln_nA (k := 13) hq_267 hm_245 hn_247)
  have hz_278 : ∀ j, aI S_270 q_161 j = 0 := by rw [eS_271]; exact (fun j9 => rd_nAI (k := 13) (n := 24000) hq_267 hm_245 (hz_242 j9))
  have hm_279 : q_266 ∈ hL S_270 := by rw [eS_271]; exact mem_new
  have hk_280 : Kd S_270 q_266 13 := by rw [eS_271]; exact (kd_nA' (k := 13) (n := 24000))
  have hn_281 : Ln S_270 q_266 24000 := by rw [eS_271]; exact (ln_nA' (k := 13))
  have hz_282 : ∀ j, aI S_270 q_266 j = 0 := by rw [eS_271]; exact (fun j9 => rd_nAI' (k := 13) (n := 24000))
  have hv_283 : hR S_270 901 h = (some q_1) := by rw [eS_271]; exact (rd_sRf (S := (nA (sR S_239 906 h (some q_224)) q_266 13 24000)) (g := 907) (a := h) (v := (some q_266)) (by decide) (rd_sRf (S := S_239) (g := 906) (a := h) (v := (some q_224)) (by decide) hv_250))
  have hv_284 : hR S_270 902 h = (some q_41) := by rw [eS_271]; exact (rd_sRf (S := (nA (sR S_239 906 h (some q_224)) q_266 13 24000)) (g := 907) (a := h) (v := (some q_266)) (by decide) (rd_sRf (S := S_239) (g := 906) (a := h) (v := (some q_224)) (by decide) hv_251))
  have hv_285 : hR S_270 903 h = (some q_126) := by rw [eS_271]; exact (rd_sRf (S := (nA (sR S_239 906 h (some q_224)) q_266 13 24000)) (g := 907) (a := h) (v := (some q_266)) (by decide) (rd_sRf (S := S_239) (g := 906) (a := h) (v := (some q_224)) (by decide) hv_252))
  have hv_286 : hR S_270 904 h = (some q_161) := by rw [eS_271]; exact (rd_sRf (S := (nA (sR S_239 906 h (some q_224)) q_266 13 24000)) (g := 907) (a := h) (v := (some q_266)) (by decide) (rd_sRf (S := S_239) (g := 906) (a := h) (v := (some q_224)) (by decide) hv_253))
  have hv_287 : hR S_270 905 h = (some q_183) := by rw [eS_271]; exact (rd_sRf (S := (nA (sR S_239 906 h (some q_224)) q_266 13 24000)) (g := 907) (a := h) (v := (some q_266)) (by decide) (rd_sRf (S := S_239) (g := 906) (a := h) (v := (some q_224)) (by decide) hv_254))
  have hv_288 : hR S_270 906 h = (some q_224) := by rw [eS_271]; exact (rd_sRf (S := (nA (sR S_239 906 h (some q_224)) q_266 13 24000)) (g := 907) (a := h) (v := (some q_266)) (by decide) (rd_sR (S := S_239) (g := 906) (a := h) (v := (some q_224))))
  have hv_289 : hR S_270 907 h = (some q_266) := by rw [eS_271]; exact (rd_sR (S := (nA (sR S_239 906 h (some q_224)) q_266 13 24000)) (g := 907) (a := h) (v := (some q_266)))
  have hf_290 : Fm (fun _ _ => False) (fun f9 b9 => b9 = h) (fun _ => False) S S_270 := by rw [eS_271]; exact hf_272
  have hN_291 : NL S (L_260 ++ [q_266]) S_270 := by rw [eS_271]; exact (NL.sR (S := (nA (sR S_239 906 h (some q_224)) q_266 13 24000)) (show NL S (L_260 ++ [q_266]) (nA (sR S_239 906 h (some q_224)) q_266 13 24000) from NL.nA (NL.sR (S := S_239) hN_259) hq_267 hz_269))
  obtain ⟨L_292, eL_293⟩ : ∃ L9 : List Nat, L9 = (L_260 ++ [q_266]) := ⟨_, rfl⟩
  rw [← eL_293] at hN_291
  have hG_294 : Gs h gs_264 S_270 := by rw [eS_271]; exact (Gs.sR (S := (nA (sR S_239 906 h (some q_224)) q_266 13 24000)) (show Gs h gs_264 (nA (sR S_239 906 h (some q_224)) q_266 13 24000) from Gs.nA (Gs.sR (S := S_239) hG_263) hq_267))
  refine j_newI (N := 16) C ka_int (by decide) (by decide) (Nat.le_of_ble_eq_true rfl) (M.cells (by decide)) (M.slots (Nat.le_of_ble_eq_true rfl)) dX9_init_80 (fun q_295 hq_296 => ?_)
  have hz_297 : q_295 ∉ hL S := fun h9 => hq_296 (hf_290.mem h9)
  refine j_putrF (f := 908) C hm9 flX9_50o (by decide) rfl rfl dX9_init_82 (mem_old hm_273) (kd_nA (k := 14) (n := 16) hq_296 hm_273 hk_274) rfl ?_
  refine j_aload_n C dX9_init_85 rfl 0 rfl ?_
  show J _ _ _ _ _ 86 _
  have hf_300 : Fm (fun _ _ => False) (fun f9 b9 => b9 = h) (fun _ => False) S (sR (nA S_270 q_295 14 16) 908 h (some q_295)) := ((hf_290.nA _ _ hq_296).sR _ (fun _ => rfl))
  obtain ⟨S_298, eS_299⟩ : ∃ S9 : Hp, S9 = (sR (nA S_270 q_295 14 16) 908 h (some q_295)) := ⟨_, rfl⟩
  refine J.eq (S' := S_298) eS_299.symm rfl rfl ?_
  have hm_301 : h ∈ hL S_298 := by rw [eS_299]; exact (mem_old hm_273)
  have hk_302 : Kd S_298 h 9 := by rw [eS_299]; exact (kd_nA (k := 14) (n := 16) hq_296 hm_273 hk_274)
  have hm_303 : q_161 ∈ hL S_298 := by rw [eS_299]; exact (mem_old hm_275)
  have hk_304 : Kd S_298 q_161 20 := by rw [eS_299]; exact (kd_nA (k := 14) (n := 16) hq_296 hm_275 hk_276)
  have hn_305 : Ln S_298 q_161 16 := by rw [eS_299]; exact (ln_nA (k := 14) hq_296 hm_275 hn_277)
  have hz_306 : ∀ j, aI S_298 q_161 j = 0 := by rw [eS_299]; exact (fun j9 => rd_nAI (k := 14) (n := 16) hq_296 hm_275 (hz_278 j9))
  have hm_307 : q_266 ∈ hL S_298 := by rw [eS_299]; exact (mem_old hm_279)
  have hk_308 : Kd S_298 q_266 13 := by rw [eS_299]; exact (kd_nA (k := 14) (n := 16) hq_296 hm_279 hk_280)
  have hn_309 : Ln S_298 q_266 24000 := by rw [eS_299]; exact (ln_nA (k := 14) hq_296 hm_279 hn_281)
  have hz_310 : ∀ j, aI S_298 q_266 j = 0 := by rw [eS_299]; exact (fun j9 => rd_nAI (k := 14) (n := 16) hq_296 hm_279 (hz_282 j9))
  have hm_311 : q_295 ∈ hL S_298 := by rw [eS_299]; exact mem_new
  have hk_312 : Kd S_298 q_295 14 := by rw [eS_299]; exact (kd_nA' (k := 14) (n := 16))
  have hn_313 : Ln S_298 q_295 16 := by rw [eS_299]; exact (ln_nA' (k := 14))
  have hz_314 : ∀ j, aI S_298 q_295 j = 0 := by rw [eS_299]; exact (fun j9 => rd_nAI' (k := 14) (n := 16))
  have hv_315 : hR S_298 901 h = (some q_1) := by rw [eS_299]; exact (rd_sRf (S := (nA S_270 q_295 14 16)) (g := 908) (a := h) (v := (some q_295)) (by decide) hv_283)
  have hv_316 : hR S_298 902 h = (some q_41) := by rw [eS_299]; exact (rd_sRf (S := (nA S_270 q_295 14 16)) (g := 908) (a := h) (v := (some q_295)) (by decide) hv_284)
  have hv_317 : hR S_298 903 h = (some q_126) := by rw [eS_299]; exact (rd_sRf (S := (nA S_270 q_295 14 16)) (g := 908) (a := h) (v := (some q_295)) (by decide) hv_285)
  have hv_318 : hR S_298 904 h = (some q_161) := by rw [eS_299]; exact (rd_sRf (S := (nA S_270 q_295 14 16)) (g := 908) (a := h) (v := (some q_295)) (by decide) hv_286)
  have hv_319 : hR S_298 905 h = (some q_183) := by rw [eS_299]; exact (rd_sRf (S := (nA S_270 q_295 14 16)) (g := 908) (a := h) (v := (some q_295)) (by decide) hv_287)
  have hv_320 : hR S_298 906 h = (some q_224) := by rw [eS_299]; exact (rd_sRf (S := (nA S_270 q_295 14 16)) (g := 908) (a := h) (v := (some q_295)) (by decide) hv_288)
  have hv_321 : hR S_298 907 h = (some q_266) := by rw [eS_299]; exact (rd_sRf (S := (nA S_270 q_295 14 16)) (g := 908) (a := h) (v := (some q_295)) (by decide) hv_289)
  have hv_322 : hR S_298 908 h = (some q_295) := by rw [eS_299]; exact (rd_sR (S := (nA S_270 q_295 14 16)) (g := 908) (a := h) (v := (some q_295)))
  have hf_323 : Fm (fun _ _ => False) (fun f9 b9 => b9 = h) (fun _ => False) S S_298 := by rw [eS_299]; exact hf_300
  have hN_324 : NL S (L_292 ++ [q_295]) S_298 := by rw [eS_299]; exact (NL.sR (S := (nA S_270 q_295 14 16)) (show NL S (L_292 ++ [q_295]) (nA S_270 q_295 14 16) from NL.nA hN_291 hq_296 hz_297))
  obtain ⟨L_325, eL_326⟩ : ∃ L9 : List Nat, L9 = (L_292 ++ [q_295]) := ⟨_, rfl⟩
  rw [← eL_326] at hN_324
  have hG_327 : Gs h gs_264 S_298 := by rw [eS_299]; exact (Gs.sR (S := (nA S_270 q_295 14 16)) (show Gs h gs_264 (nA S_270 q_295 14 16) from Gs.nA hG_294 hq_296))
  refine j_new (N := 21) C (ci := 1) rfl rfl klX9_54 knX1 kiX1 (M.cells (by decide)) (M.slots (by decide)) dX9_init_86 (fun q_328 hq_329 => ?_)
  have hz_330 : q_328 ∉ hL S := fun h9 => hq_329 (hf_323.mem h9)
  have gn_331 : ∀ g9 ∈ gs_264, ∀ p9 ∈ (gT g9.1).2.2, g9.2.getD p9.2.1 0 ≠ q_328 := Gs.ne hG_327 hq_329
  refine j_dup C dX9_init_89 rfl ?_
  have hf_332 : Fm (fun _ _ => False) (fun f9 b9 => b9 = h) (fun _ => False) S (nO S_298 q_328 1) := (hf_323.nO _ hq_329)
  refine j_callI C [] [.ref q_328, .ref h] mlX9_56 mcX1_init (c_X1_init (nO S_298 q_328 1) q_328 mem_new (kd_nO' (k := 1))) (M.rm (by decide) (by decide) (Nat.le_of_ble_eq_true rfl) (Nat.le_of_ble_eq_true rfl)) rfl rfl (Nat.le_of_ble_eq_true rfl) dX9_init_90 (fun r_379 S_380 hp_381 => ?_)
  obtain ⟨rfl, hf_382, q_333, q_334, q_335, q_336, q_337, q_338, q_339, q_340, e_341, e_342, e_343, e_344, e_345, e_346, e_347, e_348, e_349, e_350, e_351, e_352, e_353, e_354, e_355, e_356, e_357, e_358, e_359, e_360, e_361, e_362, e_363, e_364, e_365, e_366, e_367, e_368, e_369, e_370, e_371, e_372, e_373, e_374, e_375, e_376, e_377, hNl_378⟩ := hp_381
  refine J.eq (st' := [.ref q_328, .ref h]) rfl rfl rfl ?_
  have hz_383 : ∀ j, aI S_380 q_161 j = 0 := fun j9 => (hf_382.ai (mem_old hm_303) (fun h9 => h9) j9).trans (hz_306 j9)
  have hz_384 : ∀ j, aI S_380 q_266 j = 0 := fun j9 => (hf_382.ai (mem_old hm_307) (fun h9 => h9) j9).trans (hz_310 j9)
  have hz_385 : ∀ j, aI S_380 q_295 j = 0 := fun j9 => (hf_382.ai (mem_old hm_311) (fun h9 => h9) j9).trans (hz_314 j9)
  have hm_386 : h ∈ hL S_380 := hf_382.mem (mem_old hm_301)
  have hk_387 : Kd S_380 h 9 := hf_382.kd (mem_old hm_301) (kd_nO (k := 1) hq_329 hm_301 hk_302)
  have hm_388 : q_161 ∈ hL S_380 := hf_382.mem (mem_old hm_303)
  have hk_389 : Kd S_380 q_161 20 := hf_382.kd (mem_old hm_303) (kd_nO (k := 1) hq_329 hm_303 hk_304)
  have hn_390 : Ln S_380 q_161 16 := hf_382.ln (mem_old hm_303) hn_305
  have hm_391 : q_266 ∈ hL S_380 := hf_382.mem (mem_old hm_307)
  have hk_392 : Kd S_380 q_266 13 := hf_382.kd (mem_old hm_307) (kd_nO (k := 1) hq_329 hm_307 hk_308)
  have hn_393 : Ln S_380 q_266 24000 := hf_382.ln (mem_old hm_307) hn_309
  have hm_394 : q_295 ∈ hL S_380 := hf_382.mem (mem_old hm_311)
  have hk_395 : Kd S_380 q_295 14 := hf_382.kd (mem_old hm_311) (kd_nO (k := 1) hq_329 hm_311 hk_312)
  have hn_396 : Ln S_380 q_295 16 := hf_382.ln (mem_old hm_311) hn_313
  have hm_397 : q_328 ∈ hL S_380 := hf_382.mem mem_new
  have hk_398 : Kd S_380 q_328 1 := hf_382.kd mem_new (kd_nO' (k := 1))
  have hv_399 : hR S_380 901 h = (some q_1) := hf_382.fr (mem_old hm_301) (fun q9 => (fun e9 => absurd (((kd_nO (k := 1) hq_329 hm_301 hk_302)).symm.trans ((congrArg (hK _) e9).trans (kd_nO' (k := 1)))) (by decide)) q9) (rd_nOR (k := 1) hq_329 hm_301 hv_315)
  have hv_400 : hR S_380 902 h = (some q_41) := hf_382.fr (mem_old hm_301) (fun q9 => (fun e9 => absurd (((kd_nO (k := 1) hq_329 hm_301 hk_302)).symm.trans ((congrArg (hK _) e9).trans (kd_nO' (k := 1)))) (by decide)) q9) (rd_nOR (k := 1) hq_329 hm_301 hv_316)
  have hv_401 : hR S_380 903 h = (some q_126) := hf_382.fr (mem_old hm_301) (fun q9 => (fun e9 => absurd (((kd_nO (k := 1) hq_329 hm_301 hk_302)).symm.trans ((congrArg (hK _) e9).trans (kd_nO' (k := 1)))) (by decide)) q9) (rd_nOR (k := 1) hq_329 hm_301 hv_317)
  have hv_402 : hR S_380 904 h = (some q_161) := hf_382.fr (mem_old hm_301) (fun q9 => (fun e9 => absurd (((kd_nO (k := 1) hq_329 hm_301 hk_302)).symm.trans ((congrArg (hK _) e9).trans (kd_nO' (k := 1)))) (by decide)) q9) (rd_nOR (k := 1) hq_329 hm_301 hv_318)
  have hv_403 : hR S_380 905 h = (some q_183) := hf_382.fr (mem_old hm_301) (fun q9 => (fun e9 => absurd (((kd_nO (k := 1) hq_329 hm_301 hk_302)).symm.trans ((congrArg (hK _) e9).trans (kd_nO' (k := 1)))) (by decide)) q9) (rd_nOR (k := 1) hq_329 hm_301 hv_319)
  have hv_404 : hR S_380 906 h = (some q_224) := hf_382.fr (mem_old hm_301) (fun q9 => (fun e9 => absurd (((kd_nO (k := 1) hq_329 hm_301 hk_302)).symm.trans ((congrArg (hK _) e9).trans (kd_nO' (k := 1)))) (by decide)) q9) (rd_nOR (k := 1) hq_329 hm_301 hv_320)
  have hv_405 : hR S_380 907 h = (some q_266) := hf_382.fr (mem_old hm_301) (fun q9 => (fun e9 => absurd (((kd_nO (k := 1) hq_329 hm_301 hk_302)).symm.trans ((congrArg (hK _) e9).trans (kd_nO' (k := 1)))) (by decide)) q9) (rd_nOR (k := 1) hq_329 hm_301 hv_321)
  have hv_406 : hR S_380 908 h = (some q_295) := hf_382.fr (mem_old hm_301) (fun q9 => (fun e9 => absurd (((kd_nO (k := 1) hq_329 hm_301 hk_302)).symm.trans ((congrArg (hK _) e9).trans (kd_nO' (k := 1)))) (by decide)) q9) (rd_nOR (k := 1) hq_329 hm_301 hv_322)
  have hf_407 : Fm (fun _ _ => False) (fun f9 b9 => b9 = h) (fun _ => False) S S_380 := hf_332.then hf_382 (fun a9 ha9 => ⟨(fun f9 h9 => h9.elim), (fun f9 h9 => (fun h8 => absurd (h8 ▸ ha9) hz_330) h9), (fun h9 => h9.elim)⟩)
  have hN_408 : NL S (L_325 ++ [q_328]) S_380 := NL.mono (show NL S (L_325 ++ [q_328]) (nO S_298 q_328 1) from NL.nO hN_324 hq_329 hz_330) (fun a9 h9 => hf_382.mem h9)
  have hG_409 : Gs h gs_264 S_380 := Gs.fm (show Gs h gs_264 (nO S_298 q_328 1) from Gs.nO hG_327 hq_329) hf_382 (fun g9 hg9 p9 hp9 => gn_331 g9 hg9 p9 hp9)
  have hz_410 : q_333 ∉ hL S := fun h9 => e_341 (hf_332.mem h9)
  have hz_411 : q_334 ∉ hL S := fun h9 => e_345 (hf_332.mem h9)
  have hz_412 : q_335 ∉ hL S := fun h9 => e_350 (hf_332.mem h9)
  have hz_413 : q_336 ∉ hL S := fun h9 => e_354 (hf_332.mem h9)
  have hz_414 : q_337 ∉ hL S := fun h9 => e_359 (hf_332.mem h9)
  have hz_415 : q_338 ∉ hL S := fun h9 => e_363 (hf_332.mem h9)
  have hz_416 : q_339 ∉ hL S := fun h9 => e_368 (hf_332.mem h9)
  have hz_417 : q_340 ∉ hL S := fun h9 => e_373 (hf_332.mem h9)
  have hN_418 : NL S ((L_325 ++ [q_328]) ++ [q_333, q_334, q_335, q_336, q_337, q_338, q_339, q_340]) S_380 := NL.app (show NL S (L_325 ++ [q_328]) (nO S_298 q_328 1) from NL.nO hN_324 hq_329 hz_330) hNl_378 (fun a9 h9 => hf_382.mem h9) (fun a9 h9 => hf_332.mem h9)
  obtain ⟨L_419, eL_420⟩ : ∃ L9 : List Nat, L9 = ((L_325 ++ [q_328]) ++ [q_333, q_334, q_335, q_336, q_337, q_338, q_339, q_340]) := ⟨_, rfl⟩
  rw [← eL_420] at hN_418
  have hGt_421 : Gt 2 [q_328, q_333, q_334, q_335, q_336, q_337, q_338, q_339, q_340] S_380 := ⟨fun i9 k9 h9 => (match i9, h9 with | 0, h9 => (by have e9 : (1 : Nat) = k9 := Option.some.inj h9; subst e9; exact ⟨hm_397, hk_398⟩) | 1, h9 => (by have e9 : (7 : Nat) = k9 := Option.some.inj h9; subst e9; exact ⟨e_342, e_343⟩) | 2, h9 => (by have e9 : (14 : Nat) = k9 := Option.some.inj h9; subst e9; exact ⟨e_346, e_347⟩) | 3, h9 => (by have e9 : (4 : Nat) = k9 := Option.some.inj h9; subst e9; exact ⟨e_351, e_352⟩) | 4, h9 => (by have e9 : (14 : Nat) = k9 := Option.some.inj h9; subst e9; exact ⟨e_355, e_356⟩) | 5, h9 => (by have e9 : (10 : Nat) = k9 := Option.some.inj h9; subst e9; exact ⟨e_360, e_361⟩) | 6, h9 => (by have e9 : (15 : Nat) = k9 := Option.some.inj h9; subst e9; exact ⟨e_364, e_365⟩) | 7, h9 => (by have e9 : (14 : Nat) = k9 := Option.some.inj h9; subst e9; exact ⟨e_369, e_370⟩) | 8, h9 => (by have e9 : (14 : Nat) = k9 := Option.some.inj h9; subst e9; exact ⟨e_374, e_375⟩) | i9 + 9, h9 => absurd h9 (by simp [gT])), (List.forall_mem_cons.mpr ⟨e_348, (List.forall_mem_cons.mpr ⟨e_357, (List.forall_mem_cons.mpr ⟨e_366, (List.forall_mem_cons.mpr ⟨e_371, (List.forall_mem_cons.mpr ⟨e_376, (fun _ h9 => absurd h9 List.not_mem_nil)⟩)⟩)⟩)⟩)⟩), (List.forall_mem_cons.mpr ⟨e_344, (List.forall_mem_cons.mpr ⟨e_349, (List.forall_mem_cons.mpr ⟨e_353, (List.forall_mem_cons.mpr ⟨e_358, (List.forall_mem_cons.mpr ⟨e_362, (List.forall_mem_cons.mpr ⟨e_367, (List.forall_mem_cons.mpr ⟨e_372, (List.forall_mem_cons.mpr ⟨e_377, (fun _ h9 => absurd h9 List.not_mem_nil)⟩)⟩)⟩)⟩)⟩)⟩)⟩)⟩), (fun _ h9 => absurd h9 List.not_mem_nil)⟩
  have hG_422 : Gs h (gs_264 ++ [(2, [q_328, q_333, q_334, q_335, q_336, q_337, q_338, q_339, q_340])]) S_380 := Gs.snoc hG_409 (by decide) hGt_421 (List.forall_mem_cons.mpr ⟨(own_ne hz_330 hm), (List.forall_mem_cons.mpr ⟨(own_ne hz_410 hm), (List.forall_mem_cons.mpr ⟨(own_ne hz_330 hm), (List.forall_mem_cons.mpr ⟨(own_ne hz_412 hm), (List.forall_mem_cons.mpr ⟨(own_ne hz_330 hm), (List.forall_mem_cons.mpr ⟨(own_ne hz_414 hm), (List.forall_mem_cons.mpr ⟨(own_ne hz_330 hm), (List.forall_mem_cons.mpr ⟨(own_ne hz_330 hm), (fun _ h9 => absurd h9 List.not_mem_nil)⟩)⟩)⟩)⟩)⟩)⟩)⟩)⟩)
  obtain ⟨gs_423, eG_424⟩ : ∃ G9 : List (Nat × List Nat), G9 = gs_264 ++ [(2, [q_328, q_333, q_334, q_335, q_336, q_337, q_338, q_339, q_340])] := ⟨_, rfl⟩
  rw [← eG_424] at hG_422
  refine j_putrF (f := 909) C hm9 flX9_57o (by decide) rfl rfl dX9_init_93 hm_386 hk_387 rfl ?_
  refine j_aload_n C dX9_init_96 rfl 0 rfl ?_
  have hf_427 : Fm (fun _ _ => False) (fun f9 b9 => b9 = h) (fun _ => False) S (sR S_380 909 h (some q_328)) := (hf_407.sR _ (fun _ => rfl))
  refine j_new (N := 21) C (ci := 1) rfl rfl klX9_54 knX1 kiX1 (M.cells (by decide)) (M.slots (by decide)) dX9_init_97 (fun q_425 hq_426 => ?_)
  have hz_428 : q_425 ∉ hL S := fun h9 => hq_426 (hf_427.mem h9)
  have gn_429 : ∀ g9 ∈ gs_423, ∀ p9 ∈ (gT g9.1).2.2, g9.2.getD p9.2.1 0 ≠ q_425 := Gs.ne (Gs.sR (S := S_380) hG_422) hq_426
  refine j_dup C dX9_init_100 rfl ?_
  have hf_430 : Fm (fun _ _ => False) (fun f9 b9 => b9 = h) (fun _ => False) S (nO (sR S_380 909 h (some q_328)) q_425 1) := (hf_427.nO _ hq_426)
  refine j_callI C [] [.ref q_425, .ref h] mlX9_56 mcX1_init (c_X1_init (nO (sR S_380 909 h (some q_328)) q_425 1) q_425 mem_new (kd_nO' (k := 1))) (M.rm (by decide) (by decide) (Nat.le_of_ble_eq_true rfl) (Nat.le_of_ble_eq_true rfl)) rfl rfl (Nat.le_of_ble_eq_true rfl) dX9_init_101 (fun r_477 S_478 hp_479 => ?_)
  obtain ⟨rfl, hf_480, q_431, q_432, q_433, q_434, q_435, q_436, q_437, q_438, e_439, e_440, e_441, e_442, e_443, e_444, e_445, e_446, e_447, e_448, e_449, e_450, e_451, e_452, e_453, e_454, e_455, e_456, e_457, e_458, e_459, e_460, e_461, e_462, e_463, e_464, e_465, e_466, e_467, e_468, e_469, e_470, e_471, e_472, e_473, e_474, e_475, hNl_476⟩ := hp_479
  refine J.eq (st' := [.ref q_425, .ref h]) rfl rfl rfl ?_
  have hz_481 : ∀ j, aI S_478 q_161 j = 0 := fun j9 => (hf_480.ai (mem_old hm_388) (fun h9 => h9) j9).trans (hz_383 j9)
  have hz_482 : ∀ j, aI S_478 q_266 j = 0 := fun j9 => (hf_480.ai (mem_old hm_391) (fun h9 => h9) j9).trans (hz_384 j9)
  have hz_483 : ∀ j, aI S_478 q_295 j = 0 := fun j9 => (hf_480.ai (mem_old hm_394) (fun h9 => h9) j9).trans (hz_385 j9)
  have hm_484 : h ∈ hL S_478 := hf_480.mem (mem_old hm_386)
  have hk_485 : Kd S_478 h 9 := hf_480.kd (mem_old hm_386) (kd_nO (k := 1) hq_426 hm_386 hk_387)
  have hm_486 : q_161 ∈ hL S_478 := hf_480.mem (mem_old hm_388)
  have hk_487 : Kd S_478 q_161 20 := hf_480.kd (mem_old hm_388) (kd_nO (k := 1) hq_426 hm_388 hk_389)
  have hn_488 : Ln S_478 q_161 16 := hf_480.ln (mem_old hm_388) hn_390
  have hm_489 : q_266 ∈ hL S_478 := hf_480.mem (mem_old hm_391)
  have hk_490 : Kd S_478 q_266 13 := hf_480.kd (mem_old hm_391) (kd_nO (k := 1) hq_426 hm_391 hk_392)
  have hn_491 : Ln S_478 q_266 24000 := hf_480.ln (mem_old hm_391) hn_393
  have hm_492 : q_295 ∈ hL S_478 := hf_480.mem (mem_old hm_394)
  have hk_493 : Kd S_478 q_295 14 := hf_480.kd (mem_old hm_394) (kd_nO (k := 1) hq_426 hm_394 hk_395)
  have hn_494 : Ln S_478 q_295 16 := hf_480.ln (mem_old hm_394) hn_396
  have hm_495 : q_425 ∈ hL S_478 := hf_480.mem mem_new
  have hk_496 : Kd S_478 q_425 1 := hf_480.kd mem_new (kd_nO' (k := 1))
  have hv_497 : hR S_478 901 h = (some q_1) := hf_480.fr (mem_old hm_386) (fun q9 => (fun e9 => absurd (((kd_nO (k := 1) hq_426 hm_386 hk_387)).symm.trans ((congrArg (hK _) e9).trans (kd_nO' (k := 1)))) (by decide)) q9) (rd_nOR (k := 1) hq_426 hm_386 (rd_sRf (S := S_380) (g := 909) (a := h) (v := (some q_328)) (by decide) hv_399))
  have hv_498 : hR S_478 902 h = (some q_41) := hf_480.fr (mem_old hm_386) (fun q9 => (fun e9 => absurd (((kd_nO (k := 1) hq_426 hm_386 hk_387)).symm.trans ((congrArg (hK _) e9).trans (kd_nO' (k := 1)))) (by decide)) q9) (rd_nOR (k := 1) hq_426 hm_386 (rd_sRf (S := S_380) (g := 909) (a := h) (v := (some q_328)) (by decide) hv_400))
  have hv_499 : hR S_478 903 h = (some q_126) := hf_480.fr (mem_old hm_386) (fun q9 => (fun e9 => absurd (((kd_nO (k := 1) hq_426 hm_386 hk_387)).symm.trans ((congrArg (hK _) e9).trans (kd_nO' (k := 1)))) (by decide)) q9) (rd_nOR (k := 1) hq_426 hm_386 (rd_sRf (S := S_380) (g := 909) (a := h) (v := (some q_328)) (by decide) hv_401))
  have hv_500 : hR S_478 904 h = (some q_161) := hf_480.fr (mem_old hm_386) (fun q9 => (fun e9 => absurd (((kd_nO (k := 1) hq_426 hm_386 hk_387)).symm.trans ((congrArg (hK _) e9).trans (kd_nO' (k := 1)))) (by decide)) q9) (rd_nOR (k := 1) hq_426 hm_386 (rd_sRf (S := S_380) (g := 909) (a := h) (v := (some q_328)) (by decide) hv_402))
  have hv_501 : hR S_478 905 h = (some q_183) := hf_480.fr (mem_old hm_386) (fun q9 => (fun e9 => absurd (((kd_nO (k := 1) hq_426 hm_386 hk_387)).symm.trans ((congrArg (hK _) e9).trans (kd_nO' (k := 1)))) (by decide)) q9) (rd_nOR (k := 1) hq_426 hm_386 (rd_sRf (S := S_380) (g := 909) (a := h) (v := (some q_328)) (by decide) hv_403))
  have hv_502 : hR S_478 906 h = (some q_224) := hf_480.fr (mem_old hm_386) (fun q9 => (fun e9 => absurd (((kd_nO (k := 1) hq_426 hm_386 hk_387)).symm.trans ((congrArg (hK _) e9).trans (kd_nO' (k := 1)))) (by decide)) q9) (rd_nOR (k := 1) hq_426 hm_386 (rd_sRf (S := S_380) (g := 909) (a := h) (v := (some q_328)) (by decide) hv_404))
  have hv_503 : hR S_478 907 h = (some q_266) := hf_480.fr (mem_old hm_386) (fun q9 => (fun e9 => absurd (((kd_nO (k := 1) hq_426 hm_386 hk_387)).symm.trans ((congrArg (hK _) e9).trans (kd_nO' (k := 1)))) (by decide)) q9) (rd_nOR (k := 1) hq_426 hm_386 (rd_sRf (S := S_380) (g := 909) (a := h) (v := (some q_328)) (by decide) hv_405))
  have hv_504 : hR S_478 908 h = (some q_295) := hf_480.fr (mem_old hm_386) (fun q9 => (fun e9 => absurd (((kd_nO (k := 1) hq_426 hm_386 hk_387)).symm.trans ((congrArg (hK _) e9).trans (kd_nO' (k := 1)))) (by decide)) q9) (rd_nOR (k := 1) hq_426 hm_386 (rd_sRf (S := S_380) (g := 909) (a := h) (v := (some q_328)) (by decide) hv_406))
  have hv_505 : hR S_478 909 h = (some q_328) := hf_480.fr (mem_old hm_386) (fun q9 => (fun e9 => absurd (((kd_nO (k := 1) hq_426 hm_386 hk_387)).symm.trans ((congrArg (hK _) e9).trans (kd_nO' (k := 1)))) (by decide)) q9) (rd_nOR (k := 1) hq_426 hm_386 (rd_sR (S := S_380) (g := 909) (a := h) (v := (some q_328))))
  have hf_506 : Fm (fun _ _ => False) (fun f9 b9 => b9 = h) (fun _ => False) S S_478 := hf_430.then hf_480 (fun a9 ha9 => ⟨(fun f9 h9 => h9.elim), (fun f9 h9 => (fun h8 => absurd (h8 ▸ ha9) hz_428) h9), (fun h9 => h9.elim)⟩)
  have hN_507 : NL S (L_419 ++ [q_425]) S_478 := NL.mono (show NL S (L_419 ++ [q_425]) (nO (sR S_380 909 h (some q_328)) q_425 1) from NL.nO (NL.sR (S := S_380) hN_418) hq_426 hz_428) (fun a9 h9 => hf_480.mem h9)
  have hG_508 : Gs h gs_423 S_478 := Gs.fm (show Gs h gs_423 (nO (sR S_380 909 h (some q_328)) q_425 1) from Gs.nO (Gs.sR (S := S_380) hG_422) hq_426) hf_480 (fun g9 hg9 p9 hp9 => gn_429 g9 hg9 p9 hp9)
  have hz_509 : q_431 ∉ hL S := fun h9 => e_439 (hf_430.mem h9)
  have hz_510 : q_432 ∉ hL S := fun h9 => e_443 (hf_430.mem h9)
  have hz_511 : q_433 ∉ hL S := fun h9 => e_448 (hf_430.mem h9)
  have hz_512 : q_434 ∉ hL S := fun h9 => e_452 (hf_430.mem h9)
  have hz_513 : q_435 ∉ hL S := fun h9 => e_457 (hf_430.mem h9)
  have hz_514 : q_436 ∉ hL S := fun h9 => e_461 (hf_430.mem h9)
  have hz_515 : q_437 ∉ hL S := fun h9 => e_466 (hf_430.mem h9)
  have hz_516 : q_438 ∉ hL S := fun h9 => e_471 (hf_430.mem h9)
  have hN_517 : NL S ((L_419 ++ [q_425]) ++ [q_431, q_432, q_433, q_434, q_435, q_436, q_437, q_438]) S_478 := NL.app (show NL S (L_419 ++ [q_425]) (nO (sR S_380 909 h (some q_328)) q_425 1) from NL.nO (NL.sR (S := S_380) hN_418) hq_426 hz_428) hNl_476 (fun a9 h9 => hf_480.mem h9) (fun a9 h9 => hf_430.mem h9)
  obtain ⟨L_518, eL_519⟩ : ∃ L9 : List Nat, L9 = ((L_419 ++ [q_425]) ++ [q_431, q_432, q_433, q_434, q_435, q_436, q_437, q_438]) := ⟨_, rfl⟩
  rw [← eL_519] at hN_517
  have hGt_520 : Gt 2 [q_425, q_431, q_432, q_433, q_434, q_435, q_436, q_437, q_438] S_478 := ⟨fun i9 k9 h9 => (match i9, h9 with | 0, h9 => (by have e9 : (1 : Nat) = k9 := Option.some.inj h9; subst e9; exact ⟨hm_495, hk_496⟩) | 1, h9 => (by have e9 : (7 : Nat) = k9 := Option.some.inj h9; subst e9; exact ⟨e_440, e_441⟩) | 2, h9 => (by have e9 : (14 : Nat) = k9 := Option.some.inj h9; subst e9; exact ⟨e_444, e_445⟩) | 3, h9 => (by have e9 : (4 : Nat) = k9 := Option.some.inj h9; subst e9; exact ⟨e_449, e_450⟩) | 4, h9 => (by have e9 : (14 : Nat) = k9 := Option.some.inj h9; subst e9; exact ⟨e_453, e_454⟩) | 5, h9 => (by have e9 : (10 : Nat) = k9 := Option.some.inj h9; subst e9; exact ⟨e_458, e_459⟩) | 6, h9 => (by have e9 : (15 : Nat) = k9 := Option.some.inj h9; subst e9; exact ⟨e_462, e_463⟩) | 7, h9 => (by have e9 : (14 : Nat) = k9 := Option.some.inj h9; subst e9; exact ⟨e_467, e_468⟩) | 8, h9 => (by have e9 : (14 : Nat) = k9 := Option.some.inj h9; subst e9; exact ⟨e_472, e_473⟩) | i9 + 9, h9 => absurd h9 (by simp [gT])), (List.forall_mem_cons.mpr ⟨e_446, (List.forall_mem_cons.mpr ⟨e_455, (List.forall_mem_cons.mpr ⟨e_464, (List.forall_mem_cons.mpr ⟨e_469, (List.forall_mem_cons.mpr ⟨e_474, (fun _ h9 => absurd h9 List.not_mem_nil)⟩)⟩)⟩)⟩)⟩), (List.forall_mem_cons.mpr ⟨e_442, (List.forall_mem_cons.mpr ⟨e_447, (List.forall_mem_cons.mpr ⟨e_451, (List.forall_mem_cons.mpr ⟨e_456, (List.forall_mem_cons.mpr ⟨e_460, (List.forall_mem_cons.mpr ⟨e_465, (List.forall_mem_cons.mpr ⟨e_470, (List.forall_mem_cons.mpr ⟨e_475, (fun _ h9 => absurd h9 List.not_mem_nil)⟩)⟩)⟩)⟩)⟩)⟩)⟩)⟩), (fun _ h9 => absurd h9 List.not_mem_nil)⟩
  have hG_521 : Gs h (gs_423 ++ [(2, [q_425, q_431, q_432, q_433, q_434, q_435, q_436, q_437, q_438])]) S_478 := Gs.snoc hG_508 (by decide) hGt_520 (List.forall_mem_cons.mpr ⟨(own_ne hz_428 hm), (List.forall_mem_cons.mpr ⟨(own_ne hz_509 hm), (List.forall_mem_cons.mpr ⟨(own_ne hz_428 hm), (List.forall_mem_cons.mpr ⟨(own_ne hz_511 hm), (List.forall_mem_cons.mpr ⟨(own_ne hz_428 hm), (List.forall_mem_cons.mpr ⟨(own_ne hz_513 hm), (List.forall_mem_cons.mpr ⟨(own_ne hz_428 hm), (List.forall_mem_cons.mpr ⟨(own_ne hz_428 hm), (fun _ h9 => absurd h9 List.not_mem_nil)⟩)⟩)⟩)⟩)⟩)⟩)⟩)⟩)
  obtain ⟨gs_522, eG_523⟩ : ∃ G9 : List (Nat × List Nat), G9 = gs_423 ++ [(2, [q_425, q_431, q_432, q_433, q_434, q_435, q_436, q_437, q_438])] := ⟨_, rfl⟩
  rw [← eG_523] at hG_521
  show J _ _ _ _ _ 104 _
  refine j_putrF (f := 910) C hm9 flX9_61o (by decide) rfl rfl dX9_init_104 hm_484 hk_485 rfl ?_
  refine j_aload_n C dX9_init_107 rfl 0 rfl ?_
  refine j_iconst (v := 3) C dX9_init_108 (by decide) ?_
  have hf_526 : Fm (fun _ _ => False) (fun f9 b9 => b9 = h) (fun _ => False) S (sR S_478 910 h (some q_425)) := (hf_506.sR _ (fun _ => rfl))
  refine j_newQ (N := 3) C 18 (by decide) rfl klX9_54 (gx_Environment C) (by decide) (by decide) (by decide) (M.cells (by decide)) (M.slots (by decide)) dX9_init_109 (fun q_524 hq_525 => ?_)
  have hz_527 : q_524 ∉ hL S := fun h9 => hq_525 (hf_526.mem h9)
  refine j_putrF (f := 911) C hm9 flX9_64o (by decide) rfl rfl dX9_init_112 (mem_old hm_484) (kd_nA (k := 18) (n := 3) hq_525 hm_484 hk_485) rfl ?_
  refine j_aload_n C dX9_init_115 rfl 0 rfl ?_
  refine j_iconst (v := 4) C dX9_init_116 (by decide) ?_
  have hf_530 : Fm (fun _ _ => False) (fun f9 b9 => b9 = h) (fun _ => False) S (sR (nA (sR S_478 910 h (some q_425)) q_524 18 3) 911 h (some q_524)) := ((hf_526.nA _ _ hq_525).sR _ (fun _ => rfl))
  obtain ⟨S_528, eS_529⟩ : ∃ S9 : Hp, S9 = (sR (nA (sR S_478 910 h (some q_425)) q_524 18 3) 911 h (some q_524)) := ⟨_, rfl⟩
  refine J.eq (S' := S_528) eS_529.symm rfl rfl ?_
  have hm_531 : h ∈ hL S_528 := by rw [eS_529]; exact (mem_old hm_484)
  have hk_532 : Kd S_528 h 9 := by rw [eS_529]; exact (kd_nA (k := 18) (n := 3) hq_525 hm_484 hk_485)
  have hm_533 : q_161 ∈ hL S_528 := by rw [eS_529]; exact (mem_old hm_486)
  have hk_534 : Kd S_528 q_161 20 := by rw [eS_529]; exact (kd_nA (k := 18) (n := 3) hq_525 hm_486 hk_487)
  have hn_535 : Ln S_528 q_161 16 := by rw [eS_529]; exact (ln_nA (k := 18) hq_525 hm_486 hn_488)
  have hz_536 : ∀ j, aI S_528 q_161 j = 0 := by rw [eS_529]; exact (fun j9 => rd_nAI (k := 18) (n := 3) hq_525 hm_486 (hz_481 j9))
  have hm_537 : q_266 ∈ hL S_528 := by rw [eS_529]; exact (mem_old hm_489)
  have hk_538 : Kd S_528 q_266 13 := by rw [eS_529]; exact (kd_nA (k := 18) (n := 3) hq_525 hm_489 hk_490)
  have hn_539 : Ln S_528 q_266 24000 := by rw [eS_529]; exact (ln_nA (k := 18) hq_525 hm_489 hn_491)
  have hz_540 : ∀ j, aI S_528 q_266 j = 0 := by rw [eS_529]; exact (fun j9 => rd_nAI (k := 18) (n := 3) hq_525 hm_489 (hz_482 j9))
  have hm_541 : q_295 ∈ hL S_528 := by rw [eS_529]; exact (mem_old hm_492)
  have hk_542 : Kd S_528 q_295 14 := by rw [eS_529]; exact (kd_nA (k := 18) (n := 3) hq_525 hm_492 hk_493)
  have hn_543 : Ln S_528 q_295 16 := by rw [eS_529]; exact (ln_nA (k := 18) hq_525 hm_492 hn_494)
  have hz_544 : ∀ j, aI S_528 q_295 j = 0 := by rw [eS_529]; exact (fun j9 => rd_nAI (k := 18) (n := 3) hq_525 hm_492 (hz_483 j9))
  have hm_545 : q_524 ∈ hL S_528 := by rw [eS_529]; exact mem_new
  have hk_546 : Kd S_528 q_524 18 := by rw [eS_529]; exact (kd_nA' (k := 18) (n := 3))
  have hn_547 : Ln S_528 q_524 3 := by rw [eS_529]; exact (ln_nA' (k := 18))
  have hz_548 : ∀ j, aI S_528 q_524 j = 0 := by rw [eS_529]; exact (fun j9 => rd_nAI' (k := 18) (n := 3))
  have hv_549 : hR S_528 901 h = (some q_1) := by rw [eS_529]; exact (rd_sRf (S := (nA (sR S_478 910 h (some q_425)) q_524 18 3)) (g := 911) (a := h) (v := (some q_524)) (by decide) (rd_sRf (S := S_478) (g := 910) (a := h) (v := (some q_425)) (by decide) hv_497))
  have hv_550 : hR S_528 902 h = (some q_41) := by rw [eS_529]; exact (rd_sRf (S := (nA (sR S_478 910 h (some q_425)) q_524 18 3)) (g := 911) (a := h) (v := (some q_524)) (by decide) (rd_sRf (S := S_478) (g := 910) (a := h) (v := (some q_425)) (by decide) hv_498))
  have hv_551 : hR S_528 903 h = (some q_126) := by rw [eS_529]; exact (rd_sRf (S := (nA (sR S_478 910 h (some q_425)) q_524 18 3)) (g := 911) (a := h) (v := (some q_524)) (by decide) (rd_sRf (S := S_478) (g := 910) (a := h) (v := (some q_425)) (by decide) hv_499))
  have hv_552 : hR S_528 904 h = (some q_161) := by rw [eS_529]; exact (rd_sRf (S := (nA (sR S_478 910 h (some q_425)) q_524 18 3)) (g := 911) (a := h) (v := (some q_524)) (by decide) (rd_sRf (S := S_478) (g := 910) (a := h) (v := (some q_425)) (by decide) hv_500))
  have hv_553 : hR S_528 905 h = (some q_183) := by rw [eS_529]; exact (rd_sRf (S := (nA (sR S_478 910 h (some q_425)) q_524 18 3)) (g := 911) (a := h) (v := (some q_524)) (by decide) (rd_sRf (S := S_478) (g := 910) (a := h) (v := (some q_425)) (by decide) hv_501))
  have hv_554 : hR S_528 906 h = (some q_224) := by rw [eS_529]; exact (rd_sRf (S := (nA (sR S_478 910 h (some q_425)) q_524 18 3)) (g := 911) (a := h) (v := (some q_524)) (by decide) (rd_sRf (S := S_478) (g := 910) (a := h) (v := (some q_425)) (by decide) hv_502))
  have hv_555 : hR S_528 907 h = (some q_266) := by rw [eS_529]; exact (rd_sRf (S := (nA (sR S_478 910 h (some q_425)) q_524 18 3)) (g := 911) (a := h) (v := (some q_524)) (by decide) (rd_sRf (S := S_478) (g := 910) (a := h) (v := (some q_425)) (by decide) hv_503))
  have hv_556 : hR S_528 908 h = (some q_295) := by rw [eS_529]; exact (rd_sRf (S := (nA (sR S_478 910 h (some q_425)) q_524 18 3)) (g := 911) (a := h) (v := (some q_524)) (by decide) (rd_sRf (S := S_478) (g := 910) (a := h) (v := (some q_425)) (by decide) hv_504))
  have hv_557 : hR S_528 909 h = (some q_328) := by rw [eS_529]; exact (rd_sRf (S := (nA (sR S_478 910 h (some q_425)) q_524 18 3)) (g := 911) (a := h) (v := (some q_524)) (by decide) (rd_sRf (S := S_478) (g := 910) (a := h) (v := (some q_425)) (by decide) hv_505))
  have hv_558 : hR S_528 910 h = (some q_425) := by rw [eS_529]; exact (rd_sRf (S := (nA (sR S_478 910 h (some q_425)) q_524 18 3)) (g := 911) (a := h) (v := (some q_524)) (by decide) (rd_sR (S := S_478) (g := 910) (a := h) (v := (some q_425))))
  have hv_559 : hR S_528 911 h = (some q_524) := by rw [eS_529]; exact (rd_sR (S := (nA (sR S_478 910 h (some q_425)) q_524 18 3)) (g := 911) (a := h) (v := (some q_524)))
  have hf_560 : Fm (fun _ _ => False) (fun f9 b9 => b9 = h) (fun _ => False) S S_528 := by rw [eS_529]; exact hf_530
  have hN_561 : NL S (L_518 ++ [q_524]) S_528 := by rw [eS_529]; exact (NL.sR (S := (nA (sR S_478 910 h (some q_425)) q_524 18 3)) (show NL S (L_518 ++ [q_524]) (nA (sR S_478 910 h (some q_425)) q_524 18 3) from NL.nA (NL.sR (S := S_478) hN_517) hq_525 hz_527))
  obtain ⟨L_562, eL_563⟩ : ∃ L9 : List Nat, L9 = (L_518 ++ [q_524]) := ⟨_, rfl⟩
  rw [← eL_563] at hN_561
  have hG_564 : Gs h gs_522 S_528 := by rw [eS_529]; exact (Gs.sR (S := (nA (sR S_478 910 h (some q_425)) q_524 18 3)) (show Gs h gs_522 (nA (sR S_478 910 h (some q_425)) q_524 18 3) from Gs.nA (Gs.sR (S := S_478) hG_521) hq_525))
  refine j_newQ (N := 4) C 19 (by decide) rfl klX9_68 (gx_Reading C) (by decide) (by decide) (by decide) (M.cells (by decide)) (M.slots (by decide)) dX9_init_117 (fun q_565 hq_566 => ?_)
  have hz_567 : q_565 ∉ hL S := fun h9 => hq_566 (hf_560.mem h9)
  show J _ _ _ _ _ 120 _
  refine j_putrF (f := 912) C hm9 flX9_70o (by decide) rfl rfl dX9_init_120 (mem_old hm_531) (kd_nA (k := 19) (n := 4) hq_566 hm_531 hk_532) rfl ?_
  refine j_aload_n C dX9_init_123 rfl 0 rfl ?_
  refine j_bipush (v := 12) C dX9_init_124 (by decide) ?_
  have hf_570 : Fm (fun _ _ => False) (fun f9 b9 => b9 = h) (fun _ => False) S (sR (nA S_528 q_565 19 4) 912 h (some q_565)) := ((hf_560.nA _ _ hq_566).sR _ (fun _ => rfl))
  obtain ⟨S_568, eS_569⟩ : ∃ S9 : Hp, S9 = (sR (nA S_528 q_565 19 4) 912 h (some q_565)) := ⟨_, rfl⟩
  refine J.eq (S' := S_568) eS_569.symm rfl rfl ?_
  have hm_571 : h ∈ hL S_568 := by rw [eS_569]; exact (mem_old hm_531)
  have hk_572 : Kd S_568 h 9 := by rw [eS_569]; exact (kd_nA (k := 19) (n := 4) hq_566 hm_531 hk_532)
  have hm_573 : q_161 ∈ hL S_568 := by rw [eS_569]; exact (mem_old hm_533)
  have hk_574 : Kd S_568 q_161 20 := by rw [eS_569]; exact (kd_nA (k := 19) (n := 4) hq_566 hm_533 hk_534)
  have hn_575 : Ln S_568 q_161 16 := by rw [eS_569]; exact (ln_nA (k := 19) hq_566 hm_533 hn_535)
  have hz_576 : ∀ j, aI S_568 q_161 j = 0 := by rw [eS_569]; exact (fun j9 => rd_nAI (k := 19) (n := 4) hq_566 hm_533 (hz_536 j9))
  have hm_577 : q_266 ∈ hL S_568 := by rw [eS_569]; exact (mem_old hm_537)
  have hk_578 : Kd S_568 q_266 13 := by rw [eS_569]; exact (kd_nA (k := 19) (n := 4) hq_566 hm_537 hk_538)
  have hn_579 : Ln S_568 q_266 24000 := by rw [eS_569]; exact (ln_nA (k := 19) hq_566 hm_537 hn_539)
  have hz_580 : ∀ j, aI S_568 q_266 j = 0 := by rw [eS_569]; exact (fun j9 => rd_nAI (k := 19) (n := 4) hq_566 hm_537 (hz_540 j9))
  have hm_581 : q_295 ∈ hL S_568 := by rw [eS_569]; exact (mem_old hm_541)
  have hk_582 : Kd S_568 q_295 14 := by rw [eS_569]; exact (kd_nA (k := 19) (n := 4) hq_566 hm_541 hk_542)
  have hn_583 : Ln S_568 q_295 16 := by rw [eS_569]; exact (ln_nA (k := 19) hq_566 hm_541 hn_543)
  have hz_584 : ∀ j, aI S_568 q_295 j = 0 := by rw [eS_569]; exact (fun j9 => rd_nAI (k := 19) (n := 4) hq_566 hm_541 (hz_544 j9))
  have hm_585 : q_524 ∈ hL S_568 := by rw [eS_569]; exact (mem_old hm_545)
  have hk_586 : Kd S_568 q_524 18 := by rw [eS_569]; exact (kd_nA (k := 19) (n := 4) hq_566 hm_545 hk_546)
  have hn_587 : Ln S_568 q_524 3 := by rw [eS_569]; exact (ln_nA (k := 19) hq_566 hm_545 hn_547)
  have hz_588 : ∀ j, aI S_568 q_524 j = 0 := by rw [eS_569]; exact (fun j9 => rd_nAI (k := 19) (n := 4) hq_566 hm_545 (hz_548 j9))
  have hm_589 : q_565 ∈ hL S_568 := by rw [eS_569]; exact mem_new
  have hk_590 : Kd S_568 q_565 19 := by rw [eS_569]; exact (kd_nA' (k := 19) (n := 4))
  have hn_591 : Ln S_568 q_565 4 := by rw [eS_569]; exact (ln_nA' (k := 19))
  have hz_592 : ∀ j, aI S_568 q_565 j = 0 := by rw [eS_569]; exact (fun j9 => rd_nAI' (k := 19) (n := 4))
  have hv_593 : hR S_568 901 h = (some q_1) := by rw [eS_569]; exact (rd_sRf (S := (nA S_528 q_565 19 4)) (g := 912) (a := h) (v := (some q_565)) (by decide) hv_549)
  have hv_594 : hR S_568 902 h = (some q_41) := by rw [eS_569]; exact (rd_sRf (S := (nA S_528 q_565 19 4)) (g := 912) (a := h) (v := (some q_565)) (by decide) hv_550)
  have hv_595 : hR S_568 903 h = (some q_126) := by rw [eS_569]; exact (rd_sRf (S := (nA S_528 q_565 19 4)) (g := 912) (a := h) (v := (some q_565)) (by decide) hv_551)
  have hv_596 : hR S_568 904 h = (some q_161) := by rw [eS_569]; exact (rd_sRf (S := (nA S_528 q_565 19 4)) (g := 912) (a := h) (v := (some q_565)) (by decide) hv_552)
  have hv_597 : hR S_568 905 h = (some q_183) := by rw [eS_569]; exact (rd_sRf (S := (nA S_528 q_565 19 4)) (g := 912) (a := h) (v := (some q_565)) (by decide) hv_553)
  have hv_598 : hR S_568 906 h = (some q_224) := by rw [eS_569]; exact (rd_sRf (S := (nA S_528 q_565 19 4)) (g := 912) (a := h) (v := (some q_565)) (by decide) hv_554)
  have hv_599 : hR S_568 907 h = (some q_266) := by rw [eS_569]; exact (rd_sRf (S := (nA S_528 q_565 19 4)) (g := 912) (a := h) (v := (some q_565)) (by decide) hv_555)
  have hv_600 : hR S_568 908 h = (some q_295) := by rw [eS_569]; exact (rd_sRf (S := (nA S_528 q_565 19 4)) (g := 912) (a := h) (v := (some q_565)) (by decide) hv_556)
  have hv_601 : hR S_568 909 h = (some q_328) := by rw [eS_569]; exact (rd_sRf (S := (nA S_528 q_565 19 4)) (g := 912) (a := h) (v := (some q_565)) (by decide) hv_557)
  have hv_602 : hR S_568 910 h = (some q_425) := by rw [eS_569]; exact (rd_sRf (S := (nA S_528 q_565 19 4)) (g := 912) (a := h) (v := (some q_565)) (by decide) hv_558)
  have hv_603 : hR S_568 911 h = (some q_524) := by rw [eS_569]; exact (rd_sRf (S := (nA S_528 q_565 19 4)) (g := 912) (a := h) (v := (some q_565)) (by decide) hv_559)
  have hv_604 : hR S_568 912 h = (some q_565) := by rw [eS_569]; exact (rd_sR (S := (nA S_528 q_565 19 4)) (g := 912) (a := h) (v := (some q_565)))
  have hf_605 : Fm (fun _ _ => False) (fun f9 b9 => b9 = h) (fun _ => False) S S_568 := by rw [eS_569]; exact hf_570
  have hN_606 : NL S (L_562 ++ [q_565]) S_568 := by rw [eS_569]; exact (NL.sR (S := (nA S_528 q_565 19 4)) (show NL S (L_562 ++ [q_565]) (nA S_528 q_565 19 4) from NL.nA hN_561 hq_566 hz_567))
  obtain ⟨L_607, eL_608⟩ : ∃ L9 : List Nat, L9 = (L_562 ++ [q_565]) := ⟨_, rfl⟩
  rw [← eL_608] at hN_606
  have hG_609 : Gs h gs_522 S_568 := by rw [eS_569]; exact (Gs.sR (S := (nA S_528 q_565 19 4)) (show Gs h gs_522 (nA S_528 q_565 19 4) from Gs.nA hG_564 hq_566))
  refine j_newI (N := 12) C ka_int (by decide) (by decide) (Nat.le_of_ble_eq_true rfl) (M.cells (by decide)) (M.slots (Nat.le_of_ble_eq_true rfl)) dX9_init_126 (fun q_610 hq_611 => ?_)
  have hz_612 : q_610 ∉ hL S := fun h9 => hq_611 (hf_605.mem h9)
  refine j_putrF (f := 917) C hm9 flX9_74o (by decide) rfl rfl dX9_init_128 (mem_old hm_571) (kd_nA (k := 14) (n := 12) hq_611 hm_571 hk_572) rfl ?_
  refine j_aload_n C dX9_init_131 rfl 0 rfl ?_
  refine j_aload_n C dX9_init_132 rfl 1 rfl ?_
  refine j_putrF (f := 900) C hm9 flX9_77o (by decide) rfl rfl dX9_init_133 (mem_old hm_571) (kd_nA (k := 14) (n := 12) hq_611 hm_571 hk_572) rfl ?_
  show J _ _ _ _ _ 136 _
  refine j_iconst (v := 0) C dX9_init_136 (by decide) ?_
  refine j_istore_n (lv' := [(2, .int 0), (0, .ref h), (1, .ref s0)]) C dX9_init_137 rfl (by rw [hn9]; decide) rfl ?_
  refine j_iload_n C dX9_init_138 rfl 0 rfl ?_
  refine j_aload_n C dX9_init_139 rfl 1 rfl ?_
  refine j_getr (f := 904) (v := q_161) C flX9_34 dX9_init_140 (mem_old hm_571) (kd_nA (k := 14) (n := 12) hq_611 hm_571 hk_572) (by decide) rfl (rd_sRf (S := (sR (nA S_568 q_610 14 12) 917 h (some q_610))) (g := 900) (a := h) (v := (some s0)) (by decide) (rd_sRf (S := (nA S_568 q_610 14 12)) (g := 917) (a := h) (v := (some q_610)) (by decide) hv_596)) ?_
  refine j_alen (v := 16) C dX9_init_143 (mem_old hm_573) (kd_nA (k := 14) (n := 12) hq_611 hm_573 hk_574) (by decide) (by decide) (len_of (n := 16) (ln_nA (k := 14) hq_611 hm_573 hn_575) (by decide)) ?_
  refine j_ic_ge (tgt := 166) C dX9_init_144 (by decide) (fun c9 => absurd c9 (by decide)) (fun c9 => ?_)
  refine j_aload_n C dX9_init_147 rfl 1 rfl ?_
  show J _ _ _ _ _ 148 _
  refine j_getr (f := 904) (v := q_161) C flX9_34 dX9_init_148 (mem_old hm_571) (kd_nA (k := 14) (n := 12) hq_611 hm_571 hk_572) (by decide) rfl (rd_sRf (S := (sR (nA S_568 q_610 14 12) 917 h (some q_610))) (g := 900) (a := h) (v := (some s0)) (by decide) (rd_sRf (S := (nA S_568 q_610 14 12)) (g := 917) (a := h) (v := (some q_610)) (by decide) hv_596)) ?_
  refine j_iload_n C dX9_init_151 rfl 0 rfl ?_
  have hf_615 : Fm (fun _ _ => False) (fun f9 b9 => b9 = h) (fun _ => False) S (sR (sR (nA S_568 q_610 14 12) 917 h (some q_610)) 900 h (some s0)) := (((hf_605.nA _ _ hq_611).sR _ (fun _ => rfl)).sR _ (fun _ => rfl))
  obtain ⟨S_613, eS_614⟩ : ∃ S9 : Hp, S9 = (sR (sR (nA S_568 q_610 14 12) 917 h (some q_610)) 900 h (some s0)) := ⟨_, rfl⟩
  refine J.eq (S' := S_613) eS_614.symm rfl rfl ?_
  have hm_616 : h ∈ hL S_613 := by rw [eS_614]; exact (mem_old hm_571)
  have hk_617 : Kd S_613 h 9 := by rw [eS_614]; exact (kd_nA (k := 14) (n := 12) hq_611 hm_571 hk_572)
  have hm_618 : q_161 ∈ hL S_613 := by rw [eS_614]; exact (mem_old hm_573)
  have hk_619 : Kd S_613 q_161 20 := by rw [eS_614]; exact (kd_nA (k := 14) (n := 12) hq_611 hm_573 hk_574)
  have hn_620 : Ln S_613 q_161 16 := by rw [eS_614]; exact (ln_nA (k := 14) hq_611 hm_573 hn_575)
  have hz_621 : ∀ j, aI S_613 q_161 j = 0 := by rw [eS_614]; exact (fun j9 => rd_nAI (k := 14) (n := 12) hq_611 hm_573 (hz_576 j9))
  have hm_622 : q_266 ∈ hL S_613 := by rw [eS_614]; exact (mem_old hm_577)
  have hk_623 : Kd S_613 q_266 13 := by rw [eS_614]; exact (kd_nA (k := 14) (n := 12) hq_611 hm_577 hk_578)
  have hn_624 : Ln S_613 q_266 24000 := by rw [eS_614]; exact (ln_nA (k := 14) hq_611 hm_577 hn_579)
  have hz_625 : ∀ j, aI S_613 q_266 j = 0 := by rw [eS_614]; exact (fun j9 => rd_nAI (k := 14) (n := 12) hq_611 hm_577 (hz_580 j9))
  have hm_626 : q_295 ∈ hL S_613 := by rw [eS_614]; exact (mem_old hm_581)
  have hk_627 : Kd S_613 q_295 14 := by rw [eS_614]; exact (kd_nA (k := 14) (n := 12) hq_611 hm_581 hk_582)
  have hn_628 : Ln S_613 q_295 16 := by rw [eS_614]; exact (ln_nA (k := 14) hq_611 hm_581 hn_583)
  have hz_629 : ∀ j, aI S_613 q_295 j = 0 := by rw [eS_614]; exact (fun j9 => rd_nAI (k := 14) (n := 12) hq_611 hm_581 (hz_584 j9))
  have hm_630 : q_524 ∈ hL S_613 := by rw [eS_614]; exact (mem_old hm_585)
  have hk_631 : Kd S_613 q_524 18 := by rw [eS_614]; exact (kd_nA (k := 14) (n := 12) hq_611 hm_585 hk_586)
  have hn_632 : Ln S_613 q_524 3 := by rw [eS_614]; exact (ln_nA (k := 14) hq_611 hm_585 hn_587)
  have hz_633 : ∀ j, aI S_613 q_524 j = 0 := by rw [eS_614]; exact (fun j9 => rd_nAI (k := 14) (n := 12) hq_611 hm_585 (hz_588 j9))
  have hm_634 : q_565 ∈ hL S_613 := by rw [eS_614]; exact (mem_old hm_589)
  have hk_635 : Kd S_613 q_565 19 := by rw [eS_614]; exact (kd_nA (k := 14) (n := 12) hq_611 hm_589 hk_590)
  have hn_636 : Ln S_613 q_565 4 := by rw [eS_614]; exact (ln_nA (k := 14) hq_611 hm_589 hn_591)
  have hz_637 : ∀ j, aI S_613 q_565 j = 0 := by rw [eS_614]; exact (fun j9 => rd_nAI (k := 14) (n := 12) hq_611 hm_589 (hz_592 j9))
  have hm_638 : q_610 ∈ hL S_613 := by rw [eS_614]; exact mem_new
  have hk_639 : Kd S_613 q_610 14 := by rw [eS_614]; exact (kd_nA' (k := 14) (n := 12))
  have hn_640 : Ln S_613 q_610 12 := by rw [eS_614]; exact (ln_nA' (k := 14))
  have hz_641 : ∀ j, aI S_613 q_610 j = 0 := by rw [eS_614]; exact (fun j9 => rd_nAI' (k := 14) (n := 12))
  have hv_642 : hR S_613 900 h = (some s0) := by rw [eS_614]; exact (rd_sR (S := (sR (nA S_568 q_610 14 12) 917 h (some q_610))) (g := 900) (a := h) (v := (some s0)))
  have hv_643 : hR S_613 901 h = (some q_1) := by rw [eS_614]; exact (rd_sRf (S := (sR (nA S_568 q_610 14 12) 917 h (some q_610))) (g := 900) (a := h) (v := (some s0)) (by decide) (rd_sRf (S := (nA S_568 q_610 14 12)) (g := 917) (a := h) (v := (some q_610)) (by decide) hv_593))
  have hv_644 : hR S_613 902 h = (some q_41) := by rw [eS_614]; exact (rd_sRf (S := (sR (nA S_568 q_610 14 12) 917 h (some q_610))) (g := 900) (a := h) (v := (some s0)) (by decide) (rd_sRf (S := (nA S_568 q_610 14 12)) (g := 917) (a := h) (v := (some q_610)) (by decide) hv_594))
  have hv_645 : hR S_613 903 h = (some q_126) := by rw [eS_614]; exact (rd_sRf (S := (sR (nA S_568 q_610 14 12) 917 h (some q_610))) (g := 900) (a := h) (v := (some s0)) (by decide) (rd_sRf (S := (nA S_568 q_610 14 12)) (g := 917) (a := h) (v := (some q_610)) (by decide) hv_595))
  have hv_646 : hR S_613 904 h = (some q_161) := by rw [eS_614]; exact (rd_sRf (S := (sR (nA S_568 q_610 14 12) 917 h (some q_610))) (g := 900) (a := h) (v := (some s0)) (by decide) (rd_sRf (S := (nA S_568 q_610 14 12)) (g := 917) (a := h) (v := (some q_610)) (by decide) hv_596))
  have hv_647 : hR S_613 905 h = (some q_183) := by rw [eS_614]; exact (rd_sRf (S := (sR (nA S_568 q_610 14 12) 917 h (some q_610))) (g := 900) (a := h) (v := (some s0)) (by decide) (rd_sRf (S := (nA S_568 q_610 14 12)) (g := 917) (a := h) (v := (some q_610)) (by decide) hv_597))
  have hv_648 : hR S_613 906 h = (some q_224) := by rw [eS_614]; exact (rd_sRf (S := (sR (nA S_568 q_610 14 12) 917 h (some q_610))) (g := 900) (a := h) (v := (some s0)) (by decide) (rd_sRf (S := (nA S_568 q_610 14 12)) (g := 917) (a := h) (v := (some q_610)) (by decide) hv_598))
  have hv_649 : hR S_613 907 h = (some q_266) := by rw [eS_614]; exact (rd_sRf (S := (sR (nA S_568 q_610 14 12) 917 h (some q_610))) (g := 900) (a := h) (v := (some s0)) (by decide) (rd_sRf (S := (nA S_568 q_610 14 12)) (g := 917) (a := h) (v := (some q_610)) (by decide) hv_599))
  have hv_650 : hR S_613 908 h = (some q_295) := by rw [eS_614]; exact (rd_sRf (S := (sR (nA S_568 q_610 14 12) 917 h (some q_610))) (g := 900) (a := h) (v := (some s0)) (by decide) (rd_sRf (S := (nA S_568 q_610 14 12)) (g := 917) (a := h) (v := (some q_610)) (by decide) hv_600))
  have hv_651 : hR S_613 909 h = (some q_328) := by rw [eS_614]; exact (rd_sRf (S := (sR (nA S_568 q_610 14 12) 917 h (some q_610))) (g := 900) (a := h) (v := (some s0)) (by decide) (rd_sRf (S := (nA S_568 q_610 14 12)) (g := 917) (a := h) (v := (some q_610)) (by decide) hv_601))
  have hv_652 : hR S_613 910 h = (some q_425) := by rw [eS_614]; exact (rd_sRf (S := (sR (nA S_568 q_610 14 12) 917 h (some q_610))) (g := 900) (a := h) (v := (some s0)) (by decide) (rd_sRf (S := (nA S_568 q_610 14 12)) (g := 917) (a := h) (v := (some q_610)) (by decide) hv_602))
  have hv_653 : hR S_613 911 h = (some q_524) := by rw [eS_614]; exact (rd_sRf (S := (sR (nA S_568 q_610 14 12) 917 h (some q_610))) (g := 900) (a := h) (v := (some s0)) (by decide) (rd_sRf (S := (nA S_568 q_610 14 12)) (g := 917) (a := h) (v := (some q_610)) (by decide) hv_603))
  have hv_654 : hR S_613 912 h = (some q_565) := by rw [eS_614]; exact (rd_sRf (S := (sR (nA S_568 q_610 14 12) 917 h (some q_610))) (g := 900) (a := h) (v := (some s0)) (by decide) (rd_sRf (S := (nA S_568 q_610 14 12)) (g := 917) (a := h) (v := (some q_610)) (by decide) hv_604))
  have hv_655 : hR S_613 917 h = (some q_610) := by rw [eS_614]; exact (rd_sRf (S := (sR (nA S_568 q_610 14 12) 917 h (some q_610))) (g := 900) (a := h) (v := (some s0)) (by decide) (rd_sR (S := (nA S_568 q_610 14 12)) (g := 917) (a := h) (v := (some q_610))))
  have hf_656 : Fm (fun _ _ => False) (fun f9 b9 => b9 = h) (fun _ => False) S S_613 := by rw [eS_614]; exact hf_615
  have hN_657 : NL S (L_607 ++ [q_610]) S_613 := by rw [eS_614]; exact (NL.sR (S := (sR (nA S_568 q_610 14 12) 917 h (some q_610))) (NL.sR (S := (nA S_568 q_610 14 12)) (show NL S (L_607 ++ [q_610]) (nA S_568 q_610 14 12) from NL.nA hN_606 hq_611 hz_612)))
  obtain ⟨L_658, eL_659⟩ : ∃ L9 : List Nat, L9 = (L_607 ++ [q_610]) := ⟨_, rfl⟩
  rw [← eL_659] at hN_657
  have hG_660 : Gs h gs_522 S_613 := by rw [eS_614]; exact (Gs.sR (S := (sR (nA S_568 q_610 14 12) 917 h (some q_610))) (Gs.sR (S := (nA S_568 q_610 14 12)) (show Gs h gs_522 (nA S_568 q_610 14 12) from Gs.nA hG_609 hq_611)))
  refine j_new (N := 4) C (ci := 10) rfl rfl klX9_32 knX10 kiX10 (M.cells (by decide)) (M.slots (by decide)) dX9_init_152 (fun q_661 hq_662 => ?_)
  have hz_663 : q_661 ∉ hL S := fun h9 => hq_662 (hf_656.mem h9)
  have gn_664 : ∀ g9 ∈ gs_522, ∀ p9 ∈ (gT g9.1).2.2, g9.2.getD p9.2.1 0 ≠ q_661 := Gs.ne hG_660 hq_662
  refine j_dup C dX9_init_155 rfl ?_
  have hf_665 : Fm (fun _ _ => False) (fun f9 b9 => b9 = h) (fun _ => False) S (nO S_613 q_661 10) := (hf_656.nO _ hq_662)
  refine j_callI C [] [.ref q_661, .int 0, .ref q_161] mlX9_38 mcX10_init (c_X10_init (nO S_613 q_661 10) q_661 mem_new (kd_nO' (k := 10))) (M.rm (by decide) (by decide) (Nat.le_of_ble_eq_true rfl) (Nat.le_of_ble_eq_true rfl)) rfl rfl (Nat.le_of_ble_eq_true rfl) dX9_init_156 (fun r_675 S_676 hp_677 => ?_)
  obtain ⟨rfl, hf_678, e_667, e_668, q_666, e_669, e_670, e_671, e_672, e_673, hNl_674⟩ := hp_677
  refine J.eq (st' := [.ref q_661, .int 0, .ref q_161]) rfl rfl rfl ?_
  have hz_679 : ∀ j, aI S_676 q_161 j = 0 := fun j9 => (hf_678.ai (mem_old hm_618) (fun h9 => h9) j9).trans (hz_621 j9)
  have hz_680 : ∀ j, aI S_676 q_266 j = 0 := fun j9 => (hf_678.ai (mem_old hm_622) (fun h9 => h9) j9).trans (hz_625 j9)
  have hz_681 : ∀ j, aI S_676 q_295 j = 0 := fun j9 => (hf_678.ai (mem_old hm_626) (fun h9 => h9) j9).trans (hz_629 j9)
  have hz_682 : ∀ j, aI S_676 q_524 j = 0 := fun j9 => (hf_678.ai (mem_old hm_630) (fun h9 => h9) j9).trans (hz_633 j9)
  have hz_683 : ∀ j, aI S_676 q_565 j = 0 := fun j9 => (hf_678.ai (mem_old hm_634) (fun h9 => h9) j9).trans (hz_637 j9)
  have hz_684 : ∀ j, aI S_676 q_610 j = 0 := fun j9 => (hf_678.ai (mem_old hm_638) (fun h9 => h9) j9).trans (hz_641 j9)
  have hm_685 : h ∈ hL S_676 := hf_678.mem (mem_old hm_616)
  have hk_686 : Kd S_676 h 9 := hf_678.kd (mem_old hm_616) (kd_nO (k := 10) hq_662 hm_616 hk_617)
  have hm_687 : q_161 ∈ hL S_676 := hf_678.mem (mem_old hm_618)
  have hk_688 : Kd S_676 q_161 20 := hf_678.kd (mem_old hm_618) (kd_nO (k := 10) hq_662 hm_618 hk_619)
  have hn_689 : Ln S_676 q_161 16 := hf_678.ln (mem_old hm_618) hn_620
  have hm_690 : q_266 ∈ hL S_676 := hf_678.mem (mem_old hm_622)
  have hk_691 : Kd S_676 q_266 13 := hf_678.kd (mem_old hm_622) (kd_nO (k := 10) hq_662 hm_622 hk_623)
  have hn_692 : Ln S_676 q_266 24000 := hf_678.ln (mem_old hm_622) hn_624
  have hm_693 : q_295 ∈ hL S_676 := hf_678.mem (mem_old hm_626)
  have hk_694 : Kd S_676 q_295 14 := hf_678.kd (mem_old hm_626) (kd_nO (k := 10) hq_662 hm_626 hk_627)
  have hn_695 : Ln S_676 q_295 16 := hf_678.ln (mem_old hm_626) hn_628
  have hm_696 : q_524 ∈ hL S_676 := hf_678.mem (mem_old hm_630)
  have hk_697 : Kd S_676 q_524 18 := hf_678.kd (mem_old hm_630) (kd_nO (k := 10) hq_662 hm_630 hk_631)
  have hn_698 : Ln S_676 q_524 3 := hf_678.ln (mem_old hm_630) hn_632
  have hm_699 : q_565 ∈ hL S_676 := hf_678.mem (mem_old hm_634)
  have hk_700 : Kd S_676 q_565 19 := hf_678.kd (mem_old hm_634) (kd_nO (k := 10) hq_662 hm_634 hk_635)
  have hn_701 : Ln S_676 q_565 4 := hf_678.ln (mem_old hm_634) hn_636
  have hm_702 : q_610 ∈ hL S_676 := hf_678.mem (mem_old hm_638)
  have hk_703 : Kd S_676 q_610 14 := hf_678.kd (mem_old hm_638) (kd_nO (k := 10) hq_662 hm_638 hk_639)
  have hn_704 : Ln S_676 q_610 12 := hf_678.ln (mem_old hm_638) hn_640
  have hm_705 : q_661 ∈ hL S_676 := hf_678.mem mem_new
  have hk_706 : Kd S_676 q_661 10 := hf_678.kd mem_new (kd_nO' (k := 10))
  have hv_707 : hR S_676 900 h = (some s0) := hf_678.fr (mem_old hm_616) (fun q9 => (fun e9 => absurd (((kd_nO (k := 10) hq_662 hm_616 hk_617)).symm.trans ((congrArg (hK _) e9).trans (kd_nO' (k := 10)))) (by decide)) q9) (rd_nOR (k := 10) hq_662 hm_616 hv_642)
  have hv_708 : hR S_676 901 h = (some q_1) := hf_678.fr (mem_old hm_616) (fun q9 => (fun e9 => absurd (((kd_nO (k := 10) hq_662 hm_616 hk_617)).symm.trans ((congrArg (hK _) e9).trans (kd_nO' (k := 10)))) (by decide)) q9) (rd_nOR (k := 10) hq_662 hm_616 hv_643)
  have hv_709 : hR S_676 902 h = (some q_41) := hf_678.fr (mem_old hm_616) (fun q9 => (fun e9 => absurd (((kd_nO (k := 10) hq_662 hm_616 hk_617)).symm.trans ((congrArg (hK _) e9).trans (kd_nO' (k := 10)))) (by decide)) q9) (rd_nOR (k := 10) hq_662 hm_616 hv_644)
  have hv_710 : hR S_676 903 h = (some q_126) := hf_678.fr (mem_old hm_616) (fun q9 => (fun e9 => absurd (((kd_nO (k := 10) hq_662 hm_616 hk_617)).symm.trans ((congrArg (hK _) e9).trans (kd_nO' (k := 10)))) (by decide)) q9) (rd_nOR (k := 10) hq_662 hm_616 hv_645)
  have hv_711 : hR S_676 904 h = (some q_161) := hf_678.fr (mem_old hm_616) (fun q9 => (fun e9 => absurd (((kd_nO (k := 10) hq_662 hm_616 hk_617)).symm.trans ((congrArg (hK _) e9).trans (kd_nO' (k := 10)))) (by decide)) q9) (rd_nOR (k := 10) hq_662 hm_616 hv_646)
  have hv_712 : hR S_676 905 h = (some q_183) := hf_678.fr (mem_old hm_616) (fun q9 => (fun e9 => absurd (((kd_nO (k := 10) hq_662 hm_616 hk_617)).symm.trans ((congrArg (hK _) e9).trans (kd_nO' (k := 10)))) (by decide)) q9) (rd_nOR (k := 10) hq_662 hm_616 hv_647)
  have hv_713 : hR S_676 906 h = (some q_224) := hf_678.fr (mem_old hm_616) (fun q9 => (fun e9 => absurd (((kd_nO (k := 10) hq_662 hm_616 hk_617)).symm.trans ((congrArg (hK _) e9).trans (kd_nO' (k := 10)))) (by decide)) q9) (rd_nOR (k := 10) hq_662 hm_616 hv_648)
  have hv_714 : hR S_676 907 h = (some q_266) := hf_678.fr (mem_old hm_616) (fun q9 => (fun e9 => absurd (((kd_nO (k := 10) hq_662 hm_616 hk_617)).symm.trans ((congrArg (hK _) e9).trans (kd_nO' (k := 10)))) (by decide)) q9) (rd_nOR (k := 10) hq_662 hm_616 hv_649)
  have hv_715 : hR S_676 908 h = (some q_295) := hf_678.fr (mem_old hm_616) (fun q9 => (fun e9 => absurd (((kd_nO (k := 10) hq_662 hm_616 hk_617)).symm.trans ((congrArg (hK _) e9).trans (kd_nO' (k := 10)))) (by decide)) q9) (rd_nOR (k := 10) hq_662 hm_616 hv_650)
  have hv_716 : hR S_676 909 h = (some q_328) := hf_678.fr (mem_old hm_616) (fun q9 => (fun e9 => absurd (((kd_nO (k := 10) hq_662 hm_616 hk_617)).symm.trans ((congrArg (hK _) e9).trans (kd_nO' (k := 10)))) (by decide)) q9) (rd_nOR (k := 10) hq_662 hm_616 hv_651)
  have hv_717 : hR S_676 910 h = (some q_425) := hf_678.fr (mem_old hm_616) (fun q9 => (fun e9 => absurd (((kd_nO (k := 10) hq_662 hm_616 hk_617)).symm.trans ((congrArg (hK _) e9).trans (kd_nO' (k := 10)))) (by decide)) q9) (rd_nOR (k := 10) hq_662 hm_616 hv_652)
  have hv_718 : hR S_676 911 h = (some q_524) := hf_678.fr (mem_old hm_616) (fun q9 => (fun e9 => absurd (((kd_nO (k := 10) hq_662 hm_616 hk_617)).symm.trans ((congrArg (hK _) e9).trans (kd_nO' (k := 10)))) (by decide)) q9) (rd_nOR (k := 10) hq_662 hm_616 hv_653)
  have hv_719 : hR S_676 912 h = (some q_565) := hf_678.fr (mem_old hm_616) (fun q9 => (fun e9 => absurd (((kd_nO (k := 10) hq_662 hm_616 hk_617)).symm.trans ((congrArg (hK _) e9).trans (kd_nO' (k := 10)))) (by decide)) q9) (rd_nOR (k := 10) hq_662 hm_616 hv_654)
  have hv_720 : hR S_676 917 h = (some q_610) := hf_678.fr (mem_old hm_616) (fun q9 => (fun e9 => absurd (((kd_nO (k := 10) hq_662 hm_616 hk_617)).symm.trans ((congrArg (hK _) e9).trans (kd_nO' (k := 10)))) (by decide)) q9) (rd_nOR (k := 10) hq_662 hm_616 hv_655)
  have hf_721 : Fm (fun _ _ => False) (fun f9 b9 => b9 = h) (fun _ => False) S S_676 := hf_665.then hf_678 (fun a9 ha9 => ⟨(fun f9 h9 => (fun h9 => h9.elim (fun h8 => absurd (h8.2 ▸ ha9) hz_663) (fun h8 => absurd (h8.2 ▸ ha9) hz_663)) h9), (fun f9 h9 => (fun h8 => absurd (h8 ▸ ha9) hz_663) h9), (fun h9 => h9.elim)⟩)
  have hN_722 : NL S (L_658 ++ [q_661]) S_676 := NL.mono (show NL S (L_658 ++ [q_661]) (nO S_613 q_661 10) from NL.nO hN_657 hq_662 hz_663) (fun a9 h9 => hf_678.mem h9)
  have hG_723 : Gs h gs_522 S_676 := Gs.fm (show Gs h gs_522 (nO S_613 q_661 10) from Gs.nO hG_660 hq_662) hf_678 (fun g9 hg9 p9 hp9 => gn_664 g9 hg9 p9 hp9)
  have hz_724 : q_666 ∉ hL S := fun h9 => e_669 (hf_665.mem h9)
  have hN_725 : NL S ((L_658 ++ [q_661]) ++ [q_666]) S_676 := NL.app (show NL S (L_658 ++ [q_661]) (nO S_613 q_661 10) from NL.nO hN_657 hq_662 hz_663) hNl_674 (fun a9 h9 => hf_678.mem h9) (fun a9 h9 => hf_665.mem h9)
  obtain ⟨L_726, eL_727⟩ : ∃ L9 : List Nat, L9 = ((L_658 ++ [q_661]) ++ [q_666]) := ⟨_, rfl⟩
  rw [← eL_727] at hN_725
  have hGt_728 : Gt 1 [q_661, q_666] S_676 := ⟨fun i9 k9 h9 => (match i9, h9 with | 0, h9 => (by have e9 : (10 : Nat) = k9 := Option.some.inj h9; subst e9; exact ⟨hm_705, hk_706⟩) | 1, h9 => (by have e9 : (15 : Nat) = k9 := Option.some.inj h9; subst e9; exact ⟨e_670, e_671⟩) | i9 + 2, h9 => absurd h9 (by simp [gT])), (List.forall_mem_cons.mpr ⟨e_672, (fun _ h9 => absurd h9 List.not_mem_nil)⟩), (List.forall_mem_cons.mpr ⟨e_673, (fun _ h9 => absurd h9 List.not_mem_nil)⟩), (fun _ h9 => absurd h9 List.not_mem_nil)⟩
  have hG_729 : Gs h (gs_522 ++ [(1, [q_661, q_666])]) S_676 := Gs.snoc hG_723 (by decide) hGt_728 (List.forall_mem_cons.mpr ⟨(own_ne hz_663 hm), (fun _ h9 => absurd h9 List.not_mem_nil)⟩)
  obtain ⟨gs_730, eG_731⟩ : ∃ G9 : List (Nat × List Nat), G9 = gs_522 ++ [(1, [q_661, q_666])] := ⟨_, rfl⟩
  rw [← eG_731] at hG_729
  refine j_aast (j := 0) (ci := 10) C 20  (by decide) rfl dX9_init_159 hm_687 hk_688 (inr_of (n := 16) hn_689 (vp_lit (by decide))) (by decide) hm_705 hk_706 rfl ?_
  have hf_734 : Fm (fun _ _ => False) (fun f9 b9 => b9 = h) (fun _ => False) S (tR S_676 q_161 0 (some q_661)) := (hf_721.tR _ _ (fun h9 => absurd h9 hz_164))
  obtain ⟨S_732, eS_733⟩ : ∃ S9 : Hp, S9 = (tR S_676 q_161 0 (some q_661)) := ⟨_, rfl⟩
  refine J.eq (S' := S_732) eS_733.symm rfl rfl ?_
  have hm_735 : h ∈ hL S_732 := by rw [eS_733]; exact hm_685
  have hk_736 : Kd S_732 h 9 := by rw [eS_733]; exact hk_686
  have hm_737 : q_161 ∈ hL S_732 := by rw [eS_733]; exact hm_687
  have hk_738 : Kd S_732 q_161 20 := by rw [eS_733]; exact hk_688
  have hn_739 : Ln S_732 q_161 16 := by rw [eS_733]; exact hn_689
  have hz_740 : ∀ j, aI S_732 q_161 j = 0 := by rw [eS_733]; exact hz_679
  have hm_741 : q_266 ∈ hL S_732 := by rw [eS_733]; exact hm_690
  have hk_742 : Kd S_732 q_266 13 := by rw [eS_733]; exact hk_691
  have hn_743 : Ln S_732 q_266 24000 := by rw [eS_733]; exact hn_692
  have hz_744 : ∀ j, aI S_732 q_266 j = 0 := by rw [eS_733]; exact hz_680
  have hm_745 : q_295 ∈ hL S_732 := by rw [eS_733]; exact hm_693
  have hk_746 : Kd S_732 q_295 14 := by rw [eS_733]; exact hk_694
  have hn_747 : Ln S_732 q_295 16 := by rw [eS_733]; exact hn_695
  have hz_748 : ∀ j, aI S_732 q_295 j = 0 := by rw [eS_733]; exact hz_681
  have hm_749 : q_524 ∈ hL S_732 := by rw [eS_733]; exact hm_696
  have hk_750 : Kd S_732 q_524 18 := by rw [eS_733]; exact hk_697
  have hn_751 : Ln S_732 q_524 3 := by rw [eS_733]; exact hn_698
  have hz_752 : ∀ j, aI S_732 q_524 j = 0 := by rw [eS_733]; exact hz_682
  have hm_753 : q_565 ∈ hL S_732 := by rw [eS_733]; exact hm_699
  have hk_754 : Kd S_732 q_565 19 := by rw [eS_733]; exact hk_700
  have hn_755 : Ln S_732 q_565 4 := by rw [eS_733]; exact hn_701
  have hz_756 : ∀ j, aI S_732 q_565 j = 0 := by rw [eS_733]; exact hz_683
  have hm_757 : q_610 ∈ hL S_732 := by rw [eS_733]; exact hm_702
  have hk_758 : Kd S_732 q_610 14 := by rw [eS_733]; exact hk_703
  have hn_759 : Ln S_732 q_610 12 := by rw [eS_733]; exact hn_704
  have hz_760 : ∀ j, aI S_732 q_610 j = 0 := by rw [eS_733]; exact hz_684
  have hm_761 : q_661 ∈ hL S_732 := by rw [eS_733]; exact hm_705
  have hk_762 : Kd S_732 q_661 10 := by rw [eS_733]; exact hk_706
  have hv_763 : hI S_732 1000 q_661 = 1 := by rw [eS_733]; exact e_667
  have hv_764 : hI S_732 1001 q_661 = 1 := by rw [eS_733]; exact e_668
  have hv_765 : hR S_732 1003 q_661 = (some q_666) := by rw [eS_733]; exact e_673
  have hv_766 : hR S_732 900 h = (some s0) := by rw [eS_733]; exact hv_707
  have hv_767 : hR S_732 901 h = (some q_1) := by rw [eS_733]; exact hv_708
  have hv_768 : hR S_732 902 h = (some q_41) := by rw [eS_733]; exact hv_709
  have hv_769 : hR S_732 903 h = (some q_126) := by rw [eS_733]; exact hv_710
  have hv_770 : hR S_732 904 h = (some q_161) := by rw [eS_733]; exact hv_711
  have hv_771 : hR S_732 905 h = (some q_183) := by rw [eS_733]; exact hv_712
  have hv_772 : hR S_732 906 h = (some q_224) := by rw [eS_733]; exact hv_713
  have hv_773 : hR S_732 907 h = (some q_266) := by rw [eS_733]; exact hv_714
  have hv_774 : hR S_732 908 h = (some q_295) := by rw [eS_733]; exact hv_715
  have hv_775 : hR S_732 909 h = (some q_328) := by rw [eS_733]; exact hv_716
  have hv_776 : hR S_732 910 h = (some q_425) := by rw [eS_733]; exact hv_717
  have hv_777 : hR S_732 911 h = (some q_524) := by rw [eS_733]; exact hv_718
  have hv_778 : hR S_732 912 h = (some q_565) := by rw [eS_733]; exact hv_719
  have hv_779 : hR S_732 917 h = (some q_610) := by rw [eS_733]; exact hv_720
  have hf_780 : Fm (fun _ _ => False) (fun f9 b9 => b9 = h) (fun _ => False) S S_732 := by rw [eS_733]; exact hf_734
  have hN_781 : NL S L_726 S_732 := by rw [eS_733]; exact (NL.tR (S := S_676) hN_725)
  have hG_782 : Gs h gs_730 S_732 := by rw [eS_733]; exact (Gs.tR (S := S_676) hG_729)
  have hE_783 : ELs S_732 q_161 [q_661] := by rw [eS_733]; exact (show ELs (tR S_676 q_161 0 (some q_661)) q_161 [q_661] from ELs.snoc (ELs.nil (S := S_676) (a := q_161)) rfl)
  refine j_iinc (q := 0) (v := 1) (lv' := [(2, .int 1), (0, .ref h), (1, .ref s0)]) C dX9_init_160 rfl (by decide) (by rw [hn9]; decide) rfl ?_
  refine j_goto (tgt := 138) C dX9_init_163 (by decide) ?_
  show J _ _ _ _ _ 138 _
  refine j_iload_n C dX9_init_138 rfl 0 rfl ?_
  refine j_aload_n C dX9_init_139 rfl 1 rfl ?_
  refine j_getr (f := 904) (v := q_161) C flX9_34 dX9_init_140 hm_735 hk_736 (by decide) rfl hv_770 ?_
  refine j_alen (v := 16) C dX9_init_143 hm_737 hk_738 (by decide) (by decide) (len_of (n := 16) hn_739 (by decide)) ?_
  refine j_ic_ge (tgt := 166) C dX9_init_144 (by decide) (fun c9 => absurd c9 (by decide)) (fun c9 => ?_)
  refine j_aload_n C dX9_init_147 rfl 1 rfl ?_
  refine j_getr (f := 904) (v := q_161) C flX9_34 dX9_init_148 hm_735 hk_736 (by decide) rfl hv_770 ?_
  refine j_iload_n C dX9_init_151 rfl 0 rfl ?_
  show J _ _ _ _ _ 152 _
  refine j_new (N := 4) C (ci := 10) rfl rfl klX9_32 knX10 kiX10 (M.cells (by decide)) (M.slots (by decide)) dX9_init_152 (fun q_784 hq_785 => ?_)
  have hz_786 : q_784 ∉ hL S := fun h9 => hq_785 (hf_780.mem h9)
  have gn_787 : ∀ g9 ∈ gs_730, ∀ p9 ∈ (gT g9.1).2.2, g9.2.getD p9.2.1 0 ≠ q_784 := Gs.ne hG_782 hq_785
  refine j_dup C dX9_init_155 rfl ?_
  have hf_788 : Fm (fun _ _ => False) (fun f9 b9 => b9 = h) (fun _ => False) S (nO S_732 q_784 10) := (hf_780.nO _ hq_785)
  refine j_callI C [] [.ref q_784, .int 1, .ref q_161] mlX9_38 mcX10_init (c_X10_init (nO S_732 q_784 10) q_784 mem_new (kd_nO' (k := 10))) (M.rm (by decide) (by decide) (Nat.le_of_ble_eq_true rfl) (Nat.le_of_ble_eq_true rfl)) rfl rfl (Nat.le_of_ble_eq_true rfl) dX9_init_156 (fun r_798 S_799 hp_800 => ?_)
  obtain ⟨rfl, hf_801, e_790, e_791, q_789, e_792, e_793, e_794, e_795, e_796, hNl_797⟩ := hp_800
  refine J.eq (st' := [.ref q_784, .int 1, .ref q_161]) rfl rfl rfl ?_
  have hz_802 : ∀ j, aI S_799 q_161 j = 0 := fun j9 => (hf_801.ai (mem_old hm_737) (fun h9 => h9) j9).trans (hz_740 j9)
  have hz_803 : ∀ j, aI S_799 q_266 j = 0 := fun j9 => (hf_801.ai (mem_old hm_741) (fun h9 => h9) j9).trans (hz_744 j9)
  have hz_804 : ∀ j, aI S_799 q_295 j = 0 := fun j9 => (hf_801.ai (mem_old hm_745) (fun h9 => h9) j9).trans (hz_748 j9)
  have hz_805 : ∀ j, aI S_799 q_524 j = 0 := fun j9 => (hf_801.ai (mem_old hm_749) (fun h9 => h9) j9).trans (hz_752 j9)
  have hz_806 : ∀ j, aI S_799 q_565 j = 0 := fun j9 => (hf_801.ai (mem_old hm_753) (fun h9 => h9) j9).trans (hz_756 j9)
  have hz_807 : ∀ j, aI S_799 q_610 j = 0 := fun j9 => (hf_801.ai (mem_old hm_757) (fun h9 => h9) j9).trans (hz_760 j9)
  have hm_808 : h ∈ hL S_799 := hf_801.mem (mem_old hm_735)
  have hk_809 : Kd S_799 h 9 := hf_801.kd (mem_old hm_735) (kd_nO (k := 10) hq_785 hm_735 hk_736)
  have hm_810 : q_161 ∈ hL S_799 := hf_801.mem (mem_old hm_737)
  have hk_811 : Kd S_799 q_161 20 := hf_801.kd (mem_old hm_737) (kd_nO (k := 10) hq_785 hm_737 hk_738)
  have hn_812 : Ln S_799 q_161 16 := hf_801.ln (mem_old hm_737) hn_739
  have hm_813 : q_266 ∈ hL S_799 := hf_801.mem (mem_old hm_741)
  have hk_814 : Kd S_799 q_266 13 := hf_801.kd (mem_old hm_741) (kd_nO (k := 10) hq_785 hm_741 hk_742)
  have hn_815 : Ln S_799 q_266 24000 := hf_801.ln (mem_old hm_741) hn_743
  have hm_816 : q_295 ∈ hL S_799 := hf_801.mem (mem_old hm_745)
  have hk_817 : Kd S_799 q_295 14 := hf_801.kd (mem_old hm_745) (kd_nO (k := 10) hq_785 hm_745 hk_746)
  have hn_818 : Ln S_799 q_295 16 := hf_801.ln (mem_old hm_745) hn_747
  have hm_819 : q_524 ∈ hL S_799 := hf_801.mem (mem_old hm_749)
  have hk_820 : Kd S_799 q_524 18 := hf_801.kd (mem_old hm_749) (kd_nO (k := 10) hq_785 hm_749 hk_750)
  have hn_821 : Ln S_799 q_524 3 := hf_801.ln (mem_old hm_749) hn_751
  have hm_822 : q_565 ∈ hL S_799 := hf_801.mem (mem_old hm_753)
  have hk_823 : Kd S_799 q_565 19 := hf_801.kd (mem_old hm_753) (kd_nO (k := 10) hq_785 hm_753 hk_754)
  have hn_824 : Ln S_799 q_565 4 := hf_801.ln (mem_old hm_753) hn_755
  have hm_825 : q_610 ∈ hL S_799 := hf_801.mem (mem_old hm_757)
  have hk_826 : Kd S_799 q_610 14 := hf_801.kd (mem_old hm_757) (kd_nO (k := 10) hq_785 hm_757 hk_758)
  have hn_827 : Ln S_799 q_610 12 := hf_801.ln (mem_old hm_757) hn_759
  have hm_828 : q_784 ∈ hL S_799 := hf_801.mem mem_new
  have hk_829 : Kd S_799 q_784 10 := hf_801.kd mem_new (kd_nO' (k := 10))
  have hv_830 : hR S_799 900 h = (some s0) := hf_801.fr (mem_old hm_735) (fun q9 => (fun e9 => absurd (((kd_nO (k := 10) hq_785 hm_735 hk_736)).symm.trans ((congrArg (hK _) e9).trans (kd_nO' (k := 10)))) (by decide)) q9) (rd_nOR (k := 10) hq_785 hm_735 hv_766)
  have hv_831 : hR S_799 901 h = (some q_1) := hf_801.fr (mem_old hm_735) (fun q9 => (fun e9 => absurd (((kd_nO (k := 10) hq_785 hm_735 hk_736)).symm.trans ((congrArg (hK _) e9).trans (kd_nO' (k := 10)))) (by decide)) q9) (rd_nOR (k := 10) hq_785 hm_735 hv_767)
  have hv_832 : hR S_799 902 h = (some q_41) := hf_801.fr (mem_old hm_735) (fun q9 => (fun e9 => absurd (((kd_nO (k := 10) hq_785 hm_735 hk_736)).symm.trans ((congrArg (hK _) e9).trans (kd_nO' (k := 10)))) (by decide)) q9) (rd_nOR (k := 10) hq_785 hm_735 hv_768)
  have hv_833 : hR S_799 903 h = (some q_126) := hf_801.fr (mem_old hm_735) (fun q9 => (fun e9 => absurd (((kd_nO (k := 10) hq_785 hm_735 hk_736)).symm.trans ((congrArg (hK _) e9).trans (kd_nO' (k := 10)))) (by decide)) q9) (rd_nOR (k := 10) hq_785 hm_735 hv_769)
  have hv_834 : hR S_799 904 h = (some q_161) := hf_801.fr (mem_old hm_735) (fun q9 => (fun e9 => absurd (((kd_nO (k := 10) hq_785 hm_735 hk_736)).symm.trans ((congrArg (hK _) e9).trans (kd_nO' (k := 10)))) (by decide)) q9) (rd_nOR (k := 10) hq_785 hm_735 hv_770)
  have hv_835 : hR S_799 905 h = (some q_183) := hf_801.fr (mem_old hm_735) (fun q9 => (fun e9 => absurd (((kd_nO (k := 10) hq_785 hm_735 hk_736)).symm.trans ((congrArg (hK _) e9).trans (kd_nO' (k := 10)))) (by decide)) q9) (rd_nOR (k := 10) hq_785 hm_735 hv_771)
  have hv_836 : hR S_799 906 h = (some q_224) := hf_801.fr (mem_old hm_735) (fun q9 => (fun e9 => absurd (((kd_nO (k := 10) hq_785 hm_735 hk_736)).symm.trans ((congrArg (hK _) e9).trans (kd_nO' (k := 10)))) (by decide)) q9) (rd_nOR (k := 10) hq_785 hm_735 hv_772)
  have hv_837 : hR S_799 907 h = (some q_266) := hf_801.fr (mem_old hm_735) (fun q9 => (fun e9 => absurd (((kd_nO (k := 10) hq_785 hm_735 hk_736)).symm.trans ((congrArg (hK _) e9).trans (kd_nO' (k := 10)))) (by decide)) q9) (rd_nOR (k := 10) hq_785 hm_735 hv_773)
  have hv_838 : hR S_799 908 h = (some q_295) := hf_801.fr (mem_old hm_735) (fun q9 => (fun e9 => absurd (((kd_nO (k := 10) hq_785 hm_735 hk_736)).symm.trans ((congrArg (hK _) e9).trans (kd_nO' (k := 10)))) (by decide)) q9) (rd_nOR (k := 10) hq_785 hm_735 hv_774)
  have hv_839 : hR S_799 909 h = (some q_328) := hf_801.fr (mem_old hm_735) (fun q9 => (fun e9 => absurd (((kd_nO (k := 10) hq_785 hm_735 hk_736)).symm.trans ((congrArg (hK _) e9).trans (kd_nO' (k := 10)))) (by decide)) q9) (rd_nOR (k := 10) hq_785 hm_735 hv_775)
  have hv_840 : hR S_799 910 h = (some q_425) := hf_801.fr (mem_old hm_735) (fun q9 => (fun e9 => absurd (((kd_nO (k := 10) hq_785 hm_735 hk_736)).symm.trans ((congrArg (hK _) e9).trans (kd_nO' (k := 10)))) (by decide)) q9) (rd_nOR (k := 10) hq_785 hm_735 hv_776)
  have hv_841 : hR S_799 911 h = (some q_524) := hf_801.fr (mem_old hm_735) (fun q9 => (fun e9 => absurd (((kd_nO (k := 10) hq_785 hm_735 hk_736)).symm.trans ((congrArg (hK _) e9).trans (kd_nO' (k := 10)))) (by decide)) q9) (rd_nOR (k := 10) hq_785 hm_735 hv_777)
  have hv_842 : hR S_799 912 h = (some q_565) := hf_801.fr (mem_old hm_735) (fun q9 => (fun e9 => absurd (((kd_nO (k := 10) hq_785 hm_735 hk_736)).symm.trans ((congrArg (hK _) e9).trans (kd_nO' (k := 10)))) (by decide)) q9) (rd_nOR (k := 10) hq_785 hm_735 hv_778)
  have hv_843 : hR S_799 917 h = (some q_610) := hf_801.fr (mem_old hm_735) (fun q9 => (fun e9 => absurd (((kd_nO (k := 10) hq_785 hm_735 hk_736)).symm.trans ((congrArg (hK _) e9).trans (kd_nO' (k := 10)))) (by decide)) q9) (rd_nOR (k := 10) hq_785 hm_735 hv_779)
  have hf_844 : Fm (fun _ _ => False) (fun f9 b9 => b9 = h) (fun _ => False) S S_799 := hf_788.then hf_801 (fun a9 ha9 => ⟨(fun f9 h9 => (fun h9 => h9.elim (fun h8 => absurd (h8.2 ▸ ha9) hz_786) (fun h8 => absurd (h8.2 ▸ ha9) hz_786)) h9), (fun f9 h9 => (fun h8 => absurd (h8 ▸ ha9) hz_786) h9), (fun h9 => h9.elim)⟩)
  have hN_845 : NL S (L_726 ++ [q_784]) S_799 := NL.mono (show NL S (L_726 ++ [q_784]) (nO S_732 q_784 10) from NL.nO hN_781 hq_785 hz_786) (fun a9 h9 => hf_801.mem h9)
  have hG_846 : Gs h gs_730 S_799 := Gs.fm (show Gs h gs_730 (nO S_732 q_784 10) from Gs.nO hG_782 hq_785) hf_801 (fun g9 hg9 p9 hp9 => gn_787 g9 hg9 p9 hp9)
  have hE_847 : ELs S_799 q_161 [q_661] := ELs.fm (ELs.nO (S := S_732) hE_783) hf_801 (mem_old hm_737) (fun h9 => h9)
  have hz_848 : q_789 ∉ hL S := fun h9 => e_792 (hf_788.mem h9)
  have hN_849 : NL S ((L_726 ++ [q_784]) ++ [q_789]) S_799 := NL.app (show NL S (L_726 ++ [q_784]) (nO S_732 q_784 10) from NL.nO hN_781 hq_785 hz_786) hNl_797 (fun a9 h9 => hf_801.mem h9) (fun a9 h9 => hf_788.mem h9)
  obtain ⟨L_850, eL_851⟩ : ∃ L9 : List Nat, L9 = ((L_726 ++ [q_784]) ++ [q_789]) := ⟨_, rfl⟩
  rw [← eL_851] at hN_849
  have hGt_852 : Gt 1 [q_784, q_789] S_799 := ⟨fun i9 k9 h9 => (match i9, h9 with | 0, h9 => (by have e9 : (10 : Nat) = k9 := Option.some.inj h9; subst e9; exact ⟨hm_828, hk_829⟩) | 1, h9 => (by have e9 : (15 : Nat) = k9 := Option.some.inj h9; subst e9; exact ⟨e_793, e_794⟩) | i9 + 2, h9 => absurd h9 (by simp [gT])), (List.forall_mem_cons.mpr ⟨e_795, (fun _ h9 => absurd h9 List.not_mem_nil)⟩), (List.forall_mem_cons.mpr ⟨e_796, (fun _ h9 => absurd h9 List.not_mem_nil)⟩), (fun _ h9 => absurd h9 List.not_mem_nil)⟩
  have hG_853 : Gs h (gs_730 ++ [(1, [q_784, q_789])]) S_799 := Gs.snoc hG_846 (by decide) hGt_852 (List.forall_mem_cons.mpr ⟨(own_ne hz_786 hm), (fun _ h9 => absurd h9 List.not_mem_nil)⟩)
  obtain ⟨gs_854, eG_855⟩ : ∃ G9 : List (Nat × List Nat), G9 = gs_730 ++ [(1, [q_784, q_789])] := ⟨_, rfl⟩
  rw [← eG_855] at hG_853
  refine j_aast (j := 1) (ci := 10) C 20  (by decide) rfl dX9_init_159 hm_810 hk_811 (inr_of (n := 16) hn_812 (vp_lit (by decide))) (by decide) hm_828 hk_829 rfl ?_
  have hf_858 : Fm (fun _ _ => False) (fun f9 b9 => b9 = h) (fun _ => False) S (tR S_799 q_161 1 (some q_784)) := (hf_844.tR _ _ (fun h9 => absurd h9 hz_164))
  obtain ⟨S_856, eS_857⟩ : ∃ S9 : Hp, S9 = (tR S_799 q_161 1 (some q_784)) := ⟨_, rfl⟩
  refine J.eq (S' := S_856) eS_857.symm rfl rfl ?_
  have hm_859 : h ∈ hL S_856 := by rw [eS_857]; exact hm_808
  have hk_860 : Kd S_856 h 9 := by rw [eS_857]; exact hk_809
  have hm_861 : q_161 ∈ hL S_856 := by rw [eS_857]; exact hm_810
  have hk_862 : Kd S_856 q_161 20 := by rw [eS_857]; exact hk_811
  have hn_863 : Ln S_856 q_161 16 := by rw [eS_857]; exact hn_812
  have hz_864 : ∀ j, aI S_856 q_161 j = 0 := by rw [eS_857]; exact hz_802
  have hm_865 : q_266 ∈ hL S_856 := by rw [eS_857]; exact hm_813
  have hk_866 : Kd S_856 q_266 13 := by rw [eS_857]; exact hk_814
  have hn_867 : Ln S_856 q_266 24000 := by rw [eS_857]; exact hn_815
  have hz_868 : ∀ j, aI S_856 q_266 j = 0 := by rw [eS_857]; exact hz_803
  have hm_869 : q_295 ∈ hL S_856 := by rw [eS_857]; exact hm_816
  have hk_870 : Kd S_856 q_295 14 := by rw [eS_857]; exact hk_817
  have hn_871 : Ln S_856 q_295 16 := by rw [eS_857]; exact hn_818
  have hz_872 : ∀ j, aI S_856 q_295 j = 0 := by rw [eS_857]; exact hz_804
  have hm_873 : q_524 ∈ hL S_856 := by rw [eS_857]; exact hm_819
  have hk_874 : Kd S_856 q_524 18 := by rw [eS_857]; exact hk_820
  have hn_875 : Ln S_856 q_524 3 := by rw [eS_857]; exact hn_821
  have hz_876 : ∀ j, aI S_856 q_524 j = 0 := by rw [eS_857]; exact hz_805
  have hm_877 : q_565 ∈ hL S_856 := by rw [eS_857]; exact hm_822
  have hk_878 : Kd S_856 q_565 19 := by rw [eS_857]; exact hk_823
  have hn_879 : Ln S_856 q_565 4 := by rw [eS_857]; exact hn_824
  have hz_880 : ∀ j, aI S_856 q_565 j = 0 := by rw [eS_857]; exact hz_806
  have hm_881 : q_610 ∈ hL S_856 := by rw [eS_857]; exact hm_825
  have hk_882 : Kd S_856 q_610 14 := by rw [eS_857]; exact hk_826
  have hn_883 : Ln S_856 q_610 12 := by rw [eS_857]; exact hn_827
  have hz_884 : ∀ j, aI S_856 q_610 j = 0 := by rw [eS_857]; exact hz_807
  have hm_885 : q_784 ∈ hL S_856 := by rw [eS_857]; exact hm_828
  have hk_886 : Kd S_856 q_784 10 := by rw [eS_857]; exact hk_829
  have hv_887 : hI S_856 1000 q_784 = 1 := by rw [eS_857]; exact e_790
  have hv_888 : hI S_856 1001 q_784 = 1 := by rw [eS_857]; exact e_791
  have hv_889 : hR S_856 1003 q_784 = (some q_789) := by rw [eS_857]; exact e_796
  have hv_890 : hR S_856 900 h = (some s0) := by rw [eS_857]; exact hv_830
  have hv_891 : hR S_856 901 h = (some q_1) := by rw [eS_857]; exact hv_831
  have hv_892 : hR S_856 902 h = (some q_41) := by rw [eS_857]; exact hv_832
  have hv_893 : hR S_856 903 h = (some q_126) := by rw [eS_857]; exact hv_833
  have hv_894 : hR S_856 904 h = (some q_161) := by rw [eS_857]; exact hv_834
  have hv_895 : hR S_856 905 h = (some q_183) := by rw [eS_857]; exact hv_835
  have hv_896 : hR S_856 906 h = (some q_224) := by rw [eS_857]; exact hv_836
  have hv_897 : hR S_856 907 h = (some q_266) := by rw [eS_857]; exact hv_837
  have hv_898 : hR S_856 908 h = (some q_295) := by rw [eS_857]; exact hv_838
  have hv_899 : hR S_856 909 h = (some q_328) := by rw [eS_857]; exact hv_839
  have hv_900 : hR S_856 910 h = (some q_425) := by rw [eS_857]; exact hv_840
  have hv_901 : hR S_856 911 h = (some q_524) := by rw [eS_857]; exact hv_841
  have hv_902 : hR S_856 912 h = (some q_565) := by rw [eS_857]; exact hv_842
  have hv_903 : hR S_856 917 h = (some q_610) := by rw [eS_857]; exact hv_843
  have hf_904 : Fm (fun _ _ => False) (fun f9 b9 => b9 = h) (fun _ => False) S S_856 := by rw [eS_857]; exact hf_858
  have hN_905 : NL S L_850 S_856 := by rw [eS_857]; exact (NL.tR (S := S_799) hN_849)
  have hG_906 : Gs h gs_854 S_856 := by rw [eS_857]; exact (Gs.tR (S := S_799) hG_853)
  have hE_907 : ELs S_856 q_161 [q_661, q_784] := by rw [eS_857]; exact (show ELs (tR S_799 q_161 1 (some q_784)) q_161 [q_661, q_784] from ELs.snoc hE_847 rfl)
  refine j_iinc (q := 0) (v := 2) (lv' := [(2, .int 2), (0, .ref h), (1, .ref s0)]) C dX9_init_160 rfl (by decide) (by rw [hn9]; decide) rfl ?_
  refine j_goto (tgt := 138) C dX9_init_163 (by decide) ?_
  refine j_iload_n C dX9_init_138 rfl 0 rfl ?_
  refine j_aload_n C dX9_init_139 rfl 1 rfl ?_
  show J _ _ _ _ _ 140 _
  refine j_getr (f := 904) (v := q_161) C flX9_34 dX9_init_140 hm_859 hk_860 (by decide) rfl hv_894 ?_
  refine j_alen (v := 16) C dX9_init_143 hm_861 hk_862 (by decide) (by decide) (len_of (n := 16) hn_863 (by decide)) ?_
  refine j_ic_ge (tgt := 166) C dX9_init_144 (by decide) (fun c9 => absurd c9 (by decide)) (fun c9 => ?_)
  refine j_aload_n C dX9_init_147 rfl 1 rfl ?_
  refine j_getr (f := 904) (v := q_161) C flX9_34 dX9_init_148 hm_859 hk_860 (by decide) rfl hv_894 ?_
  refine j_iload_n C dX9_init_151 rfl 0 rfl ?_
  refine j_new (N := 4) C (ci := 10) rfl rfl klX9_32 knX10 kiX10 (M.cells (by decide)) (M.slots (by decide)) dX9_init_152 (fun q_908 hq_909 => ?_)
  have hz_910 : q_908 ∉ hL S := fun h9 => hq_909 (hf_904.mem h9)
  have gn_911 : ∀ g9 ∈ gs_854, ∀ p9 ∈ (gT g9.1).2.2, g9.2.getD p9.2.1 0 ≠ q_908 := Gs.ne hG_906 hq_909
  refine j_dup C dX9_init_155 rfl ?_
  show J _ _ _ _ _ 156 _
  have hf_912 : Fm (fun _ _ => False) (fun f9 b9 => b9 = h) (fun _ => False) S (nO S_856 q_908 10) := (hf_904.nO _ hq_909)
  refine j_callI C [] [.ref q_908, .int 2, .ref q_161] mlX9_38 mcX10_init (c_X10_init (nO S_856 q_908 10) q_908 mem_new (kd_nO' (k := 10))) (M.rm (by decide) (by decide) (Nat.le_of_ble_eq_true rfl) (Nat.le_of_ble_eq_true rfl)) rfl rfl (Nat.le_of_ble_eq_true rfl) dX9_init_156 (fun r_922 S_923 hp_924 => ?_)
  obtain ⟨rfl, hf_925, e_914, e_915, q_913, e_916, e_917, e_918, e_919, e_920, hNl_921⟩ := hp_924
  refine J.eq (st' := [.ref q_908, .int 2, .ref q_161]) rfl rfl rfl ?_
  have hz_926 : ∀ j, aI S_923 q_161 j = 0 := fun j9 => (hf_925.ai (mem_old hm_861) (fun h9 => h9) j9).trans (hz_864 j9)
  have hz_927 : ∀ j, aI S_923 q_266 j = 0 := fun j9 => (hf_925.ai (mem_old hm_865) (fun h9 => h9) j9).trans (hz_868 j9)
  have hz_928 : ∀ j, aI S_923 q_295 j = 0 := fun j9 => (hf_925.ai (mem_old hm_869) (fun h9 => h9) j9).trans (hz_872 j9)
  have hz_929 : ∀ j, aI S_923 q_524 j = 0 := fun j9 => (hf_925.ai (mem_old hm_873) (fun h9 => h9) j9).trans (hz_876 j9)
  have hz_930 : ∀ j, aI S_923 q_565 j = 0 := fun j9 => (hf_925.ai (mem_old hm_877) (fun h9 => h9) j9).trans (hz_880 j9)
  have hz_931 : ∀ j, aI S_923 q_610 j = 0 := fun j9 => (hf_925.ai (mem_old hm_881) (fun h9 => h9) j9).trans (hz_884 j9)
  have hm_932 : h ∈ hL S_923 := hf_925.mem (mem_old hm_859)
  have hk_933 : Kd S_923 h 9 := hf_925.kd (mem_old hm_859) (kd_nO (k := 10) hq_909 hm_859 hk_860)
  have hm_934 : q_161 ∈ hL S_923 := hf_925.mem (mem_old hm_861)
  have hk_935 : Kd S_923 q_161 20 := hf_925.kd (mem_old hm_861) (kd_nO (k := 10) hq_909 hm_861 hk_862)
  have hn_936 : Ln S_923 q_161 16 := hf_925.ln (mem_old hm_861) hn_863
  have hm_937 : q_266 ∈ hL S_923 := hf_925.mem (mem_old hm_865)
  have hk_938 : Kd S_923 q_266 13 := hf_925.kd (mem_old hm_865) (kd_nO (k := 10) hq_909 hm_865 hk_866)
  have hn_939 : Ln S_923 q_266 24000 := hf_925.ln (mem_old hm_865) hn_867
  have hm_940 : q_295 ∈ hL S_923 := hf_925.mem (mem_old hm_869)
  have hk_941 : Kd S_923 q_295 14 := hf_925.kd (mem_old hm_869) (kd_nO (k := 10) hq_909 hm_869 hk_870)
  have hn_942 : Ln S_923 q_295 16 := hf_925.ln (mem_old hm_869) hn_871
  have hm_943 : q_524 ∈ hL S_923 := hf_925.mem (mem_old hm_873)
  have hk_944 : Kd S_923 q_524 18 := hf_925.kd (mem_old hm_873) (kd_nO (k := 10) hq_909 hm_873 hk_874)
  have hn_945 : Ln S_923 q_524 3 := hf_925.ln (mem_old hm_873) hn_875
  have hm_946 : q_565 ∈ hL S_923 := hf_925.mem (mem_old hm_877)
  have hk_947 : Kd S_923 q_565 19 := hf_925.kd (mem_old hm_877) (kd_nO (k := 10) hq_909 hm_877 hk_878)
  have hn_948 : Ln S_923 q_565 4 := hf_925.ln (mem_old hm_877) hn_879
  have hm_949 : q_610 ∈ hL S_923 := hf_925.mem (mem_old hm_881)
  have hk_950 : Kd S_923 q_610 14 := hf_925.kd (mem_old hm_881) (kd_nO (k := 10) hq_909 hm_881 hk_882)
  have hn_951 : Ln S_923 q_610 12 := hf_925.ln (mem_old hm_881) hn_883
  have hm_952 : q_908 ∈ hL S_923 := hf_925.mem mem_new
  have hk_953 : Kd S_923 q_908 10 := hf_925.kd mem_new (kd_nO' (k := 10))
  have hv_954 : hR S_923 900 h = (some s0) := hf_925.fr (mem_old hm_859) (fun q9 => (fun e9 => absurd (((kd_nO (k := 10) hq_909 hm_859 hk_860)).symm.trans ((congrArg (hK _) e9).trans (kd_nO' (k := 10)))) (by decide)) q9) (rd_nOR (k := 10) hq_909 hm_859 hv_890)
  have hv_955 : hR S_923 901 h = (some q_1) := hf_925.fr (mem_old hm_859) (fun q9 => (fun e9 => absurd (((kd_nO (k := 10) hq_909 hm_859 hk_860)).symm.trans ((congrArg (hK _) e9).trans (kd_nO' (k := 10)))) (by decide)) q9) (rd_nOR (k := 10) hq_909 hm_859 hv_891)
  have hv_956 : hR S_923 902 h = (some q_41) := hf_925.fr (mem_old hm_859) (fun q9 => (fun e9 => absurd (((kd_nO (k := 10) hq_909 hm_859 hk_860)).symm.trans ((congrArg (hK _) e9).trans (kd_nO' (k := 10)))) (by decide)) q9) (rd_nOR (k := 10) hq_909 hm_859 hv_892)
  have hv_957 : hR S_923 903 h = (some q_126) := hf_925.fr (mem_old hm_859) (fun q9 => (fun e9 => absurd (((kd_nO (k := 10) hq_909 hm_859 hk_860)).symm.trans ((congrArg (hK _) e9).trans (kd_nO' (k := 10)))) (by decide)) q9) (rd_nOR (k := 10) hq_909 hm_859 hv_893)
  have hv_958 : hR S_923 904 h = (some q_161) := hf_925.fr (mem_old hm_859) (fun q9 => (fun e9 => absurd (((kd_nO (k := 10) hq_909 hm_859 hk_860)).symm.trans ((congrArg (hK _) e9).trans (kd_nO' (k := 10)))) (by decide)) q9) (rd_nOR (k := 10) hq_909 hm_859 hv_894)
  have hv_959 : hR S_923 905 h = (some q_183) := hf_925.fr (mem_old hm_859) (fun q9 => (fun e9 => absurd (((kd_nO (k := 10) hq_909 hm_859 hk_860)).symm.trans ((congrArg (hK _) e9).trans (kd_nO' (k := 10)))) (by decide)) q9) (rd_nOR (k := 10) hq_909 hm_859 hv_895)
  have hv_960 : hR S_923 906 h = (some q_224) := hf_925.fr (mem_old hm_859) (fun q9 => (fun e9 => absurd (((kd_nO (k := 10) hq_909 hm_859 hk_860)).symm.trans ((congrArg (hK _) e9).trans (kd_nO' (k := 10)))) (by decide)) q9) (rd_nOR (k := 10) hq_909 hm_859 hv_896)
  have hv_961 : hR S_923 907 h = (some q_266) := hf_925.fr (mem_old hm_859) (fun q9 => (fun e9 => absurd (((kd_nO (k := 10) hq_909 hm_859 hk_860)).symm.trans ((congrArg (hK _) e9).trans (kd_nO' (k := 10)))) (by decide)) q9) (rd_nOR (k := 10) hq_909 hm_859 hv_897)
  have hv_962 : hR S_923 908 h = (some q_295) := hf_925.fr (mem_old hm_859) (fun q9 => (fun e9 => absurd (((kd_nO (k := 10) hq_909 hm_859 hk_860)).symm.trans ((congrArg (hK _) e9).trans (kd_nO' (k := 10)))) (by decide)) q9) (rd_nOR (k := 10) hq_909 hm_859 hv_898)
  have hv_963 : hR S_923 909 h = (some q_328) := hf_925.fr (mem_old hm_859) (fun q9 => (fun e9 => absurd (((kd_nO (k := 10) hq_909 hm_859 hk_860)).symm.trans ((congrArg (hK _) e9).trans (kd_nO' (k := 10)))) (by decide)) q9) (rd_nOR (k := 10) hq_909 hm_859 hv_899)
  have hv_964 : hR S_923 910 h = (some q_425) := hf_925.fr (mem_old hm_859) (fun q9 => (fun e9 => absurd (((kd_nO (k := 10) hq_909 hm_859 hk_860)).symm.trans ((congrArg (hK _) e9).trans (kd_nO' (k := 10)))) (by decide)) q9) (rd_nOR (k := 10) hq_909 hm_859 hv_900)
  have hv_965 : hR S_923 911 h = (some q_524) := hf_925.fr (mem_old hm_859) (fun q9 => (fun e9 => absurd (((kd_nO (k := 10) hq_909 hm_859 hk_860)).symm.trans ((congrArg (hK _) e9).trans (kd_nO' (k := 10)))) (by decide)) q9) (rd_nOR (k := 10) hq_909 hm_859 hv_901)
  have hv_966 : hR S_923 912 h = (some q_565) := hf_925.fr (mem_old hm_859) (fun q9 => (fun e9 => absurd (((kd_nO (k := 10) hq_909 hm_859 hk_860)).symm.trans ((congrArg (hK _) e9).trans (kd_nO' (k := 10)))) (by decide)) q9) (rd_nOR (k := 10) hq_909 hm_859 hv_902)
  have hv_967 : hR S_923 917 h = (some q_610) := hf_925.fr (mem_old hm_859) (fun q9 => (fun e9 => absurd (((kd_nO (k := 10) hq_909 hm_859 hk_860)).symm.trans ((congrArg (hK _) e9).trans (kd_nO' (k := 10)))) (by decide)) q9) (rd_nOR (k := 10) hq_909 hm_859 hv_903)
  have hf_968 : Fm (fun _ _ => False) (fun f9 b9 => b9 = h) (fun _ => False) S S_923 := hf_912.then hf_925 (fun a9 ha9 => ⟨(fun f9 h9 => (fun h9 => h9.elim (fun h8 => absurd (h8.2 ▸ ha9) hz_910) (fun h8 => absurd (h8.2 ▸ ha9) hz_910)) h9), (fun f9 h9 => (fun h8 => absurd (h8 ▸ ha9) hz_910) h9), (fun h9 => h9.elim)⟩)
  have hN_969 : NL S (L_850 ++ [q_908]) S_923 := NL.mono (show NL S (L_850 ++ [q_908]) (nO S_856 q_908 10) from NL.nO hN_905 hq_909 hz_910) (fun a9 h9 => hf_925.mem h9)
  have hG_970 : Gs h gs_854 S_923 := Gs.fm (show Gs h gs_854 (nO S_856 q_908 10) from Gs.nO hG_906 hq_909) hf_925 (fun g9 hg9 p9 hp9 => gn_911 g9 hg9 p9 hp9)
  have hE_971 : ELs S_923 q_161 [q_661, q_784] := ELs.fm (ELs.nO (S := S_856) hE_907) hf_925 (mem_old hm_861) (fun h9 => h9)
  have hz_972 : q_913 ∉ hL S := fun h9 => e_916 (hf_912.mem h9)
  have hN_973 : NL S ((L_850 ++ [q_908]) ++ [q_913]) S_923 := NL.app (show NL S (L_850 ++ [q_908]) (nO S_856 q_908 10) from NL.nO hN_905 hq_909 hz_910) hNl_921 (fun a9 h9 => hf_925.mem h9) (fun a9 h9 => hf_912.mem h9)
  obtain ⟨L_974, eL_975⟩ : ∃ L9 : List Nat, L9 = ((L_850 ++ [q_908]) ++ [q_913]) := ⟨_, rfl⟩
  rw [← eL_975] at hN_973
  have hGt_976 : Gt 1 [q_908, q_913] S_923 := ⟨fun i9 k9 h9 => (match i9, h9 with | 0, h9 => (by have e9 : (10 : Nat) = k9 := Option.some.inj h9; subst e9; exact ⟨hm_952, hk_953⟩) | 1, h9 => (by have e9 : (15 : Nat) = k9 := Option.some.inj h9; subst e9; exact ⟨e_917, e_918⟩) | i9 + 2, h9 => absurd h9 (by simp [gT])), (List.forall_mem_cons.mpr ⟨e_919, (fun _ h9 => absurd h9 List.not_mem_nil)⟩), (List.forall_mem_cons.mpr ⟨e_920, (fun _ h9 => absurd h9 List.not_mem_nil)⟩), (fun _ h9 => absurd h9 List.not_mem_nil)⟩
  have hG_977 : Gs h (gs_854 ++ [(1, [q_908, q_913])]) S_923 := Gs.snoc hG_970 (by decide) hGt_976 (List.forall_mem_cons.mpr ⟨(own_ne hz_910 hm), (fun _ h9 => absurd h9 List.not_mem_nil)⟩)
  obtain ⟨gs_978, eG_979⟩ : ∃ G9 : List (Nat × List Nat), G9 = gs_854 ++ [(1, [q_908, q_913])] := ⟨_, rfl⟩
  rw [← eG_979] at hG_977
  refine j_aast (j := 2) (ci := 10) C 20  (by decide) rfl dX9_init_159 hm_934 hk_935 (inr_of (n := 16) hn_936 (vp_lit (by decide))) (by decide) hm_952 hk_953 rfl ?_
  have hf_982 : Fm (fun _ _ => False) (fun f9 b9 => b9 = h) (fun _ => False) S (tR S_923 q_161 2 (some q_908)) := (hf_968.tR _ _ (fun h9 => absurd h9 hz_164))
  obtain ⟨S_980, eS_981⟩ : ∃ S9 : Hp, S9 = (tR S_923 q_161 2 (some q_908)) := ⟨_, rfl⟩
  refine J.eq (S' := S_980) eS_981.symm rfl rfl ?_
  have hm_983 : h ∈ hL S_980 := by rw [eS_981]; exact hm_932
  have hk_984 : Kd S_980 h 9 := by rw [eS_981]; exact hk_933
  have hm_985 : q_161 ∈ hL S_980 := by rw [eS_981]; exact hm_934
  have hk_986 : Kd S_980 q_161 20 := by rw [eS_981]; exact hk_935
  have hn_987 : Ln S_980 q_161 16 := by rw [eS_981]; exact hn_936
  have hz_988 : ∀ j, aI S_980 q_161 j = 0 := by rw [eS_981]; exact hz_926
  have hm_989 : q_266 ∈ hL S_980 := by rw [eS_981]; exact hm_937
  have hk_990 : Kd S_980 q_266 13 := by rw [eS_981]; exact hk_938
  have hn_991 : Ln S_980 q_266 24000 := by rw [eS_981]; exact hn_939
  have hz_992 : ∀ j, aI S_980 q_266 j = 0 := by rw [eS_981]; exact hz_927
  have hm_993 : q_295 ∈ hL S_980 := by rw [eS_981]; exact hm_940
  have hk_994 : Kd S_980 q_295 14 := by rw [eS_981]; exact hk_941
  have hn_995 : Ln S_980 q_295 16 := by rw [eS_981]; exact hn_942
  have hz_996 : ∀ j, aI S_980 q_295 j = 0 := by rw [eS_981]; exact hz_928
  have hm_997 : q_524 ∈ hL S_980 := by rw [eS_981]; exact hm_943
  have hk_998 : Kd S_980 q_524 18 := by rw [eS_981]; exact hk_944
  have hn_999 : Ln S_980 q_524 3 := by rw [eS_981]; exact hn_945
  have hz_1000 : ∀ j, aI S_980 q_524 j = 0 := by rw [eS_981]; exact hz_929
  have hm_1001 : q_565 ∈ hL S_980 := by rw [eS_981]; exact hm_946
  have hk_1002 : Kd S_980 q_565 19 := by rw [eS_981]; exact hk_947
  have hn_1003 : Ln S_980 q_565 4 := by rw [eS_981]; exact hn_948
  have hz_1004 : ∀ j, aI S_980 q_565 j = 0 := by rw [eS_981]; exact hz_930
  have hm_1005 : q_610 ∈ hL S_980 := by rw [eS_981]; exact hm_949
  have hk_1006 : Kd S_980 q_610 14 := by rw [eS_981]; exact hk_950
  have hn_1007 : Ln S_980 q_610 12 := by rw [eS_981]; exact hn_951
  have hz_1008 : ∀ j, aI S_980 q_610 j = 0 := by rw [eS_981]; exact hz_931
  have hm_1009 : q_908 ∈ hL S_980 := by rw [eS_981]; exact hm_952
  have hk_1010 : Kd S_980 q_908 10 := by rw [eS_981]; exact hk_953
  have hv_1011 : hI S_980 1000 q_908 = 1 := by rw [eS_981]; exact e_914
  have hv_1012 : hI S_980 1001 q_908 = 1 := by rw [eS_981]; exact e_915
  have hv_1013 : hR S_980 1003 q_908 = (some q_913) := by rw [eS_981]; exact e_920
  have hv_1014 : hR S_980 900 h = (some s0) := by rw [eS_981]; exact hv_954
  have hv_1015 : hR S_980 901 h = (some q_1) := by rw [eS_981]; exact hv_955
  have hv_1016 : hR S_980 902 h = (some q_41) := by rw [eS_981]; exact hv_956
  have hv_1017 : hR S_980 903 h = (some q_126) := by rw [eS_981]; exact hv_957
  have hv_1018 : hR S_980 904 h = (some q_161) := by rw [eS_981]; exact hv_958
  have hv_1019 : hR S_980 905 h = (some q_183) := by rw [eS_981]; exact hv_959
  have hv_1020 : hR S_980 906 h = (some q_224) := by rw [eS_981]; exact hv_960
  have hv_1021 : hR S_980 907 h = (some q_266) := by rw [eS_981]; exact hv_961
  have hv_1022 : hR S_980 908 h = (some q_295) := by rw [eS_981]; exact hv_962
  have hv_1023 : hR S_980 909 h = (some q_328) := by rw [eS_981]; exact hv_963
  have hv_1024 : hR S_980 910 h = (some q_425) := by rw [eS_981]; exact hv_964
  have hv_1025 : hR S_980 911 h = (some q_524) := by rw [eS_981]; exact hv_965
  have hv_1026 : hR S_980 912 h = (some q_565) := by rw [eS_981]; exact hv_966
  have hv_1027 : hR S_980 917 h = (some q_610) := by rw [eS_981]; exact hv_967
  have hf_1028 : Fm (fun _ _ => False) (fun f9 b9 => b9 = h) (fun _ => False) S S_980 := by rw [eS_981]; exact hf_982
  have hN_1029 : NL S L_974 S_980 := by rw [eS_981]; exact (NL.tR (S := S_923) hN_973)
  have hG_1030 : Gs h gs_978 S_980 := by rw [eS_981]; exact (Gs.tR (S := S_923) hG_977)
  have hE_1031 : ELs S_980 q_161 [q_661, q_784, q_908] := by rw [eS_981]; exact (show ELs (tR S_923 q_161 2 (some q_908)) q_161 [q_661, q_784, q_908] from ELs.snoc hE_971 rfl)
  refine j_iinc (q := 0) (v := 3) (lv' := [(2, .int 3), (0, .ref h), (1, .ref s0)]) C dX9_init_160 rfl (by decide) (by rw [hn9]; decide) rfl ?_
  refine j_goto (tgt := 138) C dX9_init_163 (by decide) ?_
  refine j_iload_n C dX9_init_138 rfl 0 rfl ?_
  refine j_aload_n C dX9_init_139 rfl 1 rfl ?_
  refine j_getr (f := 904) (v := q_161) C flX9_34 dX9_init_140 hm_983 hk_984 (by decide) rfl hv_1018 ?_
  refine j_alen (v := 16) C dX9_init_143 hm_985 hk_986 (by decide) (by decide) (len_of (n := 16) hn_987 (by decide)) ?_
  show J _ _ _ _ _ 144 _
  refine j_ic_ge (tgt := 166) C dX9_init_144 (by decide) (fun c9 => absurd c9 (by decide)) (fun c9 => ?_)
  refine j_aload_n C dX9_init_147 rfl 1 rfl ?_
  refine j_getr (f := 904) (v := q_161) C flX9_34 dX9_init_148 hm_983 hk_984 (by decide) rfl hv_1018 ?_
  refine j_iload_n C dX9_init_151 rfl 0 rfl ?_
  refine j_new (N := 4) C (ci := 10) rfl rfl klX9_32 knX10 kiX10 (M.cells (by decide)) (M.slots (by decide)) dX9_init_152 (fun q_1032 hq_1033 => ?_)
  have hz_1034 : q_1032 ∉ hL S := fun h9 => hq_1033 (hf_1028.mem h9)
  have gn_1035 : ∀ g9 ∈ gs_978, ∀ p9 ∈ (gT g9.1).2.2, g9.2.getD p9.2.1 0 ≠ q_1032 := Gs.ne hG_1030 hq_1033
  refine j_dup C dX9_init_155 rfl ?_
  have hf_1036 : Fm (fun _ _ => False) (fun f9 b9 => b9 = h) (fun _ => False) S (nO S_980 q_1032 10) := (hf_1028.nO _ hq_1033)
  refine j_callI C [] [.ref q_1032, .int 3, .ref q_161] mlX9_38 mcX10_init (c_X10_init (nO S_980 q_1032 10) q_1032 mem_new (kd_nO' (k := 10))) (M.rm (by decide) (by decide) (Nat.le_of_ble_eq_true rfl) (Nat.le_of_ble_eq_true rfl)) rfl rfl (Nat.le_of_ble_eq_true rfl) dX9_init_156 (fun r_1046 S_1047 hp_1048 => ?_)
  obtain ⟨rfl, hf_1049, e_1038, e_1039, q_1037, e_1040, e_1041, e_1042, e_1043, e_1044, hNl_1045⟩ := hp_1048
  refine J.eq (st' := [.ref q_1032, .int 3, .ref q_161]) rfl rfl rfl ?_
  have hz_1050 : ∀ j, aI S_1047 q_161 j = 0 := fun j9 => (hf_1049.ai (mem_old hm_985) (fun h9 => h9) j9).trans (hz_988 j9)
  have hz_1051 : ∀ j, aI S_1047 q_266 j = 0 := fun j9 => (hf_1049.ai (mem_old hm_989) (fun h9 => h9) j9).trans (hz_992 j9)
  have hz_1052 : ∀ j, aI S_1047 q_295 j = 0 := fun j9 => (hf_1049.ai (mem_old hm_993) (fun h9 => h9) j9).trans (hz_996 j9)
  have hz_1053 : ∀ j, aI S_1047 q_524 j = 0 := fun j9 => (hf_1049.ai (mem_old hm_997) (fun h9 => h9) j9).trans (hz_1000 j9)
  have hz_1054 : ∀ j, aI S_1047 q_565 j = 0 := fun j9 => (hf_1049.ai (mem_old hm_1001) (fun h9 => h9) j9).trans (hz_1004 j9)
  have hz_1055 : ∀ j, aI S_1047 q_610 j = 0 := fun j9 => (hf_1049.ai (mem_old hm_1005) (fun h9 => h9) j9).trans (hz_1008 j9)
  have hm_1056 : h ∈ hL S_1047 := hf_1049.mem (mem_old hm_983)
  have hk_1057 : Kd S_1047 h 9 := hf_1049.kd (mem_old hm_983) (kd_nO (k := 10) hq_1033 hm_983 hk_984)
  have hm_1058 : q_1032 ∈ hL S_1047 := hf_1049.mem mem_new
  have hk_1059 : Kd S_1047 q_1032 10 := hf_1049.kd mem_new (kd_nO' (k := 10))
  have hm_1060 : q_161 ∈ hL S_1047 := hf_1049.mem (mem_old hm_985)
  have hk_1061 : Kd S_1047 q_161 20 := hf_1049.kd (mem_old hm_985) (kd_nO (k := 10) hq_1033 hm_985 hk_986)
  have hn_1062 : Ln S_1047 q_161 16 := hf_1049.ln (mem_old hm_985) hn_987
  have hm_1063 : q_266 ∈ hL S_1047 := hf_1049.mem (mem_old hm_989)
  have hk_1064 : Kd S_1047 q_266 13 := hf_1049.kd (mem_old hm_989) (kd_nO (k := 10) hq_1033 hm_989 hk_990)
  have hn_1065 : Ln S_1047 q_266 24000 := hf_1049.ln (mem_old hm_989) hn_991
  have hm_1066 : q_295 ∈ hL S_1047 := hf_1049.mem (mem_old hm_993)
  have hk_1067 : Kd S_1047 q_295 14 := hf_1049.kd (mem_old hm_993) (kd_nO (k := 10) hq_1033 hm_993 hk_994)
  have hn_1068 : Ln S_1047 q_295 16 := hf_1049.ln (mem_old hm_993) hn_995
  have hm_1069 : q_524 ∈ hL S_1047 := hf_1049.mem (mem_old hm_997)
  have hk_1070 : Kd S_1047 q_524 18 := hf_1049.kd (mem_old hm_997) (kd_nO (k := 10) hq_1033 hm_997 hk_998)
  have hn_1071 : Ln S_1047 q_524 3 := hf_1049.ln (mem_old hm_997) hn_999
  have hm_1072 : q_565 ∈ hL S_1047 := hf_1049.mem (mem_old hm_1001)
  have hk_1073 : Kd S_1047 q_565 19 := hf_1049.kd (mem_old hm_1001) (kd_nO (k := 10) hq_1033 hm_1001 hk_1002)
  have hn_1074 : Ln S_1047 q_565 4 := hf_1049.ln (mem_old hm_1001) hn_1003
  have hm_1075 : q_610 ∈ hL S_1047 := hf_1049.mem (mem_old hm_1005)
  have hk_1076 : Kd S_1047 q_610 14 := hf_1049.kd (mem_old hm_1005) (kd_nO (k := 10) hq_1033 hm_1005 hk_1006)
  have hn_1077 : Ln S_1047 q_610 12 := hf_1049.ln (mem_old hm_1005) hn_1007
  have hv_1078 : hR S_1047 900 h = (some s0) := hf_1049.fr (mem_old hm_983) (fun q9 => (fun e9 => absurd (((kd_nO (k := 10) hq_1033 hm_983 hk_984)).symm.trans ((congrArg (hK _) e9).trans (kd_nO' (k := 10)))) (by decide)) q9) (rd_nOR (k := 10) hq_1033 hm_983 hv_1014)
  have hv_1079 : hR S_1047 901 h = (some q_1) := hf_1049.fr (mem_old hm_983) (fun q9 => (fun e9 => absurd (((kd_nO (k := 10) hq_1033 hm_983 hk_984)).symm.trans ((congrArg (hK _) e9).trans (kd_nO' (k := 10)))) (by decide)) q9) (rd_nOR (k := 10) hq_1033 hm_983 hv_1015)
  have hv_1080 : hR S_1047 902 h = (some q_41) := hf_1049.fr (mem_old hm_983) (fun q9 => (fun e9 => absurd (((kd_nO (k := 10) hq_1033 hm_983 hk_984)).symm.trans ((congrArg (hK _) e9).trans (kd_nO' (k := 10)))) (by decide)) q9) (rd_nOR (k := 10) hq_1033 hm_983 hv_1016)
  have hv_1081 : hR S_1047 903 h = (some q_126) := hf_1049.fr (mem_old hm_983) (fun q9 => (fun e9 => absurd (((kd_nO (k := 10) hq_1033 hm_983 hk_984)).symm.trans ((congrArg (hK _) e9).trans (kd_nO' (k := 10)))) (by decide)) q9) (rd_nOR (k := 10) hq_1033 hm_983 hv_1017)
  have hv_1082 : hR S_1047 904 h = (some q_161) := hf_1049.fr (mem_old hm_983) (fun q9 => (fun e9 => absurd (((kd_nO (k := 10) hq_1033 hm_983 hk_984)).symm.trans ((congrArg (hK _) e9).trans (kd_nO' (k := 10)))) (by decide)) q9) (rd_nOR (k := 10) hq_1033 hm_983 hv_1018)
  have hv_1083 : hR S_1047 905 h = (some q_183) := hf_1049.fr (mem_old hm_983) (fun q9 => (fun e9 => absurd (((kd_nO (k := 10) hq_1033 hm_983 hk_984)).symm.trans ((congrArg (hK _) e9).trans (kd_nO' (k := 10)))) (by decide)) q9) (rd_nOR (k := 10) hq_1033 hm_983 hv_1019)
  have hv_1084 : hR S_1047 906 h = (some q_224) := hf_1049.fr (mem_old hm_983) (fun q9 => (fun e9 => absurd (((kd_nO (k := 10) hq_1033 hm_983 hk_984)).symm.trans ((congrArg (hK _) e9).trans (kd_nO' (k := 10)))) (by decide)) q9) (rd_nOR (k := 10) hq_1033 hm_983 hv_1020)
  have hv_1085 : hR S_1047 907 h = (some q_266) := hf_1049.fr (mem_old hm_983) (fun q9 => (fun e9 => absurd (((kd_nO (k := 10) hq_1033 hm_983 hk_984)).symm.trans ((congrArg (hK _) e9).trans (kd_nO' (k := 10)))) (by decide)) q9) (rd_nOR (k := 10) hq_1033 hm_983 hv_1021)
  have hv_1086 : hR S_1047 908 h = (some q_295) := hf_1049.fr (mem_old hm_983) (fun q9 => (fun e9 => absurd (((kd_nO (k := 10) hq_1033 hm_983 hk_984)).symm.trans ((congrArg (hK _) e9).trans (kd_nO' (k := 10)))) (by decide)) q9) (rd_nOR (k := 10) hq_1033 hm_983 hv_1022)
  have hv_1087 : hR S_1047 909 h = (some q_328) := hf_1049.fr (mem_old hm_983) (fun q9 => (fun e9 => absurd (((kd_nO (k := 10) hq_1033 hm_983 hk_984)).symm.trans ((congrArg (hK _) e9).trans (kd_nO' (k := 10)))) (by decide)) q9) (rd_nOR (k := 10) hq_1033 hm_983 hv_1023)
  have hv_1088 : hR S_1047 910 h = (some q_425) := hf_1049.fr (mem_old hm_983) (fun q9 => (fun e9 => absurd (((kd_nO (k := 10) hq_1033 hm_983 hk_984)).symm.trans ((congrArg (hK _) e9).trans (kd_nO' (k := 10)))) (by decide)) q9) (rd_nOR (k := 10) hq_1033 hm_983 hv_1024)
  have hv_1089 : hR S_1047 911 h = (some q_524) := hf_1049.fr (mem_old hm_983) (fun q9 => (fun e9 => absurd (((kd_nO (k := 10) hq_1033 hm_983 hk_984)).symm.trans ((congrArg (hK _) e9).trans (kd_nO' (k := 10)))) (by decide)) q9) (rd_nOR (k := 10) hq_1033 hm_983 hv_1025)
  have hv_1090 : hR S_1047 912 h = (some q_565) := hf_1049.fr (mem_old hm_983) (fun q9 => (fun e9 => absurd (((kd_nO (k := 10) hq_1033 hm_983 hk_984)).symm.trans ((congrArg (hK _) e9).trans (kd_nO' (k := 10)))) (by decide)) q9) (rd_nOR (k := 10) hq_1033 hm_983 hv_1026)
  have hv_1091 : hR S_1047 917 h = (some q_610) := hf_1049.fr (mem_old hm_983) (fun q9 => (fun e9 => absurd (((kd_nO (k := 10) hq_1033 hm_983 hk_984)).symm.trans ((congrArg (hK _) e9).trans (kd_nO' (k := 10)))) (by decide)) q9) (rd_nOR (k := 10) hq_1033 hm_983 hv_1027)
  have hf_1092 : Fm (fun _ _ => False) (fun f9 b9 => b9 = h) (fun _ => False) S S_1047 := hf_1036.then hf_1049 (fun a9 ha9 => ⟨(fun f9 h9 => (fun h9 => h9.elim (fun h8 => absurd (h8.2 ▸ ha9) hz_1034) (fun h8 => absurd (h8.2 ▸ ha9) hz_1034)) h9), (fun f9 h9 => (fun h8 => absurd (h8 ▸ ha9) hz_1034) h9), (fun h9 => h9.elim)⟩)
  have hN_1093 : NL S (L_974 ++ [q_1032]) S_1047 := NL.mono (show NL S (L_974 ++ [q_1032]) (nO S_980 q_1032 10) from NL.nO hN_1029 hq_1033 hz_1034) (fun a9 h9 => hf_1049.mem h9)
  have hG_1094 : Gs h gs_978 S_1047 := Gs.fm (show Gs h gs_978 (nO S_980 q_1032 10) from Gs.nO hG_1030 hq_1033) hf_1049 (fun g9 hg9 p9 hp9 => gn_1035 g9 hg9 p9 hp9)
  have hE_1095 : ELs S_1047 q_161 [q_661, q_784, q_908] := ELs.fm (ELs.nO (S := S_980) hE_1031) hf_1049 (mem_old hm_985) (fun h9 => h9)
  have hz_1096 : q_1037 ∉ hL S := fun h9 => e_1040 (hf_1036.mem h9)
  have hN_1097 : NL S ((L_974 ++ [q_1032]) ++ [q_1037]) S_1047 := NL.app (show NL S (L_974 ++ [q_1032]) (nO S_980 q_1032 10) from NL.nO hN_1029 hq_1033 hz_1034) hNl_1045 (fun a9 h9 => hf_1049.mem h9) (fun a9 h9 => hf_1036.mem h9)
  obtain ⟨L_1098, eL_1099⟩ : ∃ L9 : List Nat, L9 = ((L_974 ++ [q_1032]) ++ [q_1037]) := ⟨_, rfl⟩
  rw [← eL_1099] at hN_1097
  have hGt_1100 : Gt 1 [q_1032, q_1037] S_1047 := ⟨fun i9 k9 h9 => (match i9, h9 with | 0, h9 => (by have e9 : (10 : Nat) = k9 := Option.some.inj h9; subst e9; exact ⟨hm_1058, hk_1059⟩) | 1, h9 => (by have e9 : (15 : Nat) = k9 := Option.some.inj h9; subst e9; exact ⟨e_1041, e_1042⟩) | i9 + 2, h9 => absurd h9 (by simp [gT])), (List.forall_mem_cons.mpr ⟨e_1043, (fun _ h9 => absurd h9 List.not_mem_nil)⟩), (List.forall_mem_cons.mpr ⟨e_1044, (fun _ h9 => absurd h9 List.not_mem_nil)⟩), (fun _ h9 => absurd h9 List.not_mem_nil)⟩
  have hG_1101 : Gs h (gs_978 ++ [(1, [q_1032, q_1037])]) S_1047 := Gs.snoc hG_1094 (by decide) hGt_1100 (List.forall_mem_cons.mpr ⟨(own_ne hz_1034 hm), (fun _ h9 => absurd h9 List.not_mem_nil)⟩)
  obtain ⟨gs_1102, eG_1103⟩ : ∃ G9 : List (Nat × List Nat), G9 = gs_978 ++ [(1, [q_1032, q_1037])] := ⟨_, rfl⟩
  rw [← eG_1103] at hG_1101
  refine j_aast (j := 3) (ci := 10) C 20  (by decide) rfl dX9_init_159 hm_1060 hk_1061 (inr_of (n := 16) hn_1062 (vp_lit (by decide))) (by decide) hm_1058 hk_1059 rfl ?_
  have hf_1106 : Fm (fun _ _ => False) (fun f9 b9 => b9 = h) (fun _ => False) S (tR S_1047 q_161 3 (some q_1032)) := (hf_1092.tR _ _ (fun h9 => absurd h9 hz_164))
  obtain ⟨S_1104, eS_1105⟩ : ∃ S9 : Hp, S9 = (tR S_1047 q_161 3 (some q_1032)) := ⟨_, rfl⟩
  refine J.eq (S' := S_1104) eS_1105.symm rfl rfl ?_
  have hm_1107 : h ∈ hL S_1104 := by rw [eS_1105]; exact hm_1056
  have hk_1108 : Kd S_1104 h 9 := by rw [eS_1105]; exact hk_1057
  have hm_1109 : q_1032 ∈ hL S_1104 := by rw [eS_1105]; exact hm_1058
  have hk_1110 : Kd S_1104 q_1032 10 := by rw [eS_1105]; exact hk_1059
  have hm_1111 : q_161 ∈ hL S_1104 := by rw [eS_1105]; exact hm_1060
  have hk_1112 : Kd S_1104 q_161 20 := by rw [eS_1105]; exact hk_1061
  have hn_1113 : Ln S_1104 q_161 16 := by rw [eS_1105]; exact hn_1062
  have hz_1114 : ∀ j, aI S_1104 q_161 j = 0 := by rw [eS_1105]; exact hz_1050
  have hm_1115 : q_266 ∈ hL S_1104 := by rw [eS_1105]; exact hm_1063
  have hk_1116 : Kd S_1104 q_266 13 := by rw [eS_1105]; exact hk_1064
  have hn_1117 : Ln S_1104 q_266 24000 := by rw [eS_1105]; exact hn_1065
  have hz_1118 : ∀ j, aI S_1104 q_266 j = 0 := by rw [eS_1105]; exact hz_1051
  have hm_1119 : q_295 ∈ hL S_1104 := by rw [eS_1105]; exact hm_1066
  have hk_1120 : Kd S_1104 q_295 14 := by rw [eS_1105]; exact hk_1067
  have hn_1121 : Ln S_1104 q_295 16 := by rw [eS_1105]; exact hn_1068
  have hz_1122 : ∀ j, aI S_1104 q_295 j = 0 := by rw [eS_1105]; exact hz_1052
  have hm_1123 : q_524 ∈ hL S_1104 := by rw [eS_1105]; exact hm_1069
  have hk_1124 : Kd S_1104 q_524 18 := by rw [eS_1105]; exact hk_1070
  have hn_1125 : Ln S_1104 q_524 3 := by rw [eS_1105]; exact hn_1071
  have hz_1126 : ∀ j, aI S_1104 q_524 j = 0 := by rw [eS_1105]; exact hz_1053
  have hm_1127 : q_565 ∈ hL S_1104 := by rw [eS_1105]; exact hm_1072
  have hk_1128 : Kd S_1104 q_565 19 := by rw [eS_1105]; exact hk_1073
  have hn_1129 : Ln S_1104 q_565 4 := by rw [eS_1105]; exact hn_1074
  have hz_1130 : ∀ j, aI S_1104 q_565 j = 0 := by rw [eS_1105]; exact hz_1054
  have hm_1131 : q_610 ∈ hL S_1104 := by rw [eS_1105]; exact hm_1075
  have hk_1132 : Kd S_1104 q_610 14 := by rw [eS_1105]; exact hk_1076
  have hn_1133 : Ln S_1104 q_610 12 := by rw [eS_1105]; exact hn_1077
  have hz_1134 : ∀ j, aI S_1104 q_610 j = 0 := by rw [eS_1105]; exact hz_1055
  have hv_1135 : hI S_1104 1000 q_1032 = 1 := by rw [eS_1105]; exact e_1038
  have hv_1136 : hI S_1104 1001 q_1032 = 1 := by rw [eS_1105]; exact e_1039
  have hv_1137 : hR S_1104 1003 q_1032 = (some q_1037) := by rw [eS_1105]; exact e_1044
  have hv_1138 : hR S_1104 900 h = (some s0) := by rw [eS_1105]; exact hv_1078
  have hv_1139 : hR S_1104 901 h = (some q_1) := by rw [eS_1105]; exact hv_1079
  have hv_1140 : hR S_1104 902 h = (some q_41) := by rw [eS_1105]; exact hv_1080
  have hv_1141 : hR S_1104 903 h = (some q_126) := by rw [eS_1105]; exact hv_1081
  have hv_1142 : hR S_1104 904 h = (some q_161) := by rw [eS_1105]; exact hv_1082
  have hv_1143 : hR S_1104 905 h = (some q_183) := by rw [eS_1105]; exact hv_1083
  have hv_1144 : hR S_1104 906 h = (some q_224) := by rw [eS_1105]; exact hv_1084
  have hv_1145 : hR S_1104 907 h = (some q_266) := by rw [eS_1105]; exact hv_1085
  have hv_1146 : hR S_1104 908 h = (some q_295) := by rw [eS_1105]; exact hv_1086
  have hv_1147 : hR S_1104 909 h = (some q_328) := by rw [eS_1105]; exact hv_1087
  have hv_1148 : hR S_1104 910 h = (some q_425) := by rw [eS_1105]; exact hv_1088
  have hv_1149 : hR S_1104 911 h = (some q_524) := by rw [eS_1105]; exact hv_1089
  have hv_1150 : hR S_1104 912 h = (some q_565) := by rw [eS_1105]; exact hv_1090
  have hv_1151 : hR S_1104 917 h = (some q_610) := by rw [eS_1105]; exact hv_1091
  have hf_1152 : Fm (fun _ _ => False) (fun f9 b9 => b9 = h) (fun _ => False) S S_1104 := by rw [eS_1105]; exact hf_1106
  have hN_1153 : NL S L_1098 S_1104 := by rw [eS_1105]; exact (NL.tR (S := S_1047) hN_1097)
  have hG_1154 : Gs h gs_1102 S_1104 := by rw [eS_1105]; exact (Gs.tR (S := S_1047) hG_1101)
  have hE_1155 : ELs S_1104 q_161 [q_661, q_784, q_908, q_1032] := by rw [eS_1105]; exact (show ELs (tR S_1047 q_161 3 (some q_1032)) q_161 [q_661, q_784, q_908, q_1032] from ELs.snoc hE_1095 rfl)
  show J _ _ _ _ _ 160 _
  refine j_iinc (q := 0) (v := 4) (lv' := [(2, .int 4), (0, .ref h), (1, .ref s0)]) C dX9_init_160 rfl (by decide) (by rw [hn9]; decide) rfl ?_
  refine j_goto (tgt := 138) C dX9_init_163 (by decide) ?_
  refine j_iload_n C dX9_init_138 rfl 0 rfl ?_
  refine j_aload_n C dX9_init_139 rfl 1 rfl ?_
  refine j_getr (f := 904) (v := q_161) C flX9_34 dX9_init_140 hm_1107 hk_1108 (by decide) rfl hv_1142 ?_
  refine j_alen (v := 16) C dX9_init_143 hm_1111 hk_1112 (by decide) (by decide) (len_of (n := 16) hn_1113 (by decide)) ?_
  refine j_ic_ge (tgt := 166) C dX9_init_144 (by decide) (fun c9 => absurd c9 (by decide)) (fun c9 => ?_)
  refine j_aload_n C dX9_init_147 rfl 1 rfl ?_
  show J _ _ _ _ _ 148 _
  refine j_getr (f := 904) (v := q_161) C flX9_34 dX9_init_148 hm_1107 hk_1108 (by decide) rfl hv_1142 ?_
  refine j_iload_n C dX9_init_151 rfl 0 rfl ?_
  refine j_new (N := 4) C (ci := 10) rfl rfl klX9_32 knX10 kiX10 (M.cells (by decide)) (M.slots (by decide)) dX9_init_152 (fun q_1156 hq_1157 => ?_)
  have hz_1158 : q_1156 ∉ hL S := fun h9 => hq_1157 (hf_1152.mem h9)
  have gn_1159 : ∀ g9 ∈ gs_1102, ∀ p9 ∈ (gT g9.1).2.2, g9.2.getD p9.2.1 0 ≠ q_1156 := Gs.ne hG_1154 hq_1157
  refine j_dup C dX9_init_155 rfl ?_
  have hf_1160 : Fm (fun _ _ => False) (fun f9 b9 => b9 = h) (fun _ => False) S (nO S_1104 q_1156 10) := (hf_1152.nO _ hq_1157)
  refine j_callI C [] [.ref q_1156, .int 4, .ref q_161] mlX9_38 mcX10_init (c_X10_init (nO S_1104 q_1156 10) q_1156 mem_new (kd_nO' (k := 10))) (M.rm (by decide) (by decide) (Nat.le_of_ble_eq_true rfl) (Nat.le_of_ble_eq_true rfl)) rfl rfl (Nat.le_of_ble_eq_true rfl) dX9_init_156 (fun r_1170 S_1171 hp_1172 => ?_)
  obtain ⟨rfl, hf_1173, e_1162, e_1163, q_1161, e_1164, e_1165, e_1166, e_1167, e_1168, hNl_1169⟩ := hp_1172
  refine J.eq (st' := [.ref q_1156, .int 4, .ref q_161]) rfl rfl rfl ?_
  have hz_1174 : ∀ j, aI S_1171 q_161 j = 0 := fun j9 => (hf_1173.ai (mem_old hm_1111) (fun h9 => h9) j9).trans (hz_1114 j9)
  have hz_1175 : ∀ j, aI S_1171 q_266 j = 0 := fun j9 => (hf_1173.ai (mem_old hm_1115) (fun h9 => h9) j9).trans (hz_1118 j9)
  have hz_1176 : ∀ j, aI S_1171 q_295 j = 0 := fun j9 => (hf_1173.ai (mem_old hm_1119) (fun h9 => h9) j9).trans (hz_1122 j9)
  have hz_1177 : ∀ j, aI S_1171 q_524 j = 0 := fun j9 => (hf_1173.ai (mem_old hm_1123) (fun h9 => h9) j9).trans (hz_1126 j9)
  have hz_1178 : ∀ j, aI S_1171 q_565 j = 0 := fun j9 => (hf_1173.ai (mem_old hm_1127) (fun h9 => h9) j9).trans (hz_1130 j9)
  have hz_1179 : ∀ j, aI S_1171 q_610 j = 0 := fun j9 => (hf_1173.ai (mem_old hm_1131) (fun h9 => h9) j9).trans (hz_1134 j9)
  have hm_1180 : h ∈ hL S_1171 := hf_1173.mem (mem_old hm_1107)
  have hk_1181 : Kd S_1171 h 9 := hf_1173.kd (mem_old hm_1107) (kd_nO (k := 10) hq_1157 hm_1107 hk_1108)
  have hm_1182 : q_1156 ∈ hL S_1171 := hf_1173.mem mem_new
  have hk_1183 : Kd S_1171 q_1156 10 := hf_1173.kd mem_new (kd_nO' (k := 10))
  have hm_1184 : q_161 ∈ hL S_1171 := hf_1173.mem (mem_old hm_1111)
  have hk_1185 : Kd S_1171 q_161 20 := hf_1173.kd (mem_old hm_1111) (kd_nO (k := 10) hq_1157 hm_1111 hk_1112)
  have hn_1186 : Ln S_1171 q_161 16 := hf_1173.ln (mem_old hm_1111) hn_1113
  have hm_1187 : q_266 ∈ hL S_1171 := hf_1173.mem (mem_old hm_1115)
  have hk_1188 : Kd S_1171 q_266 13 := hf_1173.kd (mem_old hm_1115) (kd_nO (k := 10) hq_1157 hm_1115 hk_1116)
  have hn_1189 : Ln S_1171 q_266 24000 := hf_1173.ln (mem_old hm_1115) hn_1117
  have hm_1190 : q_295 ∈ hL S_1171 := hf_1173.mem (mem_old hm_1119)
  have hk_1191 : Kd S_1171 q_295 14 := hf_1173.kd (mem_old hm_1119) (kd_nO (k := 10) hq_1157 hm_1119 hk_1120)
  have hn_1192 : Ln S_1171 q_295 16 := hf_1173.ln (mem_old hm_1119) hn_1121
  have hm_1193 : q_524 ∈ hL S_1171 := hf_1173.mem (mem_old hm_1123)
  have hk_1194 : Kd S_1171 q_524 18 := hf_1173.kd (mem_old hm_1123) (kd_nO (k := 10) hq_1157 hm_1123 hk_1124)
  have hn_1195 : Ln S_1171 q_524 3 := hf_1173.ln (mem_old hm_1123) hn_1125
  have hm_1196 : q_565 ∈ hL S_1171 := hf_1173.mem (mem_old hm_1127)
  have hk_1197 : Kd S_1171 q_565 19 := hf_1173.kd (mem_old hm_1127) (kd_nO (k := 10) hq_1157 hm_1127 hk_1128)
  have hn_1198 : Ln S_1171 q_565 4 := hf_1173.ln (mem_old hm_1127) hn_1129
  have hm_1199 : q_610 ∈ hL S_1171 := hf_1173.mem (mem_old hm_1131)
  have hk_1200 : Kd S_1171 q_610 14 := hf_1173.kd (mem_old hm_1131) (kd_nO (k := 10) hq_1157 hm_1131 hk_1132)
  have hn_1201 : Ln S_1171 q_610 12 := hf_1173.ln (mem_old hm_1131) hn_1133
  have hv_1202 : hR S_1171 900 h = (some s0) := hf_1173.fr (mem_old hm_1107) (fun q9 => (fun e9 => absurd (((kd_nO (k := 10) hq_1157 hm_1107 hk_1108)).symm.trans ((congrArg (hK _) e9).trans (kd_nO' (k := 10)))) (by decide)) q9) (rd_nOR (k := 10) hq_1157 hm_1107 hv_1138)
  have hv_1203 : hR S_1171 901 h = (some q_1) := hf_1173.fr (mem_old hm_1107) (fun q9 => (fun e9 => absurd (((kd_nO (k := 10) hq_1157 hm_1107 hk_1108)).symm.trans ((congrArg (hK _) e9).trans (kd_nO' (k := 10)))) (by decide)) q9) (rd_nOR (k := 10) hq_1157 hm_1107 hv_1139)
  have hv_1204 : hR S_1171 902 h = (some q_41) := hf_1173.fr (mem_old hm_1107) (fun q9 => (fun e9 => absurd (((kd_nO (k := 10) hq_1157 hm_1107 hk_1108)).symm.trans ((congrArg (hK _) e9).trans (kd_nO' (k := 10)))) (by decide)) q9) (rd_nOR (k := 10) hq_1157 hm_1107 hv_1140)
  have hv_1205 : hR S_1171 903 h = (some q_126) := hf_1173.fr (mem_old hm_1107) (fun q9 => (fun e9 => absurd (((kd_nO (k := 10) hq_1157 hm_1107 hk_1108)).symm.trans ((congrArg (hK _) e9).trans (kd_nO' (k := 10)))) (by decide)) q9) (rd_nOR (k := 10) hq_1157 hm_1107 hv_1141)
  have hv_1206 : hR S_1171 904 h = (some q_161) := hf_1173.fr (mem_old hm_1107) (fun q9 => (fun e9 => absurd (((kd_nO (k := 10) hq_1157 hm_1107 hk_1108)).symm.trans ((congrArg (hK _) e9).trans (kd_nO' (k := 10)))) (by decide)) q9) (rd_nOR (k := 10) hq_1157 hm_1107 hv_1142)
  have hv_1207 : hR S_1171 905 h = (some q_183) := hf_1173.fr (mem_old hm_1107) (fun q9 => (fun e9 => absurd (((kd_nO (k := 10) hq_1157 hm_1107 hk_1108)).symm.trans ((congrArg (hK _) e9).trans (kd_nO' (k := 10)))) (by decide)) q9) (rd_nOR (k := 10) hq_1157 hm_1107 hv_1143)
  have hv_1208 : hR S_1171 906 h = (some q_224) := hf_1173.fr (mem_old hm_1107) (fun q9 => (fun e9 => absurd (((kd_nO (k := 10) hq_1157 hm_1107 hk_1108)).symm.trans ((congrArg (hK _) e9).trans (kd_nO' (k := 10)))) (by decide)) q9) (rd_nOR (k := 10) hq_1157 hm_1107 hv_1144)
  have hv_1209 : hR S_1171 907 h = (some q_266) := hf_1173.fr (mem_old hm_1107) (fun q9 => (fun e9 => absurd (((kd_nO (k := 10) hq_1157 hm_1107 hk_1108)).symm.trans ((congrArg (hK _) e9).trans (kd_nO' (k := 10)))) (by decide)) q9) (rd_nOR (k := 10) hq_1157 hm_1107 hv_1145)
  have hv_1210 : hR S_1171 908 h = (some q_295) := hf_1173.fr (mem_old hm_1107) (fun q9 => (fun e9 => absurd (((kd_nO (k := 10) hq_1157 hm_1107 hk_1108)).symm.trans ((congrArg (hK _) e9).trans (kd_nO' (k := 10)))) (by decide)) q9) (rd_nOR (k := 10) hq_1157 hm_1107 hv_1146)
  have hv_1211 : hR S_1171 909 h = (some q_328) := hf_1173.fr (mem_old hm_1107) (fun q9 => (fun e9 => absurd (((kd_nO (k := 10) hq_1157 hm_1107 hk_1108)).symm.trans ((congrArg (hK _) e9).trans (kd_nO' (k := 10)))) (by decide)) q9) (rd_nOR (k := 10) hq_1157 hm_1107 hv_1147)
  have hv_1212 : hR S_1171 910 h = (some q_425) := hf_1173.fr (mem_old hm_1107) (fun q9 => (fun e9 => absurd (((kd_nO (k := 10) hq_1157 hm_1107 hk_1108)).symm.trans ((congrArg (hK _) e9).trans (kd_nO' (k := 10)))) (by decide)) q9) (rd_nOR (k := 10) hq_1157 hm_1107 hv_1148)
  have hv_1213 : hR S_1171 911 h = (some q_524) := hf_1173.fr (mem_old hm_1107) (fun q9 => (fun e9 => absurd (((kd_nO (k := 10) hq_1157 hm_1107 hk_1108)).symm.trans ((congrArg (hK _) e9).trans (kd_nO' (k := 10)))) (by decide)) q9) (rd_nOR (k := 10) hq_1157 hm_1107 hv_1149)
  have hv_1214 : hR S_1171 912 h = (some q_565) := hf_1173.fr (mem_old hm_1107) (fun q9 => (fun e9 => absurd (((kd_nO (k := 10) hq_1157 hm_1107 hk_1108)).symm.trans ((congrArg (hK _) e9).trans (kd_nO' (k := 10)))) (by decide)) q9) (rd_nOR (k := 10) hq_1157 hm_1107 hv_1150)
  have hv_1215 : hR S_1171 917 h = (some q_610) := hf_1173.fr (mem_old hm_1107) (fun q9 => (fun e9 => absurd (((kd_nO (k := 10) hq_1157 hm_1107 hk_1108)).symm.trans ((congrArg (hK _) e9).trans (kd_nO' (k := 10)))) (by decide)) q9) (rd_nOR (k := 10) hq_1157 hm_1107 hv_1151)
  have hf_1216 : Fm (fun _ _ => False) (fun f9 b9 => b9 = h) (fun _ => False) S S_1171 := hf_1160.then hf_1173 (fun a9 ha9 => ⟨(fun f9 h9 => (fun h9 => h9.elim (fun h8 => absurd (h8.2 ▸ ha9) hz_1158) (fun h8 => absurd (h8.2 ▸ ha9) hz_1158)) h9), (fun f9 h9 => (fun h8 => absurd (h8 ▸ ha9) hz_1158) h9), (fun h9 => h9.elim)⟩)
  have hN_1217 : NL S (L_1098 ++ [q_1156]) S_1171 := NL.mono (show NL S (L_1098 ++ [q_1156]) (nO S_1104 q_1156 10) from NL.nO hN_1153 hq_1157 hz_1158) (fun a9 h9 => hf_1173.mem h9)
  have hG_1218 : Gs h gs_1102 S_1171 := Gs.fm (show Gs h gs_1102 (nO S_1104 q_1156 10) from Gs.nO hG_1154 hq_1157) hf_1173 (fun g9 hg9 p9 hp9 => gn_1159 g9 hg9 p9 hp9)
  have hE_1219 : ELs S_1171 q_161 [q_661, q_784, q_908, q_1032] := ELs.fm (ELs.nO (S := S_1104) hE_1155) hf_1173 (mem_old hm_1111) (fun h9 => h9)
  have hz_1220 : q_1161 ∉ hL S := fun h9 => e_1164 (hf_1160.mem h9)
  have hN_1221 : NL S ((L_1098 ++ [q_1156]) ++ [q_1161]) S_1171 := NL.app (show NL S (L_1098 ++ [q_1156]) (nO S_1104 q_1156 10) from NL.nO hN_1153 hq_1157 hz_1158) hNl_1169 (fun a9 h9 => hf_1173.mem h9) (fun a9 h9 => hf_1160.mem h9)
  obtain ⟨L_1222, eL_1223⟩ : ∃ L9 : List Nat, L9 = ((L_1098 ++ [q_1156]) ++ [q_1161]) := ⟨_, rfl⟩
  rw [← eL_1223] at hN_1221
  have hGt_1224 : Gt 1 [q_1156, q_1161] S_1171 := ⟨fun i9 k9 h9 => (match i9, h9 with | 0, h9 => (by have e9 : (10 : Nat) = k9 := Option.some.inj h9; subst e9; exact ⟨hm_1182, hk_1183⟩) | 1, h9 => (by have e9 : (15 : Nat) = k9 := Option.some.inj h9; subst e9; exact ⟨e_1165, e_1166⟩) | i9 + 2, h9 => absurd h9 (by simp [gT])), (List.forall_mem_cons.mpr ⟨e_1167, (fun _ h9 => absurd h9 List.not_mem_nil)⟩), (List.forall_mem_cons.mpr ⟨e_1168, (fun _ h9 => absurd h9 List.not_mem_nil)⟩), (fun _ h9 => absurd h9 List.not_mem_nil)⟩
  have hG_1225 : Gs h (gs_1102 ++ [(1, [q_1156, q_1161])]) S_1171 := Gs.snoc hG_1218 (by decide) hGt_1224 (List.forall_mem_cons.mpr ⟨(own_ne hz_1158 hm), (fun _ h9 => absurd h9 List.not_mem_nil)⟩)
  obtain ⟨gs_1226, eG_1227⟩ : ∃ G9 : List (Nat × List Nat), G9 = gs_1102 ++ [(1, [q_1156, q_1161])] := ⟨_, rfl⟩
  rw [← eG_1227] at hG_1225
  refine j_aast (j := 4) (ci := 10) C 20  (by decide) rfl dX9_init_159 hm_1184 hk_1185 (inr_of (n := 16) hn_1186 (vp_lit (by decide))) (by decide) hm_1182 hk_1183 rfl ?_
  have hf_1230 : Fm (fun _ _ => False) (fun f9 b9 => b9 = h) (fun _ => False) S (tR S_1171 q_161 4 (some q_1156)) := (hf_1216.tR _ _ (fun h9 => absurd h9 hz_164))
  obtain ⟨S_1228, eS_1229⟩ : ∃ S9 : Hp, S9 = (tR S_1171 q_161 4 (some q_1156)) := ⟨_, rfl⟩
  refine J.eq (S' := S_1228) eS_1229.symm rfl rfl ?_
  have hm_1231 : h ∈ hL S_1228 := by rw [eS_1229]; exact hm_1180
  have hk_1232 : Kd S_1228 h 9 := by rw [eS_1229]; exact hk_1181
  have hm_1233 : q_1156 ∈ hL S_1228 := by rw [eS_1229]; exact hm_1182
  have hk_1234 : Kd S_1228 q_1156 10 := by rw [eS_1229]; exact hk_1183
  have hm_1235 : q_161 ∈ hL S_1228 := by rw [eS_1229]; exact hm_1184
  have hk_1236 : Kd S_1228 q_161 20 := by rw [eS_1229]; exact hk_1185
  have hn_1237 : Ln S_1228 q_161 16 := by rw [eS_1229]; exact hn_1186
  have hz_1238 : ∀ j, aI S_1228 q_161 j = 0 := by rw [eS_1229]; exact hz_1174
  have hm_1239 : q_266 ∈ hL S_1228 := by rw [eS_1229]; exact hm_1187
  have hk_1240 : Kd S_1228 q_266 13 := by rw [eS_1229]; exact hk_1188
  have hn_1241 : Ln S_1228 q_266 24000 := by rw [eS_1229]; exact hn_1189
  have hz_1242 : ∀ j, aI S_1228 q_266 j = 0 := by rw [eS_1229]; exact hz_1175
  have hm_1243 : q_295 ∈ hL S_1228 := by rw [eS_1229]; exact hm_1190
  have hk_1244 : Kd S_1228 q_295 14 := by rw [eS_1229]; exact hk_1191
  have hn_1245 : Ln S_1228 q_295 16 := by rw [eS_1229]; exact hn_1192
  have hz_1246 : ∀ j, aI S_1228 q_295 j = 0 := by rw [eS_1229]; exact hz_1176
  have hm_1247 : q_524 ∈ hL S_1228 := by rw [eS_1229]; exact hm_1193
  have hk_1248 : Kd S_1228 q_524 18 := by rw [eS_1229]; exact hk_1194
  have hn_1249 : Ln S_1228 q_524 3 := by rw [eS_1229]; exact hn_1195
  have hz_1250 : ∀ j, aI S_1228 q_524 j = 0 := by rw [eS_1229]; exact hz_1177
  have hm_1251 : q_565 ∈ hL S_1228 := by rw [eS_1229]; exact hm_1196
  have hk_1252 : Kd S_1228 q_565 19 := by rw [eS_1229]; exact hk_1197
  have hn_1253 : Ln S_1228 q_565 4 := by rw [eS_1229]; exact hn_1198
  have hz_1254 : ∀ j, aI S_1228 q_565 j = 0 := by rw [eS_1229]; exact hz_1178
  have hm_1255 : q_610 ∈ hL S_1228 := by rw [eS_1229]; exact hm_1199
  have hk_1256 : Kd S_1228 q_610 14 := by rw [eS_1229]; exact hk_1200
  have hn_1257 : Ln S_1228 q_610 12 := by rw [eS_1229]; exact hn_1201
  have hz_1258 : ∀ j, aI S_1228 q_610 j = 0 := by rw [eS_1229]; exact hz_1179
  have hv_1259 : hI S_1228 1000 q_1156 = 1 := by rw [eS_1229]; exact e_1162
  have hv_1260 : hI S_1228 1001 q_1156 = 1 := by rw [eS_1229]; exact e_1163
  have hv_1261 : hR S_1228 1003 q_1156 = (some q_1161) := by rw [eS_1229]; exact e_1168
  have hv_1262 : hR S_1228 900 h = (some s0) := by rw [eS_1229]; exact hv_1202
  have hv_1263 : hR S_1228 901 h = (some q_1) := by rw [eS_1229]; exact hv_1203
  have hv_1264 : hR S_1228 902 h = (some q_41) := by rw [eS_1229]; exact hv_1204
  have hv_1265 : hR S_1228 903 h = (some q_126) := by rw [eS_1229]; exact hv_1205
  have hv_1266 : hR S_1228 904 h = (some q_161) := by rw [eS_1229]; exact hv_1206
  have hv_1267 : hR S_1228 905 h = (some q_183) := by rw [eS_1229]; exact hv_1207
  have hv_1268 : hR S_1228 906 h = (some q_224) := by rw [eS_1229]; exact hv_1208
  have hv_1269 : hR S_1228 907 h = (some q_266) := by rw [eS_1229]; exact hv_1209
  have hv_1270 : hR S_1228 908 h = (some q_295) := by rw [eS_1229]; exact hv_1210
  have hv_1271 : hR S_1228 909 h = (some q_328) := by rw [eS_1229]; exact hv_1211
  have hv_1272 : hR S_1228 910 h = (some q_425) := by rw [eS_1229]; exact hv_1212
  have hv_1273 : hR S_1228 911 h = (some q_524) := by rw [eS_1229]; exact hv_1213
  have hv_1274 : hR S_1228 912 h = (some q_565) := by rw [eS_1229]; exact hv_1214
  have hv_1275 : hR S_1228 917 h = (some q_610) := by rw [eS_1229]; exact hv_1215
  have hf_1276 : Fm (fun _ _ => False) (fun f9 b9 => b9 = h) (fun _ => False) S S_1228 := by rw [eS_1229]; exact hf_1230
  have hN_1277 : NL S L_1222 S_1228 := by rw [eS_1229]; exact (NL.tR (S := S_1171) hN_1221)
  have hG_1278 : Gs h gs_1226 S_1228 := by rw [eS_1229]; exact (Gs.tR (S := S_1171) hG_1225)
  have hE_1279 : ELs S_1228 q_161 [q_661, q_784, q_908, q_1032, q_1156] := by rw [eS_1229]; exact (show ELs (tR S_1171 q_161 4 (some q_1156)) q_161 [q_661, q_784, q_908, q_1032, q_1156] from ELs.snoc hE_1219 rfl)
  refine j_iinc (q := 0) (v := 5) (lv' := [(2, .int 5), (0, .ref h), (1, .ref s0)]) C dX9_init_160 rfl (by decide) (by rw [hn9]; decide) rfl ?_
  refine j_goto (tgt := 138) C dX9_init_163 (by decide) ?_
  show J _ _ _ _ _ 138 _
  refine j_iload_n C dX9_init_138 rfl 0 rfl ?_
  refine j_aload_n C dX9_init_139 rfl 1 rfl ?_
  refine j_getr (f := 904) (v := q_161) C flX9_34 dX9_init_140 hm_1231 hk_1232 (by decide) rfl hv_1266 ?_
  refine j_alen (v := 16) C dX9_init_143 hm_1235 hk_1236 (by decide) (by decide) (len_of (n := 16) hn_1237 (by decide)) ?_
  refine j_ic_ge (tgt := 166) C dX9_init_144 (by decide) (fun c9 => absurd c9 (by decide)) (fun c9 => ?_)
  refine j_aload_n C dX9_init_147 rfl 1 rfl ?_
  refine j_getr (f := 904) (v := q_161) C flX9_34 dX9_init_148 hm_1231 hk_1232 (by decide) rfl hv_1266 ?_
  refine j_iload_n C dX9_init_151 rfl 0 rfl ?_
  show J _ _ _ _ _ 152 _
  refine j_new (N := 4) C (ci := 10) rfl rfl klX9_32 knX10 kiX10 (M.cells (by decide)) (M.slots (by decide)) dX9_init_152 (fun q_1280 hq_1281 => ?_)
  have hz_1282 : q_1280 ∉ hL S := fun h9 => hq_1281 (hf_1276.mem h9)
  have gn_1283 : ∀ g9 ∈ gs_1226, ∀ p9 ∈ (gT g9.1).2.2, g9.2.getD p9.2.1 0 ≠ q_1280 := Gs.ne hG_1278 hq_1281
  refine j_dup C dX9_init_155 rfl ?_
  have hf_1284 : Fm (fun _ _ => False) (fun f9 b9 => b9 = h) (fun _ => False) S (nO S_1228 q_1280 10) := (hf_1276.nO _ hq_1281)
  refine j_callI C [] [.ref q_1280, .int 5, .ref q_161] mlX9_38 mcX10_init (c_X10_init (nO S_1228 q_1280 10) q_1280 mem_new (kd_nO' (k := 10))) (M.rm (by decide) (by decide) (Nat.le_of_ble_eq_true rfl) (Nat.le_of_ble_eq_true rfl)) rfl rfl (Nat.le_of_ble_eq_true rfl) dX9_init_156 (fun r_1294 S_1295 hp_1296 => ?_)
  obtain ⟨rfl, hf_1297, e_1286, e_1287, q_1285, e_1288, e_1289, e_1290, e_1291, e_1292, hNl_1293⟩ := hp_1296
  refine J.eq (st' := [.ref q_1280, .int 5, .ref q_161]) rfl rfl rfl ?_
  have hz_1298 : ∀ j, aI S_1295 q_161 j = 0 := fun j9 => (hf_1297.ai (mem_old hm_1235) (fun h9 => h9) j9).trans (hz_1238 j9)
  have hz_1299 : ∀ j, aI S_1295 q_266 j = 0 := fun j9 => (hf_1297.ai (mem_old hm_1239) (fun h9 => h9) j9).trans (hz_1242 j9)
  have hz_1300 : ∀ j, aI S_1295 q_295 j = 0 := fun j9 => (hf_1297.ai (mem_old hm_1243) (fun h9 => h9) j9).trans (hz_1246 j9)
  have hz_1301 : ∀ j, aI S_1295 q_524 j = 0 := fun j9 => (hf_1297.ai (mem_old hm_1247) (fun h9 => h9) j9).trans (hz_1250 j9)
  have hz_1302 : ∀ j, aI S_1295 q_565 j = 0 := fun j9 => (hf_1297.ai (mem_old hm_1251) (fun h9 => h9) j9).trans (hz_1254 j9)
  have hz_1303 : ∀ j, aI S_1295 q_610 j = 0 := fun j9 => (hf_1297.ai (mem_old hm_1255) (fun h9 => h9) j9).trans (hz_1258 j9)
  have hm_1304 : h ∈ hL S_1295 := hf_1297.mem (mem_old hm_1231)
  have hk_1305 : Kd S_1295 h 9 := hf_1297.kd (mem_old hm_1231) (kd_nO (k := 10) hq_1281 hm_1231 hk_1232)
  have hm_1306 : q_1280 ∈ hL S_1295 := hf_1297.mem mem_new
  have hk_1307 : Kd S_1295 q_1280 10 := hf_1297.kd mem_new (kd_nO' (k := 10))
  have hm_1308 : q_161 ∈ hL S_1295 := hf_1297.mem (mem_old hm_1235)
  have hk_1309 : Kd S_1295 q_161 20 := hf_1297.kd (mem_old hm_1235) (kd_nO (k := 10) hq_1281 hm_1235 hk_1236)
  have hn_1310 : Ln S_1295 q_161 16 := hf_1297.ln (mem_old hm_1235) hn_1237
  have hm_1311 : q_266 ∈ hL S_1295 := hf_1297.mem (mem_old hm_1239)
  have hk_1312 : Kd S_1295 q_266 13 := hf_1297.kd (mem_old hm_1239) (kd_nO (k := 10) hq_1281 hm_1239 hk_1240)
  have hn_1313 : Ln S_1295 q_266 24000 := hf_1297.ln (mem_old hm_1239) hn_1241
  have hm_1314 : q_295 ∈ hL S_1295 := hf_1297.mem (mem_old hm_1243)
  have hk_1315 : Kd S_1295 q_295 14 := hf_1297.kd (mem_old hm_1243) (kd_nO (k := 10) hq_1281 hm_1243 hk_1244)
  have hn_1316 : Ln S_1295 q_295 16 := hf_1297.ln (mem_old hm_1243) hn_1245
  have hm_1317 : q_524 ∈ hL S_1295 := hf_1297.mem (mem_old hm_1247)
  have hk_1318 : Kd S_1295 q_524 18 := hf_1297.kd (mem_old hm_1247) (kd_nO (k := 10) hq_1281 hm_1247 hk_1248)
  have hn_1319 : Ln S_1295 q_524 3 := hf_1297.ln (mem_old hm_1247) hn_1249
  have hm_1320 : q_565 ∈ hL S_1295 := hf_1297.mem (mem_old hm_1251)
  have hk_1321 : Kd S_1295 q_565 19 := hf_1297.kd (mem_old hm_1251) (kd_nO (k := 10) hq_1281 hm_1251 hk_1252)
  have hn_1322 : Ln S_1295 q_565 4 := hf_1297.ln (mem_old hm_1251) hn_1253
  have hm_1323 : q_610 ∈ hL S_1295 := hf_1297.mem (mem_old hm_1255)
  have hk_1324 : Kd S_1295 q_610 14 := hf_1297.kd (mem_old hm_1255) (kd_nO (k := 10) hq_1281 hm_1255 hk_1256)
  have hn_1325 : Ln S_1295 q_610 12 := hf_1297.ln (mem_old hm_1255) hn_1257
  have hv_1326 : hR S_1295 900 h = (some s0) := hf_1297.fr (mem_old hm_1231) (fun q9 => (fun e9 => absurd (((kd_nO (k := 10) hq_1281 hm_1231 hk_1232)).symm.trans ((congrArg (hK _) e9).trans (kd_nO' (k := 10)))) (by decide)) q9) (rd_nOR (k := 10) hq_1281 hm_1231 hv_1262)
  have hv_1327 : hR S_1295 901 h = (some q_1) := hf_1297.fr (mem_old hm_1231) (fun q9 => (fun e9 => absurd (((kd_nO (k := 10) hq_1281 hm_1231 hk_1232)).symm.trans ((congrArg (hK _) e9).trans (kd_nO' (k := 10)))) (by decide)) q9) (rd_nOR (k := 10) hq_1281 hm_1231 hv_1263)
  have hv_1328 : hR S_1295 902 h = (some q_41) := hf_1297.fr (mem_old hm_1231) (fun q9 => (fun e9 => absurd (((kd_nO (k := 10) hq_1281 hm_1231 hk_1232)).symm.trans ((congrArg (hK _) e9).trans (kd_nO' (k := 10)))) (by decide)) q9) (rd_nOR (k := 10) hq_1281 hm_1231 hv_1264)
  have hv_1329 : hR S_1295 903 h = (some q_126) := hf_1297.fr (mem_old hm_1231) (fun q9 => (fun e9 => absurd (((kd_nO (k := 10) hq_1281 hm_1231 hk_1232)).symm.trans ((congrArg (hK _) e9).trans (kd_nO' (k := 10)))) (by decide)) q9) (rd_nOR (k := 10) hq_1281 hm_1231 hv_1265)
  have hv_1330 : hR S_1295 904 h = (some q_161) := hf_1297.fr (mem_old hm_1231) (fun q9 => (fun e9 => absurd (((kd_nO (k := 10) hq_1281 hm_1231 hk_1232)).symm.trans ((congrArg (hK _) e9).trans (kd_nO' (k := 10)))) (by decide)) q9) (rd_nOR (k := 10) hq_1281 hm_1231 hv_1266)
  have hv_1331 : hR S_1295 905 h = (some q_183) := hf_1297.fr (mem_old hm_1231) (fun q9 => (fun e9 => absurd (((kd_nO (k := 10) hq_1281 hm_1231 hk_1232)).symm.trans ((congrArg (hK _) e9).trans (kd_nO' (k := 10)))) (by decide)) q9) (rd_nOR (k := 10) hq_1281 hm_1231 hv_1267)
  have hv_1332 : hR S_1295 906 h = (some q_224) := hf_1297.fr (mem_old hm_1231) (fun q9 => (fun e9 => absurd (((kd_nO (k := 10) hq_1281 hm_1231 hk_1232)).symm.trans ((congrArg (hK _) e9).trans (kd_nO' (k := 10)))) (by decide)) q9) (rd_nOR (k := 10) hq_1281 hm_1231 hv_1268)
  have hv_1333 : hR S_1295 907 h = (some q_266) := hf_1297.fr (mem_old hm_1231) (fun q9 => (fun e9 => absurd (((kd_nO (k := 10) hq_1281 hm_1231 hk_1232)).symm.trans ((congrArg (hK _) e9).trans (kd_nO' (k := 10)))) (by decide)) q9) (rd_nOR (k := 10) hq_1281 hm_1231 hv_1269)
  have hv_1334 : hR S_1295 908 h = (some q_295) := hf_1297.fr (mem_old hm_1231) (fun q9 => (fun e9 => absurd (((kd_nO (k := 10) hq_1281 hm_1231 hk_1232)).symm.trans ((congrArg (hK _) e9).trans (kd_nO' (k := 10)))) (by decide)) q9) (rd_nOR (k := 10) hq_1281 hm_1231 hv_1270)
  have hv_1335 : hR S_1295 909 h = (some q_328) := hf_1297.fr (mem_old hm_1231) (fun q9 => (fun e9 => absurd (((kd_nO (k := 10) hq_1281 hm_1231 hk_1232)).symm.trans ((congrArg (hK _) e9).trans (kd_nO' (k := 10)))) (by decide)) q9) (rd_nOR (k := 10) hq_1281 hm_1231 hv_1271)
  have hv_1336 : hR S_1295 910 h = (some q_425) := hf_1297.fr (mem_old hm_1231) (fun q9 => (fun e9 => absurd (((kd_nO (k := 10) hq_1281 hm_1231 hk_1232)).symm.trans ((congrArg (hK _) e9).trans (kd_nO' (k := 10)))) (by decide)) q9) (rd_nOR (k := 10) hq_1281 hm_1231 hv_1272)
  have hv_1337 : hR S_1295 911 h = (some q_524) := hf_1297.fr (mem_old hm_1231) (fun q9 => (fun e9 => absurd (((kd_nO (k := 10) hq_1281 hm_1231 hk_1232)).symm.trans ((congrArg (hK _) e9).trans (kd_nO' (k := 10)))) (by decide)) q9) (rd_nOR (k := 10) hq_1281 hm_1231 hv_1273)
  have hv_1338 : hR S_1295 912 h = (some q_565) := hf_1297.fr (mem_old hm_1231) (fun q9 => (fun e9 => absurd (((kd_nO (k := 10) hq_1281 hm_1231 hk_1232)).symm.trans ((congrArg (hK _) e9).trans (kd_nO' (k := 10)))) (by decide)) q9) (rd_nOR (k := 10) hq_1281 hm_1231 hv_1274)
  have hv_1339 : hR S_1295 917 h = (some q_610) := hf_1297.fr (mem_old hm_1231) (fun q9 => (fun e9 => absurd (((kd_nO (k := 10) hq_1281 hm_1231 hk_1232)).symm.trans ((congrArg (hK _) e9).trans (kd_nO' (k := 10)))) (by decide)) q9) (rd_nOR (k := 10) hq_1281 hm_1231 hv_1275)
  have hf_1340 : Fm (fun _ _ => False) (fun f9 b9 => b9 = h) (fun _ => False) S S_1295 := hf_1284.then hf_1297 (fun a9 ha9 => ⟨(fun f9 h9 => (fun h9 => h9.elim (fun h8 => absurd (h8.2 ▸ ha9) hz_1282) (fun h8 => absurd (h8.2 ▸ ha9) hz_1282)) h9), (fun f9 h9 => (fun h8 => absurd (h8 ▸ ha9) hz_1282) h9), (fun h9 => h9.elim)⟩)
  have hN_1341 : NL S (L_1222 ++ [q_1280]) S_1295 := NL.mono (show NL S (L_1222 ++ [q_1280]) (nO S_1228 q_1280 10) from NL.nO hN_1277 hq_1281 hz_1282) (fun a9 h9 => hf_1297.mem h9)
  have hG_1342 : Gs h gs_1226 S_1295 := Gs.fm (show Gs h gs_1226 (nO S_1228 q_1280 10) from Gs.nO hG_1278 hq_1281) hf_1297 (fun g9 hg9 p9 hp9 => gn_1283 g9 hg9 p9 hp9)
  have hE_1343 : ELs S_1295 q_161 [q_661, q_784, q_908, q_1032, q_1156] := ELs.fm (ELs.nO (S := S_1228) hE_1279) hf_1297 (mem_old hm_1235) (fun h9 => h9)
  have hz_1344 : q_1285 ∉ hL S := fun h9 => e_1288 (hf_1284.mem h9)
  have hN_1345 : NL S ((L_1222 ++ [q_1280]) ++ [q_1285]) S_1295 := NL.app (show NL S (L_1222 ++ [q_1280]) (nO S_1228 q_1280 10) from NL.nO hN_1277 hq_1281 hz_1282) hNl_1293 (fun a9 h9 => hf_1297.mem h9) (fun a9 h9 => hf_1284.mem h9)
  obtain ⟨L_1346, eL_1347⟩ : ∃ L9 : List Nat, L9 = ((L_1222 ++ [q_1280]) ++ [q_1285]) := ⟨_, rfl⟩
  rw [← eL_1347] at hN_1345
  have hGt_1348 : Gt 1 [q_1280, q_1285] S_1295 := ⟨fun i9 k9 h9 => (match i9, h9 with | 0, h9 => (by have e9 : (10 : Nat) = k9 := Option.some.inj h9; subst e9; exact ⟨hm_1306, hk_1307⟩) | 1, h9 => (by have e9 : (15 : Nat) = k9 := Option.some.inj h9; subst e9; exact ⟨e_1289, e_1290⟩) | i9 + 2, h9 => absurd h9 (by simp [gT])), (List.forall_mem_cons.mpr ⟨e_1291, (fun _ h9 => absurd h9 List.not_mem_nil)⟩), (List.forall_mem_cons.mpr ⟨e_1292, (fun _ h9 => absurd h9 List.not_mem_nil)⟩), (fun _ h9 => absurd h9 List.not_mem_nil)⟩
  have hG_1349 : Gs h (gs_1226 ++ [(1, [q_1280, q_1285])]) S_1295 := Gs.snoc hG_1342 (by decide) hGt_1348 (List.forall_mem_cons.mpr ⟨(own_ne hz_1282 hm), (fun _ h9 => absurd h9 List.not_mem_nil)⟩)
  obtain ⟨gs_1350, eG_1351⟩ : ∃ G9 : List (Nat × List Nat), G9 = gs_1226 ++ [(1, [q_1280, q_1285])] := ⟨_, rfl⟩
  rw [← eG_1351] at hG_1349
  refine j_aast (j := 5) (ci := 10) C 20  (by decide) rfl dX9_init_159 hm_1308 hk_1309 (inr_of (n := 16) hn_1310 (vp_lit (by decide))) (by decide) hm_1306 hk_1307 rfl ?_
  have hf_1354 : Fm (fun _ _ => False) (fun f9 b9 => b9 = h) (fun _ => False) S (tR S_1295 q_161 5 (some q_1280)) := (hf_1340.tR _ _ (fun h9 => absurd h9 hz_164))
  obtain ⟨S_1352, eS_1353⟩ : ∃ S9 : Hp, S9 = (tR S_1295 q_161 5 (some q_1280)) := ⟨_, rfl⟩
  refine J.eq (S' := S_1352) eS_1353.symm rfl rfl ?_
  have hm_1355 : h ∈ hL S_1352 := by rw [eS_1353]; exact hm_1304
  have hk_1356 : Kd S_1352 h 9 := by rw [eS_1353]; exact hk_1305
  have hm_1357 : q_1280 ∈ hL S_1352 := by rw [eS_1353]; exact hm_1306
  have hk_1358 : Kd S_1352 q_1280 10 := by rw [eS_1353]; exact hk_1307
  have hm_1359 : q_161 ∈ hL S_1352 := by rw [eS_1353]; exact hm_1308
  have hk_1360 : Kd S_1352 q_161 20 := by rw [eS_1353]; exact hk_1309
  have hn_1361 : Ln S_1352 q_161 16 := by rw [eS_1353]; exact hn_1310
  have hz_1362 : ∀ j, aI S_1352 q_161 j = 0 := by rw [eS_1353]; exact hz_1298
  have hm_1363 : q_266 ∈ hL S_1352 := by rw [eS_1353]; exact hm_1311
  have hk_1364 : Kd S_1352 q_266 13 := by rw [eS_1353]; exact hk_1312
  have hn_1365 : Ln S_1352 q_266 24000 := by rw [eS_1353]; exact hn_1313
  have hz_1366 : ∀ j, aI S_1352 q_266 j = 0 := by rw [eS_1353]; exact hz_1299
  have hm_1367 : q_295 ∈ hL S_1352 := by rw [eS_1353]; exact hm_1314
  have hk_1368 : Kd S_1352 q_295 14 := by rw [eS_1353]; exact hk_1315
  have hn_1369 : Ln S_1352 q_295 16 := by rw [eS_1353]; exact hn_1316
  have hz_1370 : ∀ j, aI S_1352 q_295 j = 0 := by rw [eS_1353]; exact hz_1300
  have hm_1371 : q_524 ∈ hL S_1352 := by rw [eS_1353]; exact hm_1317
  have hk_1372 : Kd S_1352 q_524 18 := by rw [eS_1353]; exact hk_1318
  have hn_1373 : Ln S_1352 q_524 3 := by rw [eS_1353]; exact hn_1319
  have hz_1374 : ∀ j, aI S_1352 q_524 j = 0 := by rw [eS_1353]; exact hz_1301
  have hm_1375 : q_565 ∈ hL S_1352 := by rw [eS_1353]; exact hm_1320
  have hk_1376 : Kd S_1352 q_565 19 := by rw [eS_1353]; exact hk_1321
  have hn_1377 : Ln S_1352 q_565 4 := by rw [eS_1353]; exact hn_1322
  have hz_1378 : ∀ j, aI S_1352 q_565 j = 0 := by rw [eS_1353]; exact hz_1302
  have hm_1379 : q_610 ∈ hL S_1352 := by rw [eS_1353]; exact hm_1323
  have hk_1380 : Kd S_1352 q_610 14 := by rw [eS_1353]; exact hk_1324
  have hn_1381 : Ln S_1352 q_610 12 := by rw [eS_1353]; exact hn_1325
  have hz_1382 : ∀ j, aI S_1352 q_610 j = 0 := by rw [eS_1353]; exact hz_1303
  have hv_1383 : hI S_1352 1000 q_1280 = 1 := by rw [eS_1353]; exact e_1286
  have hv_1384 : hI S_1352 1001 q_1280 = 1 := by rw [eS_1353]; exact e_1287
  have hv_1385 : hR S_1352 1003 q_1280 = (some q_1285) := by rw [eS_1353]; exact e_1292
  have hv_1386 : hR S_1352 900 h = (some s0) := by rw [eS_1353]; exact hv_1326
  have hv_1387 : hR S_1352 901 h = (some q_1) := by rw [eS_1353]; exact hv_1327
  have hv_1388 : hR S_1352 902 h = (some q_41) := by rw [eS_1353]; exact hv_1328
  have hv_1389 : hR S_1352 903 h = (some q_126) := by rw [eS_1353]; exact hv_1329
  have hv_1390 : hR S_1352 904 h = (some q_161) := by rw [eS_1353]; exact hv_1330
  have hv_1391 : hR S_1352 905 h = (some q_183) := by rw [eS_1353]; exact hv_1331
  have hv_1392 : hR S_1352 906 h = (some q_224) := by rw [eS_1353]; exact hv_1332
  have hv_1393 : hR S_1352 907 h = (some q_266) := by rw [eS_1353]; exact hv_1333
  have hv_1394 : hR S_1352 908 h = (some q_295) := by rw [eS_1353]; exact hv_1334
  have hv_1395 : hR S_1352 909 h = (some q_328) := by rw [eS_1353]; exact hv_1335
  have hv_1396 : hR S_1352 910 h = (some q_425) := by rw [eS_1353]; exact hv_1336
  have hv_1397 : hR S_1352 911 h = (some q_524) := by rw [eS_1353]; exact hv_1337
  have hv_1398 : hR S_1352 912 h = (some q_565) := by rw [eS_1353]; exact hv_1338
  have hv_1399 : hR S_1352 917 h = (some q_610) := by rw [eS_1353]; exact hv_1339
  have hf_1400 : Fm (fun _ _ => False) (fun f9 b9 => b9 = h) (fun _ => False) S S_1352 := by rw [eS_1353]; exact hf_1354
  have hN_1401 : NL S L_1346 S_1352 := by rw [eS_1353]; exact (NL.tR (S := S_1295) hN_1345)
  have hG_1402 : Gs h gs_1350 S_1352 := by rw [eS_1353]; exact (Gs.tR (S := S_1295) hG_1349)
  have hE_1403 : ELs S_1352 q_161 [q_661, q_784, q_908, q_1032, q_1156, q_1280] := by rw [eS_1353]; exact (show ELs (tR S_1295 q_161 5 (some q_1280)) q_161 [q_661, q_784, q_908, q_1032, q_1156, q_1280] from ELs.snoc hE_1343 rfl)
  refine j_iinc (q := 0) (v := 6) (lv' := [(2, .int 6), (0, .ref h), (1, .ref s0)]) C dX9_init_160 rfl (by decide) (by rw [hn9]; decide) rfl ?_
  refine j_goto (tgt := 138) C dX9_init_163 (by decide) ?_
  refine j_iload_n C dX9_init_138 rfl 0 rfl ?_
  refine j_aload_n C dX9_init_139 rfl 1 rfl ?_
  show J _ _ _ _ _ 140 _
  refine j_getr (f := 904) (v := q_161) C flX9_34 dX9_init_140 hm_1355 hk_1356 (by decide) rfl hv_1390 ?_
  refine j_alen (v := 16) C dX9_init_143 hm_1359 hk_1360 (by decide) (by decide) (len_of (n := 16) hn_1361 (by decide)) ?_
  refine j_ic_ge (tgt := 166) C dX9_init_144 (by decide) (fun c9 => absurd c9 (by decide)) (fun c9 => ?_)
  refine j_aload_n C dX9_init_147 rfl 1 rfl ?_
  refine j_getr (f := 904) (v := q_161) C flX9_34 dX9_init_148 hm_1355 hk_1356 (by decide) rfl hv_1390 ?_
  refine j_iload_n C dX9_init_151 rfl 0 rfl ?_
  refine j_new (N := 4) C (ci := 10) rfl rfl klX9_32 knX10 kiX10 (M.cells (by decide)) (M.slots (by decide)) dX9_init_152 (fun q_1404 hq_1405 => ?_)
  have hz_1406 : q_1404 ∉ hL S := fun h9 => hq_1405 (hf_1400.mem h9)
  have gn_1407 : ∀ g9 ∈ gs_1350, ∀ p9 ∈ (gT g9.1).2.2, g9.2.getD p9.2.1 0 ≠ q_1404 := Gs.ne hG_1402 hq_1405
  refine j_dup C dX9_init_155 rfl ?_
  show J _ _ _ _ _ 156 _
  have hf_1408 : Fm (fun _ _ => False) (fun f9 b9 => b9 = h) (fun _ => False) S (nO S_1352 q_1404 10) := (hf_1400.nO _ hq_1405)
  refine j_callI C [] [.ref q_1404, .int 6, .ref q_161] mlX9_38 mcX10_init (c_X10_init (nO S_1352 q_1404 10) q_1404 mem_new (kd_nO' (k := 10))) (M.rm (by decide) (by decide) (Nat.le_of_ble_eq_true rfl) (Nat.le_of_ble_eq_true rfl)) rfl rfl (Nat.le_of_ble_eq_true rfl) dX9_init_156 (fun r_1418 S_1419 hp_1420 => ?_)
  obtain ⟨rfl, hf_1421, e_1410, e_1411, q_1409, e_1412, e_1413, e_1414, e_1415, e_1416, hNl_1417⟩ := hp_1420
  refine J.eq (st' := [.ref q_1404, .int 6, .ref q_161]) rfl rfl rfl ?_
  have hz_1422 : ∀ j, aI S_1419 q_161 j = 0 := fun j9 => (hf_1421.ai (mem_old hm_1359) (fun h9 => h9) j9).trans (hz_1362 j9)
  have hz_1423 : ∀ j, aI S_1419 q_266 j = 0 := fun j9 => (hf_1421.ai (mem_old hm_1363) (fun h9 => h9) j9).trans (hz_1366 j9)
  have hz_1424 : ∀ j, aI S_1419 q_295 j = 0 := fun j9 => (hf_1421.ai (mem_old hm_1367) (fun h9 => h9) j9).trans (hz_1370 j9)
  have hz_1425 : ∀ j, aI S_1419 q_524 j = 0 := fun j9 => (hf_1421.ai (mem_old hm_1371) (fun h9 => h9) j9).trans (hz_1374 j9)
  have hz_1426 : ∀ j, aI S_1419 q_565 j = 0 := fun j9 => (hf_1421.ai (mem_old hm_1375) (fun h9 => h9) j9).trans (hz_1378 j9)
  have hz_1427 : ∀ j, aI S_1419 q_610 j = 0 := fun j9 => (hf_1421.ai (mem_old hm_1379) (fun h9 => h9) j9).trans (hz_1382 j9)
  have hm_1428 : h ∈ hL S_1419 := hf_1421.mem (mem_old hm_1355)
  have hk_1429 : Kd S_1419 h 9 := hf_1421.kd (mem_old hm_1355) (kd_nO (k := 10) hq_1405 hm_1355 hk_1356)
  have hm_1430 : q_1404 ∈ hL S_1419 := hf_1421.mem mem_new
  have hk_1431 : Kd S_1419 q_1404 10 := hf_1421.kd mem_new (kd_nO' (k := 10))
  have hm_1432 : q_161 ∈ hL S_1419 := hf_1421.mem (mem_old hm_1359)
  have hk_1433 : Kd S_1419 q_161 20 := hf_1421.kd (mem_old hm_1359) (kd_nO (k := 10) hq_1405 hm_1359 hk_1360)
  have hn_1434 : Ln S_1419 q_161 16 := hf_1421.ln (mem_old hm_1359) hn_1361
  have hm_1435 : q_266 ∈ hL S_1419 := hf_1421.mem (mem_old hm_1363)
  have hk_1436 : Kd S_1419 q_266 13 := hf_1421.kd (mem_old hm_1363) (kd_nO (k := 10) hq_1405 hm_1363 hk_1364)
  have hn_1437 : Ln S_1419 q_266 24000 := hf_1421.ln (mem_old hm_1363) hn_1365
  have hm_1438 : q_295 ∈ hL S_1419 := hf_1421.mem (mem_old hm_1367)
  have hk_1439 : Kd S_1419 q_295 14 := hf_1421.kd (mem_old hm_1367) (kd_nO (k := 10) hq_1405 hm_1367 hk_1368)
  have hn_1440 : Ln S_1419 q_295 16 := hf_1421.ln (mem_old hm_1367) hn_1369
  have hm_1441 : q_524 ∈ hL S_1419 := hf_1421.mem (mem_old hm_1371)
  have hk_1442 : Kd S_1419 q_524 18 := hf_1421.kd (mem_old hm_1371) (kd_nO (k := 10) hq_1405 hm_1371 hk_1372)
  have hn_1443 : Ln S_1419 q_524 3 := hf_1421.ln (mem_old hm_1371) hn_1373
  have hm_1444 : q_565 ∈ hL S_1419 := hf_1421.mem (mem_old hm_1375)
  have hk_1445 : Kd S_1419 q_565 19 := hf_1421.kd (mem_old hm_1375) (kd_nO (k := 10) hq_1405 hm_1375 hk_1376)
  have hn_1446 : Ln S_1419 q_565 4 := hf_1421.ln (mem_old hm_1375) hn_1377
  have hm_1447 : q_610 ∈ hL S_1419 := hf_1421.mem (mem_old hm_1379)
  have hk_1448 : Kd S_1419 q_610 14 := hf_1421.kd (mem_old hm_1379) (kd_nO (k := 10) hq_1405 hm_1379 hk_1380)
  have hn_1449 : Ln S_1419 q_610 12 := hf_1421.ln (mem_old hm_1379) hn_1381
  have hv_1450 : hR S_1419 900 h = (some s0) := hf_1421.fr (mem_old hm_1355) (fun q9 => (fun e9 => absurd (((kd_nO (k := 10) hq_1405 hm_1355 hk_1356)).symm.trans ((congrArg (hK _) e9).trans (kd_nO' (k := 10)))) (by decide)) q9) (rd_nOR (k := 10) hq_1405 hm_1355 hv_1386)
  have hv_1451 : hR S_1419 901 h = (some q_1) := hf_1421.fr (mem_old hm_1355) (fun q9 => (fun e9 => absurd (((kd_nO (k := 10) hq_1405 hm_1355 hk_1356)).symm.trans ((congrArg (hK _) e9).trans (kd_nO' (k := 10)))) (by decide)) q9) (rd_nOR (k := 10) hq_1405 hm_1355 hv_1387)
  have hv_1452 : hR S_1419 902 h = (some q_41) := hf_1421.fr (mem_old hm_1355) (fun q9 => (fun e9 => absurd (((kd_nO (k := 10) hq_1405 hm_1355 hk_1356)).symm.trans ((congrArg (hK _) e9).trans (kd_nO' (k := 10)))) (by decide)) q9) (rd_nOR (k := 10) hq_1405 hm_1355 hv_1388)
  have hv_1453 : hR S_1419 903 h = (some q_126) := hf_1421.fr (mem_old hm_1355) (fun q9 => (fun e9 => absurd (((kd_nO (k := 10) hq_1405 hm_1355 hk_1356)).symm.trans ((congrArg (hK _) e9).trans (kd_nO' (k := 10)))) (by decide)) q9) (rd_nOR (k := 10) hq_1405 hm_1355 hv_1389)
  have hv_1454 : hR S_1419 904 h = (some q_161) := hf_1421.fr (mem_old hm_1355) (fun q9 => (fun e9 => absurd (((kd_nO (k := 10) hq_1405 hm_1355 hk_1356)).symm.trans ((congrArg (hK _) e9).trans (kd_nO' (k := 10)))) (by decide)) q9) (rd_nOR (k := 10) hq_1405 hm_1355 hv_1390)
  have hv_1455 : hR S_1419 905 h = (some q_183) := hf_1421.fr (mem_old hm_1355) (fun q9 => (fun e9 => absurd (((kd_nO (k := 10) hq_1405 hm_1355 hk_1356)).symm.trans ((congrArg (hK _) e9).trans (kd_nO' (k := 10)))) (by decide)) q9) (rd_nOR (k := 10) hq_1405 hm_1355 hv_1391)
  have hv_1456 : hR S_1419 906 h = (some q_224) := hf_1421.fr (mem_old hm_1355) (fun q9 => (fun e9 => absurd (((kd_nO (k := 10) hq_1405 hm_1355 hk_1356)).symm.trans ((congrArg (hK _) e9).trans (kd_nO' (k := 10)))) (by decide)) q9) (rd_nOR (k := 10) hq_1405 hm_1355 hv_1392)
  have hv_1457 : hR S_1419 907 h = (some q_266) := hf_1421.fr (mem_old hm_1355) (fun q9 => (fun e9 => absurd (((kd_nO (k := 10) hq_1405 hm_1355 hk_1356)).symm.trans ((congrArg (hK _) e9).trans (kd_nO' (k := 10)))) (by decide)) q9) (rd_nOR (k := 10) hq_1405 hm_1355 hv_1393)
  have hv_1458 : hR S_1419 908 h = (some q_295) := hf_1421.fr (mem_old hm_1355) (fun q9 => (fun e9 => absurd (((kd_nO (k := 10) hq_1405 hm_1355 hk_1356)).symm.trans ((congrArg (hK _) e9).trans (kd_nO' (k := 10)))) (by decide)) q9) (rd_nOR (k := 10) hq_1405 hm_1355 hv_1394)
  have hv_1459 : hR S_1419 909 h = (some q_328) := hf_1421.fr (mem_old hm_1355) (fun q9 => (fun e9 => absurd (((kd_nO (k := 10) hq_1405 hm_1355 hk_1356)).symm.trans ((congrArg (hK _) e9).trans (kd_nO' (k := 10)))) (by decide)) q9) (rd_nOR (k := 10) hq_1405 hm_1355 hv_1395)
  have hv_1460 : hR S_1419 910 h = (some q_425) := hf_1421.fr (mem_old hm_1355) (fun q9 => (fun e9 => absurd (((kd_nO (k := 10) hq_1405 hm_1355 hk_1356)).symm.trans ((congrArg (hK _) e9).trans (kd_nO' (k := 10)))) (by decide)) q9) (rd_nOR (k := 10) hq_1405 hm_1355 hv_1396)
  have hv_1461 : hR S_1419 911 h = (some q_524) := hf_1421.fr (mem_old hm_1355) (fun q9 => (fun e9 => absurd (((kd_nO (k := 10) hq_1405 hm_1355 hk_1356)).symm.trans ((congrArg (hK _) e9).trans (kd_nO' (k := 10)))) (by decide)) q9) (rd_nOR (k := 10) hq_1405 hm_1355 hv_1397)
  have hv_1462 : hR S_1419 912 h = (some q_565) := hf_1421.fr (mem_old hm_1355) (fun q9 => (fun e9 => absurd (((kd_nO (k := 10) hq_1405 hm_1355 hk_1356)).symm.trans ((congrArg (hK _) e9).trans (kd_nO' (k := 10)))) (by decide)) q9) (rd_nOR (k := 10) hq_1405 hm_1355 hv_1398)
  have hv_1463 : hR S_1419 917 h = (some q_610) := hf_1421.fr (mem_old hm_1355) (fun q9 => (fun e9 => absurd (((kd_nO (k := 10) hq_1405 hm_1355 hk_1356)).symm.trans ((congrArg (hK _) e9).trans (kd_nO' (k := 10)))) (by decide)) q9) (rd_nOR (k := 10) hq_1405 hm_1355 hv_1399)
  have hf_1464 : Fm (fun _ _ => False) (fun f9 b9 => b9 = h) (fun _ => False) S S_1419 := hf_1408.then hf_1421 (fun a9 ha9 => ⟨(fun f9 h9 => (fun h9 => h9.elim (fun h8 => absurd (h8.2 ▸ ha9) hz_1406) (fun h8 => absurd (h8.2 ▸ ha9) hz_1406)) h9), (fun f9 h9 => (fun h8 => absurd (h8 ▸ ha9) hz_1406) h9), (fun h9 => h9.elim)⟩)
  have hN_1465 : NL S (L_1346 ++ [q_1404]) S_1419 := NL.mono (show NL S (L_1346 ++ [q_1404]) (nO S_1352 q_1404 10) from NL.nO hN_1401 hq_1405 hz_1406) (fun a9 h9 => hf_1421.mem h9)
  have hG_1466 : Gs h gs_1350 S_1419 := Gs.fm (show Gs h gs_1350 (nO S_1352 q_1404 10) from Gs.nO hG_1402 hq_1405) hf_1421 (fun g9 hg9 p9 hp9 => gn_1407 g9 hg9 p9 hp9)
  have hE_1467 : ELs S_1419 q_161 [q_661, q_784, q_908, q_1032, q_1156, q_1280] := ELs.fm (ELs.nO (S := S_1352) hE_1403) hf_1421 (mem_old hm_1359) (fun h9 => h9)
  have hz_1468 : q_1409 ∉ hL S := fun h9 => e_1412 (hf_1408.mem h9)
  have hN_1469 : NL S ((L_1346 ++ [q_1404]) ++ [q_1409]) S_1419 := NL.app (show NL S (L_1346 ++ [q_1404]) (nO S_1352 q_1404 10) from NL.nO hN_1401 hq_1405 hz_1406) hNl_1417 (fun a9 h9 => hf_1421.mem h9) (fun a9 h9 => hf_1408.mem h9)
  obtain ⟨L_1470, eL_1471⟩ : ∃ L9 : List Nat, L9 = ((L_1346 ++ [q_1404]) ++ [q_1409]) := ⟨_, rfl⟩
  rw [← eL_1471] at hN_1469
  have hGt_1472 : Gt 1 [q_1404, q_1409] S_1419 := ⟨fun i9 k9 h9 => (match i9, h9 with | 0, h9 => (by have e9 : (10 : Nat) = k9 := Option.some.inj h9; subst e9; exact ⟨hm_1430, hk_1431⟩) | 1, h9 => (by have e9 : (15 : Nat) = k9 := Option.some.inj h9; subst e9; exact ⟨e_1413, e_1414⟩) | i9 + 2, h9 => absurd h9 (by simp [gT])), (List.forall_mem_cons.mpr ⟨e_1415, (fun _ h9 => absurd h9 List.not_mem_nil)⟩), (List.forall_mem_cons.mpr ⟨e_1416, (fun _ h9 => absurd h9 List.not_mem_nil)⟩), (fun _ h9 => absurd h9 List.not_mem_nil)⟩
  have hG_1473 : Gs h (gs_1350 ++ [(1, [q_1404, q_1409])]) S_1419 := Gs.snoc hG_1466 (by decide) hGt_1472 (List.forall_mem_cons.mpr ⟨(own_ne hz_1406 hm), (fun _ h9 => absurd h9 List.not_mem_nil)⟩)
  obtain ⟨gs_1474, eG_1475⟩ : ∃ G9 : List (Nat × List Nat), G9 = gs_1350 ++ [(1, [q_1404, q_1409])] := ⟨_, rfl⟩
  rw [← eG_1475] at hG_1473
  refine j_aast (j := 6) (ci := 10) C 20  (by decide) rfl dX9_init_159 hm_1432 hk_1433 (inr_of (n := 16) hn_1434 (vp_lit (by decide))) (by decide) hm_1430 hk_1431 rfl ?_
  have hf_1478 : Fm (fun _ _ => False) (fun f9 b9 => b9 = h) (fun _ => False) S (tR S_1419 q_161 6 (some q_1404)) := (hf_1464.tR _ _ (fun h9 => absurd h9 hz_164))
  obtain ⟨S_1476, eS_1477⟩ : ∃ S9 : Hp, S9 = (tR S_1419 q_161 6 (some q_1404)) := ⟨_, rfl⟩
  refine J.eq (S' := S_1476) eS_1477.symm rfl rfl ?_
  have hm_1479 : h ∈ hL S_1476 := by rw [eS_1477]; exact hm_1428
  have hk_1480 : Kd S_1476 h 9 := by rw [eS_1477]; exact hk_1429
  have hm_1481 : q_1404 ∈ hL S_1476 := by rw [eS_1477]; exact hm_1430
  have hk_1482 : Kd S_1476 q_1404 10 := by rw [eS_1477]; exact hk_1431
  have hm_1483 : q_161 ∈ hL S_1476 := by rw [eS_1477]; exact hm_1432
  have hk_1484 : Kd S_1476 q_161 20 := by rw [eS_1477]; exact hk_1433
  have hn_1485 : Ln S_1476 q_161 16 := by rw [eS_1477]; exact hn_1434
  have hz_1486 : ∀ j, aI S_1476 q_161 j = 0 := by rw [eS_1477]; exact hz_1422
  have hm_1487 : q_266 ∈ hL S_1476 := by rw [eS_1477]; exact hm_1435
  have hk_1488 : Kd S_1476 q_266 13 := by rw [eS_1477]; exact hk_1436
  have hn_1489 : Ln S_1476 q_266 24000 := by rw [eS_1477]; exact hn_1437
  have hz_1490 : ∀ j, aI S_1476 q_266 j = 0 := by rw [eS_1477]; exact hz_1423
  have hm_1491 : q_295 ∈ hL S_1476 := by rw [eS_1477]; exact hm_1438
  have hk_1492 : Kd S_1476 q_295 14 := by rw [eS_1477]; exact hk_1439
  have hn_1493 : Ln S_1476 q_295 16 := by rw [eS_1477]; exact hn_1440
  have hz_1494 : ∀ j, aI S_1476 q_295 j = 0 := by rw [eS_1477]; exact hz_1424
  have hm_1495 : q_524 ∈ hL S_1476 := by rw [eS_1477]; exact hm_1441
  have hk_1496 : Kd S_1476 q_524 18 := by rw [eS_1477]; exact hk_1442
  have hn_1497 : Ln S_1476 q_524 3 := by rw [eS_1477]; exact hn_1443
  have hz_1498 : ∀ j, aI S_1476 q_524 j = 0 := by rw [eS_1477]; exact hz_1425
  have hm_1499 : q_565 ∈ hL S_1476 := by rw [eS_1477]; exact hm_1444
  have hk_1500 : Kd S_1476 q_565 19 := by rw [eS_1477]; exact hk_1445
  have hn_1501 : Ln S_1476 q_565 4 := by rw [eS_1477]; exact hn_1446
  have hz_1502 : ∀ j, aI S_1476 q_565 j = 0 := by rw [eS_1477]; exact hz_1426
  have hm_1503 : q_610 ∈ hL S_1476 := by rw [eS_1477]; exact hm_1447
  have hk_1504 : Kd S_1476 q_610 14 := by rw [eS_1477]; exact hk_1448
  have hn_1505 : Ln S_1476 q_610 12 := by rw [eS_1477]; exact hn_1449
  have hz_1506 : ∀ j, aI S_1476 q_610 j = 0 := by rw [eS_1477]; exact hz_1427
  have hv_1507 : hI S_1476 1000 q_1404 = 1 := by rw [eS_1477]; exact e_1410
  have hv_1508 : hI S_1476 1001 q_1404 = 1 := by rw [eS_1477]; exact e_1411
  have hv_1509 : hR S_1476 1003 q_1404 = (some q_1409) := by rw [eS_1477]; exact e_1416
  have hv_1510 : hR S_1476 900 h = (some s0) := by rw [eS_1477]; exact hv_1450
  have hv_1511 : hR S_1476 901 h = (some q_1) := by rw [eS_1477]; exact hv_1451
  have hv_1512 : hR S_1476 902 h = (some q_41) := by rw [eS_1477]; exact hv_1452
  have hv_1513 : hR S_1476 903 h = (some q_126) := by rw [eS_1477]; exact hv_1453
  have hv_1514 : hR S_1476 904 h = (some q_161) := by rw [eS_1477]; exact hv_1454
  have hv_1515 : hR S_1476 905 h = (some q_183) := by rw [eS_1477]; exact hv_1455
  have hv_1516 : hR S_1476 906 h = (some q_224) := by rw [eS_1477]; exact hv_1456
  have hv_1517 : hR S_1476 907 h = (some q_266) := by rw [eS_1477]; exact hv_1457
  have hv_1518 : hR S_1476 908 h = (some q_295) := by rw [eS_1477]; exact hv_1458
  have hv_1519 : hR S_1476 909 h = (some q_328) := by rw [eS_1477]; exact hv_1459
  have hv_1520 : hR S_1476 910 h = (some q_425) := by rw [eS_1477]; exact hv_1460
  have hv_1521 : hR S_1476 911 h = (some q_524) := by rw [eS_1477]; exact hv_1461
  have hv_1522 : hR S_1476 912 h = (some q_565) := by rw [eS_1477]; exact hv_1462
  have hv_1523 : hR S_1476 917 h = (some q_610) := by rw [eS_1477]; exact hv_1463
  have hf_1524 : Fm (fun _ _ => False) (fun f9 b9 => b9 = h) (fun _ => False) S S_1476 := by rw [eS_1477]; exact hf_1478
  have hN_1525 : NL S L_1470 S_1476 := by rw [eS_1477]; exact (NL.tR (S := S_1419) hN_1469)
  have hG_1526 : Gs h gs_1474 S_1476 := by rw [eS_1477]; exact (Gs.tR (S := S_1419) hG_1473)
  have hE_1527 : ELs S_1476 q_161 [q_661, q_784, q_908, q_1032, q_1156, q_1280, q_1404] := by rw [eS_1477]; exact (show ELs (tR S_1419 q_161 6 (some q_1404)) q_161 [q_661, q_784, q_908, q_1032, q_1156, q_1280, q_1404] from ELs.snoc hE_1467 rfl)
  refine j_iinc (q := 0) (v := 7) (lv' := [(2, .int 7), (0, .ref h), (1, .ref s0)]) C dX9_init_160 rfl (by decide) (by rw [hn9]; decide) rfl ?_
  refine j_goto (tgt := 138) C dX9_init_163 (by decide) ?_
  refine j_iload_n C dX9_init_138 rfl 0 rfl ?_
  refine j_aload_n C dX9_init_139 rfl 1 rfl ?_
  refine j_getr (f := 904) (v := q_161) C flX9_34 dX9_init_140 hm_1479 hk_1480 (by decide) rfl hv_1514 ?_
  refine j_alen (v := 16) C dX9_init_143 hm_1483 hk_1484 (by decide) (by decide) (len_of (n := 16) hn_1485 (by decide)) ?_
  show J _ _ _ _ _ 144 _
  refine j_ic_ge (tgt := 166) C dX9_init_144 (by decide) (fun c9 => absurd c9 (by decide)) (fun c9 => ?_)
  refine j_aload_n C dX9_init_147 rfl 1 rfl ?_
  refine j_getr (f := 904) (v := q_161) C flX9_34 dX9_init_148 hm_1479 hk_1480 (by decide) rfl hv_1514 ?_
  refine j_iload_n C dX9_init_151 rfl 0 rfl ?_
  refine j_new (N := 4) C (ci := 10) rfl rfl klX9_32 knX10 kiX10 (M.cells (by decide)) (M.slots (by decide)) dX9_init_152 (fun q_1528 hq_1529 => ?_)
  have hz_1530 : q_1528 ∉ hL S := fun h9 => hq_1529 (hf_1524.mem h9)
  have gn_1531 : ∀ g9 ∈ gs_1474, ∀ p9 ∈ (gT g9.1).2.2, g9.2.getD p9.2.1 0 ≠ q_1528 := Gs.ne hG_1526 hq_1529
  refine j_dup C dX9_init_155 rfl ?_
  have hf_1532 : Fm (fun _ _ => False) (fun f9 b9 => b9 = h) (fun _ => False) S (nO S_1476 q_1528 10) := (hf_1524.nO _ hq_1529)
  refine j_callI C [] [.ref q_1528, .int 7, .ref q_161] mlX9_38 mcX10_init (c_X10_init (nO S_1476 q_1528 10) q_1528 mem_new (kd_nO' (k := 10))) (M.rm (by decide) (by decide) (Nat.le_of_ble_eq_true rfl) (Nat.le_of_ble_eq_true rfl)) rfl rfl (Nat.le_of_ble_eq_true rfl) dX9_init_156 (fun r_1542 S_1543 hp_1544 => ?_)
  obtain ⟨rfl, hf_1545, e_1534, e_1535, q_1533, e_1536, e_1537, e_1538, e_1539, e_1540, hNl_1541⟩ := hp_1544
  refine J.eq (st' := [.ref q_1528, .int 7, .ref q_161]) rfl rfl rfl ?_
  have hz_1546 : ∀ j, aI S_1543 q_161 j = 0 := fun j9 => (hf_1545.ai (mem_old hm_1483) (fun h9 => h9) j9).trans (hz_1486 j9)
  have hz_1547 : ∀ j, aI S_1543 q_266 j = 0 := fun j9 => (hf_1545.ai (mem_old hm_1487) (fun h9 => h9) j9).trans (hz_1490 j9)
  have hz_1548 : ∀ j, aI S_1543 q_295 j = 0 := fun j9 => (hf_1545.ai (mem_old hm_1491) (fun h9 => h9) j9).trans (hz_1494 j9)
  have hz_1549 : ∀ j, aI S_1543 q_524 j = 0 := fun j9 => (hf_1545.ai (mem_old hm_1495) (fun h9 => h9) j9).trans (hz_1498 j9)
  have hz_1550 : ∀ j, aI S_1543 q_565 j = 0 := fun j9 => (hf_1545.ai (mem_old hm_1499) (fun h9 => h9) j9).trans (hz_1502 j9)
  have hz_1551 : ∀ j, aI S_1543 q_610 j = 0 := fun j9 => (hf_1545.ai (mem_old hm_1503) (fun h9 => h9) j9).trans (hz_1506 j9)
  have hm_1552 : h ∈ hL S_1543 := hf_1545.mem (mem_old hm_1479)
  have hk_1553 : Kd S_1543 h 9 := hf_1545.kd (mem_old hm_1479) (kd_nO (k := 10) hq_1529 hm_1479 hk_1480)
  have hm_1554 : q_1528 ∈ hL S_1543 := hf_1545.mem mem_new
  have hk_1555 : Kd S_1543 q_1528 10 := hf_1545.kd mem_new (kd_nO' (k := 10))
  have hm_1556 : q_161 ∈ hL S_1543 := hf_1545.mem (mem_old hm_1483)
  have hk_1557 : Kd S_1543 q_161 20 := hf_1545.kd (mem_old hm_1483) (kd_nO (k := 10) hq_1529 hm_1483 hk_1484)
  have hn_1558 : Ln S_1543 q_161 16 := hf_1545.ln (mem_old hm_1483) hn_1485
  have hm_1559 : q_266 ∈ hL S_1543 := hf_1545.mem (mem_old hm_1487)
  have hk_1560 : Kd S_1543 q_266 13 := hf_1545.kd (mem_old hm_1487) (kd_nO (k := 10) hq_1529 hm_1487 hk_1488)
  have hn_1561 : Ln S_1543 q_266 24000 := hf_1545.ln (mem_old hm_1487) hn_1489
  have hm_1562 : q_295 ∈ hL S_1543 := hf_1545.mem (mem_old hm_1491)
  have hk_1563 : Kd S_1543 q_295 14 := hf_1545.kd (mem_old hm_1491) (kd_nO (k := 10) hq_1529 hm_1491 hk_1492)
  have hn_1564 : Ln S_1543 q_295 16 := hf_1545.ln (mem_old hm_1491) hn_1493
  have hm_1565 : q_524 ∈ hL S_1543 := hf_1545.mem (mem_old hm_1495)
  have hk_1566 : Kd S_1543 q_524 18 := hf_1545.kd (mem_old hm_1495) (kd_nO (k := 10) hq_1529 hm_1495 hk_1496)
  have hn_1567 : Ln S_1543 q_524 3 := hf_1545.ln (mem_old hm_1495) hn_1497
  have hm_1568 : q_565 ∈ hL S_1543 := hf_1545.mem (mem_old hm_1499)
  have hk_1569 : Kd S_1543 q_565 19 := hf_1545.kd (mem_old hm_1499) (kd_nO (k := 10) hq_1529 hm_1499 hk_1500)
  have hn_1570 : Ln S_1543 q_565 4 := hf_1545.ln (mem_old hm_1499) hn_1501
  have hm_1571 : q_610 ∈ hL S_1543 := hf_1545.mem (mem_old hm_1503)
  have hk_1572 : Kd S_1543 q_610 14 := hf_1545.kd (mem_old hm_1503) (kd_nO (k := 10) hq_1529 hm_1503 hk_1504)
  have hn_1573 : Ln S_1543 q_610 12 := hf_1545.ln (mem_old hm_1503) hn_1505
  have hv_1574 : hR S_1543 900 h = (some s0) := hf_1545.fr (mem_old hm_1479) (fun q9 => (fun e9 => absurd (((kd_nO (k := 10) hq_1529 hm_1479 hk_1480)).symm.trans ((congrArg (hK _) e9).trans (kd_nO' (k := 10)))) (by decide)) q9) (rd_nOR (k := 10) hq_1529 hm_1479 hv_1510)
  have hv_1575 : hR S_1543 901 h = (some q_1) := hf_1545.fr (mem_old hm_1479) (fun q9 => (fun e9 => absurd (((kd_nO (k := 10) hq_1529 hm_1479 hk_1480)).symm.trans ((congrArg (hK _) e9).trans (kd_nO' (k := 10)))) (by decide)) q9) (rd_nOR (k := 10) hq_1529 hm_1479 hv_1511)
  have hv_1576 : hR S_1543 902 h = (some q_41) := hf_1545.fr (mem_old hm_1479) (fun q9 => (fun e9 => absurd (((kd_nO (k := 10) hq_1529 hm_1479 hk_1480)).symm.trans ((congrArg (hK _) e9).trans (kd_nO' (k := 10)))) (by decide)) q9) (rd_nOR (k := 10) hq_1529 hm_1479 hv_1512)
  have hv_1577 : hR S_1543 903 h = (some q_126) := hf_1545.fr (mem_old hm_1479) (fun q9 => (fun e9 => absurd (((kd_nO (k := 10) hq_1529 hm_1479 hk_1480)).symm.trans ((congrArg (hK _) e9).trans (kd_nO' (k := 10)))) (by decide)) q9) (rd_nOR (k := 10) hq_1529 hm_1479 hv_1513)
  have hv_1578 : hR S_1543 904 h = (some q_161) := hf_1545.fr (mem_old hm_1479) (fun q9 => (fun e9 => absurd (((kd_nO (k := 10) hq_1529 hm_1479 hk_1480)).symm.trans ((congrArg (hK _) e9).trans (kd_nO' (k := 10)))) (by decide)) q9) (rd_nOR (k := 10) hq_1529 hm_1479 hv_1514)
  have hv_1579 : hR S_1543 905 h = (some q_183) := hf_1545.fr (mem_old hm_1479) (fun q9 => (fun e9 => absurd (((kd_nO (k := 10) hq_1529 hm_1479 hk_1480)).symm.trans ((congrArg (hK _) e9).trans (kd_nO' (k := 10)))) (by decide)) q9) (rd_nOR (k := 10) hq_1529 hm_1479 hv_1515)
  have hv_1580 : hR S_1543 906 h = (some q_224) := hf_1545.fr (mem_old hm_1479) (fun q9 => (fun e9 => absurd (((kd_nO (k := 10) hq_1529 hm_1479 hk_1480)).symm.trans ((congrArg (hK _) e9).trans (kd_nO' (k := 10)))) (by decide)) q9) (rd_nOR (k := 10) hq_1529 hm_1479 hv_1516)
  have hv_1581 : hR S_1543 907 h = (some q_266) := hf_1545.fr (mem_old hm_1479) (fun q9 => (fun e9 => absurd (((kd_nO (k := 10) hq_1529 hm_1479 hk_1480)).symm.trans ((congrArg (hK _) e9).trans (kd_nO' (k := 10)))) (by decide)) q9) (rd_nOR (k := 10) hq_1529 hm_1479 hv_1517)
  have hv_1582 : hR S_1543 908 h = (some q_295) := hf_1545.fr (mem_old hm_1479) (fun q9 => (fun e9 => absurd (((kd_nO (k := 10) hq_1529 hm_1479 hk_1480)).symm.trans ((congrArg (hK _) e9).trans (kd_nO' (k := 10)))) (by decide)) q9) (rd_nOR (k := 10) hq_1529 hm_1479 hv_1518)
  have hv_1583 : hR S_1543 909 h = (some q_328) := hf_1545.fr (mem_old hm_1479) (fun q9 => (fun e9 => absurd (((kd_nO (k := 10) hq_1529 hm_1479 hk_1480)).symm.trans ((congrArg (hK _) e9).trans (kd_nO' (k := 10)))) (by decide)) q9) (rd_nOR (k := 10) hq_1529 hm_1479 hv_1519)
  have hv_1584 : hR S_1543 910 h = (some q_425) := hf_1545.fr (mem_old hm_1479) (fun q9 => (fun e9 => absurd (((kd_nO (k := 10) hq_1529 hm_1479 hk_1480)).symm.trans ((congrArg (hK _) e9).trans (kd_nO' (k := 10)))) (by decide)) q9) (rd_nOR (k := 10) hq_1529 hm_1479 hv_1520)
  have hv_1585 : hR S_1543 911 h = (some q_524) := hf_1545.fr (mem_old hm_1479) (fun q9 => (fun e9 => absurd (((kd_nO (k := 10) hq_1529 hm_1479 hk_1480)).symm.trans ((congrArg (hK _) e9).trans (kd_nO' (k := 10)))) (by decide)) q9) (rd_nOR (k := 10) hq_1529 hm_1479 hv_1521)
  have hv_1586 : hR S_1543 912 h = (some q_565) := hf_1545.fr (mem_old hm_1479) (fun q9 => (fun e9 => absurd (((kd_nO (k := 10) hq_1529 hm_1479 hk_1480)).symm.trans ((congrArg (hK _) e9).trans (kd_nO' (k := 10)))) (by decide)) q9) (rd_nOR (k := 10) hq_1529 hm_1479 hv_1522)
  have hv_1587 : hR S_1543 917 h = (some q_610) := hf_1545.fr (mem_old hm_1479) (fun q9 => (fun e9 => absurd (((kd_nO (k := 10) hq_1529 hm_1479 hk_1480)).symm.trans ((congrArg (hK _) e9).trans (kd_nO' (k := 10)))) (by decide)) q9) (rd_nOR (k := 10) hq_1529 hm_1479 hv_1523)
  have hf_1588 : Fm (fun _ _ => False) (fun f9 b9 => b9 = h) (fun _ => False) S S_1543 := hf_1532.then hf_1545 (fun a9 ha9 => ⟨(fun f9 h9 => (fun h9 => h9.elim (fun h8 => absurd (h8.2 ▸ ha9) hz_1530) (fun h8 => absurd (h8.2 ▸ ha9) hz_1530)) h9), (fun f9 h9 => (fun h8 => absurd (h8 ▸ ha9) hz_1530) h9), (fun h9 => h9.elim)⟩)
  have hN_1589 : NL S (L_1470 ++ [q_1528]) S_1543 := NL.mono (show NL S (L_1470 ++ [q_1528]) (nO S_1476 q_1528 10) from NL.nO hN_1525 hq_1529 hz_1530) (fun a9 h9 => hf_1545.mem h9)
  have hG_1590 : Gs h gs_1474 S_1543 := Gs.fm (show Gs h gs_1474 (nO S_1476 q_1528 10) from Gs.nO hG_1526 hq_1529) hf_1545 (fun g9 hg9 p9 hp9 => gn_1531 g9 hg9 p9 hp9)
  have hE_1591 : ELs S_1543 q_161 [q_661, q_784, q_908, q_1032, q_1156, q_1280, q_1404] := ELs.fm (ELs.nO (S := S_1476) hE_1527) hf_1545 (mem_old hm_1483) (fun h9 => h9)
  have hz_1592 : q_1533 ∉ hL S := fun h9 => e_1536 (hf_1532.mem h9)
  have hN_1593 : NL S ((L_1470 ++ [q_1528]) ++ [q_1533]) S_1543 := NL.app (show NL S (L_1470 ++ [q_1528]) (nO S_1476 q_1528 10) from NL.nO hN_1525 hq_1529 hz_1530) hNl_1541 (fun a9 h9 => hf_1545.mem h9) (fun a9 h9 => hf_1532.mem h9)
  obtain ⟨L_1594, eL_1595⟩ : ∃ L9 : List Nat, L9 = ((L_1470 ++ [q_1528]) ++ [q_1533]) := ⟨_, rfl⟩
  rw [← eL_1595] at hN_1593
  have hGt_1596 : Gt 1 [q_1528, q_1533] S_1543 := ⟨fun i9 k9 h9 => (match i9, h9 with | 0, h9 => (by have e9 : (10 : Nat) = k9 := Option.some.inj h9; subst e9; exact ⟨hm_1554, hk_1555⟩) | 1, h9 => (by have e9 : (15 : Nat) = k9 := Option.some.inj h9; subst e9; exact ⟨e_1537, e_1538⟩) | i9 + 2, h9 => absurd h9 (by simp [gT])), (List.forall_mem_cons.mpr ⟨e_1539, (fun _ h9 => absurd h9 List.not_mem_nil)⟩), (List.forall_mem_cons.mpr ⟨e_1540, (fun _ h9 => absurd h9 List.not_mem_nil)⟩), (fun _ h9 => absurd h9 List.not_mem_nil)⟩
  have hG_1597 : Gs h (gs_1474 ++ [(1, [q_1528, q_1533])]) S_1543 := Gs.snoc hG_1590 (by decide) hGt_1596 (List.forall_mem_cons.mpr ⟨(own_ne hz_1530 hm), (fun _ h9 => absurd h9 List.not_mem_nil)⟩)
  obtain ⟨gs_1598, eG_1599⟩ : ∃ G9 : List (Nat × List Nat), G9 = gs_1474 ++ [(1, [q_1528, q_1533])] := ⟨_, rfl⟩
  rw [← eG_1599] at hG_1597
  refine j_aast (j := 7) (ci := 10) C 20  (by decide) rfl dX9_init_159 hm_1556 hk_1557 (inr_of (n := 16) hn_1558 (vp_lit (by decide))) (by decide) hm_1554 hk_1555 rfl ?_
  have hf_1602 : Fm (fun _ _ => False) (fun f9 b9 => b9 = h) (fun _ => False) S (tR S_1543 q_161 7 (some q_1528)) := (hf_1588.tR _ _ (fun h9 => absurd h9 hz_164))
  obtain ⟨S_1600, eS_1601⟩ : ∃ S9 : Hp, S9 = (tR S_1543 q_161 7 (some q_1528)) := ⟨_, rfl⟩
  refine J.eq (S' := S_1600) eS_1601.symm rfl rfl ?_
  have hm_1603 : h ∈ hL S_1600 := by rw [eS_1601]; exact hm_1552
  have hk_1604 : Kd S_1600 h 9 := by rw [eS_1601]; exact hk_1553
  have hm_1605 : q_1528 ∈ hL S_1600 := by rw [eS_1601]; exact hm_1554
  have hk_1606 : Kd S_1600 q_1528 10 := by rw [eS_1601]; exact hk_1555
  have hm_1607 : q_161 ∈ hL S_1600 := by rw [eS_1601]; exact hm_1556
  have hk_1608 : Kd S_1600 q_161 20 := by rw [eS_1601]; exact hk_1557
  have hn_1609 : Ln S_1600 q_161 16 := by rw [eS_1601]; exact hn_1558
  have hz_1610 : ∀ j, aI S_1600 q_161 j = 0 := by rw [eS_1601]; exact hz_1546
  have hm_1611 : q_266 ∈ hL S_1600 := by rw [eS_1601]; exact hm_1559
  have hk_1612 : Kd S_1600 q_266 13 := by rw [eS_1601]; exact hk_1560
  have hn_1613 : Ln S_1600 q_266 24000 := by rw [eS_1601]; exact hn_1561
  have hz_1614 : ∀ j, aI S_1600 q_266 j = 0 := by rw [eS_1601]; exact hz_1547
  have hm_1615 : q_295 ∈ hL S_1600 := by rw [eS_1601]; exact hm_1562
  have hk_1616 : Kd S_1600 q_295 14 := by rw [eS_1601]; exact hk_1563
  have hn_1617 : Ln S_1600 q_295 16 := by rw [eS_1601]; exact hn_1564
  have hz_1618 : ∀ j, aI S_1600 q_295 j = 0 := by rw [eS_1601]; exact hz_1548
  have hm_1619 : q_524 ∈ hL S_1600 := by rw [eS_1601]; exact hm_1565
  have hk_1620 : Kd S_1600 q_524 18 := by rw [eS_1601]; exact hk_1566
  have hn_1621 : Ln S_1600 q_524 3 := by rw [eS_1601]; exact hn_1567
  have hz_1622 : ∀ j, aI S_1600 q_524 j = 0 := by rw [eS_1601]; exact hz_1549
  have hm_1623 : q_565 ∈ hL S_1600 := by rw [eS_1601]; exact hm_1568
  have hk_1624 : Kd S_1600 q_565 19 := by rw [eS_1601]; exact hk_1569
  have hn_1625 : Ln S_1600 q_565 4 := by rw [eS_1601]; exact hn_1570
  have hz_1626 : ∀ j, aI S_1600 q_565 j = 0 := by rw [eS_1601]; exact hz_1550
  have hm_1627 : q_610 ∈ hL S_1600 := by rw [eS_1601]; exact hm_1571
  have hk_1628 : Kd S_1600 q_610 14 := by rw [eS_1601]; exact hk_1572
  have hn_1629 : Ln S_1600 q_610 12 := by rw [eS_1601]; exact hn_1573
  have hz_1630 : ∀ j, aI S_1600 q_610 j = 0 := by rw [eS_1601]; exact hz_1551
  have hv_1631 : hI S_1600 1000 q_1528 = 1 := by rw [eS_1601]; exact e_1534
  have hv_1632 : hI S_1600 1001 q_1528 = 1 := by rw [eS_1601]; exact e_1535
  have hv_1633 : hR S_1600 1003 q_1528 = (some q_1533) := by rw [eS_1601]; exact e_1540
  have hv_1634 : hR S_1600 900 h = (some s0) := by rw [eS_1601]; exact hv_1574
  have hv_1635 : hR S_1600 901 h = (some q_1) := by rw [eS_1601]; exact hv_1575
  have hv_1636 : hR S_1600 902 h = (some q_41) := by rw [eS_1601]; exact hv_1576
  have hv_1637 : hR S_1600 903 h = (some q_126) := by rw [eS_1601]; exact hv_1577
  have hv_1638 : hR S_1600 904 h = (some q_161) := by rw [eS_1601]; exact hv_1578
  have hv_1639 : hR S_1600 905 h = (some q_183) := by rw [eS_1601]; exact hv_1579
  have hv_1640 : hR S_1600 906 h = (some q_224) := by rw [eS_1601]; exact hv_1580
  have hv_1641 : hR S_1600 907 h = (some q_266) := by rw [eS_1601]; exact hv_1581
  have hv_1642 : hR S_1600 908 h = (some q_295) := by rw [eS_1601]; exact hv_1582
  have hv_1643 : hR S_1600 909 h = (some q_328) := by rw [eS_1601]; exact hv_1583
  have hv_1644 : hR S_1600 910 h = (some q_425) := by rw [eS_1601]; exact hv_1584
  have hv_1645 : hR S_1600 911 h = (some q_524) := by rw [eS_1601]; exact hv_1585
  have hv_1646 : hR S_1600 912 h = (some q_565) := by rw [eS_1601]; exact hv_1586
  have hv_1647 : hR S_1600 917 h = (some q_610) := by rw [eS_1601]; exact hv_1587
  have hf_1648 : Fm (fun _ _ => False) (fun f9 b9 => b9 = h) (fun _ => False) S S_1600 := by rw [eS_1601]; exact hf_1602
  have hN_1649 : NL S L_1594 S_1600 := by rw [eS_1601]; exact (NL.tR (S := S_1543) hN_1593)
  have hG_1650 : Gs h gs_1598 S_1600 := by rw [eS_1601]; exact (Gs.tR (S := S_1543) hG_1597)
  have hE_1651 : ELs S_1600 q_161 [q_661, q_784, q_908, q_1032, q_1156, q_1280, q_1404, q_1528] := by rw [eS_1601]; exact (show ELs (tR S_1543 q_161 7 (some q_1528)) q_161 [q_661, q_784, q_908, q_1032, q_1156, q_1280, q_1404, q_1528] from ELs.snoc hE_1591 rfl)
  show J _ _ _ _ _ 160 _
  refine j_iinc (q := 0) (v := 8) (lv' := [(2, .int 8), (0, .ref h), (1, .ref s0)]) C dX9_init_160 rfl (by decide) (by rw [hn9]; decide) rfl ?_
  refine j_goto (tgt := 138) C dX9_init_163 (by decide) ?_
  refine j_iload_n C dX9_init_138 rfl 0 rfl ?_
  refine j_aload_n C dX9_init_139 rfl 1 rfl ?_
  refine j_getr (f := 904) (v := q_161) C flX9_34 dX9_init_140 hm_1603 hk_1604 (by decide) rfl hv_1638 ?_
  refine j_alen (v := 16) C dX9_init_143 hm_1607 hk_1608 (by decide) (by decide) (len_of (n := 16) hn_1609 (by decide)) ?_
  refine j_ic_ge (tgt := 166) C dX9_init_144 (by decide) (fun c9 => absurd c9 (by decide)) (fun c9 => ?_)
  refine j_aload_n C dX9_init_147 rfl 1 rfl ?_
  show J _ _ _ _ _ 148 _
  refine j_getr (f := 904) (v := q_161) C flX9_34 dX9_init_148 hm_1603 hk_1604 (by decide) rfl hv_1638 ?_
  refine j_iload_n C dX9_init_151 rfl 0 rfl ?_
  refine j_new (N := 4) C (ci := 10) rfl rfl klX9_32 knX10 kiX10 (M.cells (by decide)) (M.slots (by decide)) dX9_init_152 (fun q_1652 hq_1653 => ?_)
  have hz_1654 : q_1652 ∉ hL S := fun h9 => hq_1653 (hf_1648.mem h9)
  have gn_1655 : ∀ g9 ∈ gs_1598, ∀ p9 ∈ (gT g9.1).2.2, g9.2.getD p9.2.1 0 ≠ q_1652 := Gs.ne hG_1650 hq_1653
  refine j_dup C dX9_init_155 rfl ?_
  have hf_1656 : Fm (fun _ _ => False) (fun f9 b9 => b9 = h) (fun _ => False) S (nO S_1600 q_1652 10) := (hf_1648.nO _ hq_1653)
  refine j_callI C [] [.ref q_1652, .int 8, .ref q_161] mlX9_38 mcX10_init (c_X10_init (nO S_1600 q_1652 10) q_1652 mem_new (kd_nO' (k := 10))) (M.rm (by decide) (by decide) (Nat.le_of_ble_eq_true rfl) (Nat.le_of_ble_eq_true rfl)) rfl rfl (Nat.le_of_ble_eq_true rfl) dX9_init_156 (fun r_1666 S_1667 hp_1668 => ?_)
  obtain ⟨rfl, hf_1669, e_1658, e_1659, q_1657, e_1660, e_1661, e_1662, e_1663, e_1664, hNl_1665⟩ := hp_1668
  refine J.eq (st' := [.ref q_1652, .int 8, .ref q_161]) rfl rfl rfl ?_
  have hz_1670 : ∀ j, aI S_1667 q_161 j = 0 := fun j9 => (hf_1669.ai (mem_old hm_1607) (fun h9 => h9) j9).trans (hz_1610 j9)
  have hz_1671 : ∀ j, aI S_1667 q_266 j = 0 := fun j9 => (hf_1669.ai (mem_old hm_1611) (fun h9 => h9) j9).trans (hz_1614 j9)
  have hz_1672 : ∀ j, aI S_1667 q_295 j = 0 := fun j9 => (hf_1669.ai (mem_old hm_1615) (fun h9 => h9) j9).trans (hz_1618 j9)
  have hz_1673 : ∀ j, aI S_1667 q_524 j = 0 := fun j9 => (hf_1669.ai (mem_old hm_1619) (fun h9 => h9) j9).trans (hz_1622 j9)
  have hz_1674 : ∀ j, aI S_1667 q_565 j = 0 := fun j9 => (hf_1669.ai (mem_old hm_1623) (fun h9 => h9) j9).trans (hz_1626 j9)
  have hz_1675 : ∀ j, aI S_1667 q_610 j = 0 := fun j9 => (hf_1669.ai (mem_old hm_1627) (fun h9 => h9) j9).trans (hz_1630 j9)
  have hm_1676 : h ∈ hL S_1667 := hf_1669.mem (mem_old hm_1603)
  have hk_1677 : Kd S_1667 h 9 := hf_1669.kd (mem_old hm_1603) (kd_nO (k := 10) hq_1653 hm_1603 hk_1604)
  have hm_1678 : q_161 ∈ hL S_1667 := hf_1669.mem (mem_old hm_1607)
  have hk_1679 : Kd S_1667 q_161 20 := hf_1669.kd (mem_old hm_1607) (kd_nO (k := 10) hq_1653 hm_1607 hk_1608)
  have hn_1680 : Ln S_1667 q_161 16 := hf_1669.ln (mem_old hm_1607) hn_1609
  have hm_1681 : q_1652 ∈ hL S_1667 := hf_1669.mem mem_new
  have hk_1682 : Kd S_1667 q_1652 10 := hf_1669.kd mem_new (kd_nO' (k := 10))
  have hm_1683 : q_266 ∈ hL S_1667 := hf_1669.mem (mem_old hm_1611)
  have hk_1684 : Kd S_1667 q_266 13 := hf_1669.kd (mem_old hm_1611) (kd_nO (k := 10) hq_1653 hm_1611 hk_1612)
  have hn_1685 : Ln S_1667 q_266 24000 := hf_1669.ln (mem_old hm_1611) hn_1613
  have hm_1686 : q_295 ∈ hL S_1667 := hf_1669.mem (mem_old hm_1615)
  have hk_1687 : Kd S_1667 q_295 14 := hf_1669.kd (mem_old hm_1615) (kd_nO (k := 10) hq_1653 hm_1615 hk_1616)
  have hn_1688 : Ln S_1667 q_295 16 := hf_1669.ln (mem_old hm_1615) hn_1617
  have hm_1689 : q_524 ∈ hL S_1667 := hf_1669.mem (mem_old hm_1619)
  have hk_1690 : Kd S_1667 q_524 18 := hf_1669.kd (mem_old hm_1619) (kd_nO (k := 10) hq_1653 hm_1619 hk_1620)
  have hn_1691 : Ln S_1667 q_524 3 := hf_1669.ln (mem_old hm_1619) hn_1621
  have hm_1692 : q_565 ∈ hL S_1667 := hf_1669.mem (mem_old hm_1623)
  have hk_1693 : Kd S_1667 q_565 19 := hf_1669.kd (mem_old hm_1623) (kd_nO (k := 10) hq_1653 hm_1623 hk_1624)
  have hn_1694 : Ln S_1667 q_565 4 := hf_1669.ln (mem_old hm_1623) hn_1625
  have hm_1695 : q_610 ∈ hL S_1667 := hf_1669.mem (mem_old hm_1627)
  have hk_1696 : Kd S_1667 q_610 14 := hf_1669.kd (mem_old hm_1627) (kd_nO (k := 10) hq_1653 hm_1627 hk_1628)
  have hn_1697 : Ln S_1667 q_610 12 := hf_1669.ln (mem_old hm_1627) hn_1629
  have hv_1698 : hR S_1667 900 h = (some s0) := hf_1669.fr (mem_old hm_1603) (fun q9 => (fun e9 => absurd (((kd_nO (k := 10) hq_1653 hm_1603 hk_1604)).symm.trans ((congrArg (hK _) e9).trans (kd_nO' (k := 10)))) (by decide)) q9) (rd_nOR (k := 10) hq_1653 hm_1603 hv_1634)
  have hv_1699 : hR S_1667 901 h = (some q_1) := hf_1669.fr (mem_old hm_1603) (fun q9 => (fun e9 => absurd (((kd_nO (k := 10) hq_1653 hm_1603 hk_1604)).symm.trans ((congrArg (hK _) e9).trans (kd_nO' (k := 10)))) (by decide)) q9) (rd_nOR (k := 10) hq_1653 hm_1603 hv_1635)
  have hv_1700 : hR S_1667 902 h = (some q_41) := hf_1669.fr (mem_old hm_1603) (fun q9 => (fun e9 => absurd (((kd_nO (k := 10) hq_1653 hm_1603 hk_1604)).symm.trans ((congrArg (hK _) e9).trans (kd_nO' (k := 10)))) (by decide)) q9) (rd_nOR (k := 10) hq_1653 hm_1603 hv_1636)
  have hv_1701 : hR S_1667 903 h = (some q_126) := hf_1669.fr (mem_old hm_1603) (fun q9 => (fun e9 => absurd (((kd_nO (k := 10) hq_1653 hm_1603 hk_1604)).symm.trans ((congrArg (hK _) e9).trans (kd_nO' (k := 10)))) (by decide)) q9) (rd_nOR (k := 10) hq_1653 hm_1603 hv_1637)
  have hv_1702 : hR S_1667 904 h = (some q_161) := hf_1669.fr (mem_old hm_1603) (fun q9 => (fun e9 => absurd (((kd_nO (k := 10) hq_1653 hm_1603 hk_1604)).symm.trans ((congrArg (hK _) e9).trans (kd_nO' (k := 10)))) (by decide)) q9) (rd_nOR (k := 10) hq_1653 hm_1603 hv_1638)
  have hv_1703 : hR S_1667 905 h = (some q_183) := hf_1669.fr (mem_old hm_1603) (fun q9 => (fun e9 => absurd (((kd_nO (k := 10) hq_1653 hm_1603 hk_1604)).symm.trans ((congrArg (hK _) e9).trans (kd_nO' (k := 10)))) (by decide)) q9) (rd_nOR (k := 10) hq_1653 hm_1603 hv_1639)
  have hv_1704 : hR S_1667 906 h = (some q_224) := hf_1669.fr (mem_old hm_1603) (fun q9 => (fun e9 => absurd (((kd_nO (k := 10) hq_1653 hm_1603 hk_1604)).symm.trans ((congrArg (hK _) e9).trans (kd_nO' (k := 10)))) (by decide)) q9) (rd_nOR (k := 10) hq_1653 hm_1603 hv_1640)
  have hv_1705 : hR S_1667 907 h = (some q_266) := hf_1669.fr (mem_old hm_1603) (fun q9 => (fun e9 => absurd (((kd_nO (k := 10) hq_1653 hm_1603 hk_1604)).symm.trans ((congrArg (hK _) e9).trans (kd_nO' (k := 10)))) (by decide)) q9) (rd_nOR (k := 10) hq_1653 hm_1603 hv_1641)
  have hv_1706 : hR S_1667 908 h = (some q_295) := hf_1669.fr (mem_old hm_1603) (fun q9 => (fun e9 => absurd (((kd_nO (k := 10) hq_1653 hm_1603 hk_1604)).symm.trans ((congrArg (hK _) e9).trans (kd_nO' (k := 10)))) (by decide)) q9) (rd_nOR (k := 10) hq_1653 hm_1603 hv_1642)
  have hv_1707 : hR S_1667 909 h = (some q_328) := hf_1669.fr (mem_old hm_1603) (fun q9 => (fun e9 => absurd (((kd_nO (k := 10) hq_1653 hm_1603 hk_1604)).symm.trans ((congrArg (hK _) e9).trans (kd_nO' (k := 10)))) (by decide)) q9) (rd_nOR (k := 10) hq_1653 hm_1603 hv_1643)
  have hv_1708 : hR S_1667 910 h = (some q_425) := hf_1669.fr (mem_old hm_1603) (fun q9 => (fun e9 => absurd (((kd_nO (k := 10) hq_1653 hm_1603 hk_1604)).symm.trans ((congrArg (hK _) e9).trans (kd_nO' (k := 10)))) (by decide)) q9) (rd_nOR (k := 10) hq_1653 hm_1603 hv_1644)
  have hv_1709 : hR S_1667 911 h = (some q_524) := hf_1669.fr (mem_old hm_1603) (fun q9 => (fun e9 => absurd (((kd_nO (k := 10) hq_1653 hm_1603 hk_1604)).symm.trans ((congrArg (hK _) e9).trans (kd_nO' (k := 10)))) (by decide)) q9) (rd_nOR (k := 10) hq_1653 hm_1603 hv_1645)
  have hv_1710 : hR S_1667 912 h = (some q_565) := hf_1669.fr (mem_old hm_1603) (fun q9 => (fun e9 => absurd (((kd_nO (k := 10) hq_1653 hm_1603 hk_1604)).symm.trans ((congrArg (hK _) e9).trans (kd_nO' (k := 10)))) (by decide)) q9) (rd_nOR (k := 10) hq_1653 hm_1603 hv_1646)
  have hv_1711 : hR S_1667 917 h = (some q_610) := hf_1669.fr (mem_old hm_1603) (fun q9 => (fun e9 => absurd (((kd_nO (k := 10) hq_1653 hm_1603 hk_1604)).symm.trans ((congrArg (hK _) e9).trans (kd_nO' (k := 10)))) (by decide)) q9) (rd_nOR (k := 10) hq_1653 hm_1603 hv_1647)
  have hf_1712 : Fm (fun _ _ => False) (fun f9 b9 => b9 = h) (fun _ => False) S S_1667 := hf_1656.then hf_1669 (fun a9 ha9 => ⟨(fun f9 h9 => (fun h9 => h9.elim (fun h8 => absurd (h8.2 ▸ ha9) hz_1654) (fun h8 => absurd (h8.2 ▸ ha9) hz_1654)) h9), (fun f9 h9 => (fun h8 => absurd (h8 ▸ ha9) hz_1654) h9), (fun h9 => h9.elim)⟩)
  have hN_1713 : NL S (L_1594 ++ [q_1652]) S_1667 := NL.mono (show NL S (L_1594 ++ [q_1652]) (nO S_1600 q_1652 10) from NL.nO hN_1649 hq_1653 hz_1654) (fun a9 h9 => hf_1669.mem h9)
  have hG_1714 : Gs h gs_1598 S_1667 := Gs.fm (show Gs h gs_1598 (nO S_1600 q_1652 10) from Gs.nO hG_1650 hq_1653) hf_1669 (fun g9 hg9 p9 hp9 => gn_1655 g9 hg9 p9 hp9)
  have hE_1715 : ELs S_1667 q_161 [q_661, q_784, q_908, q_1032, q_1156, q_1280, q_1404, q_1528] := ELs.fm (ELs.nO (S := S_1600) hE_1651) hf_1669 (mem_old hm_1607) (fun h9 => h9)
  have hz_1716 : q_1657 ∉ hL S := fun h9 => e_1660 (hf_1656.mem h9)
  have hN_1717 : NL S ((L_1594 ++ [q_1652]) ++ [q_1657]) S_1667 := NL.app (show NL S (L_1594 ++ [q_1652]) (nO S_1600 q_1652 10) from NL.nO hN_1649 hq_1653 hz_1654) hNl_1665 (fun a9 h9 => hf_1669.mem h9) (fun a9 h9 => hf_1656.mem h9)
  obtain ⟨L_1718, eL_1719⟩ : ∃ L9 : List Nat, L9 = ((L_1594 ++ [q_1652]) ++ [q_1657]) := ⟨_, rfl⟩
  rw [← eL_1719] at hN_1717
  have hGt_1720 : Gt 1 [q_1652, q_1657] S_1667 := ⟨fun i9 k9 h9 => (match i9, h9 with | 0, h9 => (by have e9 : (10 : Nat) = k9 := Option.some.inj h9; subst e9; exact ⟨hm_1681, hk_1682⟩) | 1, h9 => (by have e9 : (15 : Nat) = k9 := Option.some.inj h9; subst e9; exact ⟨e_1661, e_1662⟩) | i9 + 2, h9 => absurd h9 (by simp [gT])), (List.forall_mem_cons.mpr ⟨e_1663, (fun _ h9 => absurd h9 List.not_mem_nil)⟩), (List.forall_mem_cons.mpr ⟨e_1664, (fun _ h9 => absurd h9 List.not_mem_nil)⟩), (fun _ h9 => absurd h9 List.not_mem_nil)⟩
  have hG_1721 : Gs h (gs_1598 ++ [(1, [q_1652, q_1657])]) S_1667 := Gs.snoc hG_1714 (by decide) hGt_1720 (List.forall_mem_cons.mpr ⟨(own_ne hz_1654 hm), (fun _ h9 => absurd h9 List.not_mem_nil)⟩)
  obtain ⟨gs_1722, eG_1723⟩ : ∃ G9 : List (Nat × List Nat), G9 = gs_1598 ++ [(1, [q_1652, q_1657])] := ⟨_, rfl⟩
  rw [← eG_1723] at hG_1721
  refine j_aast (j := 8) (ci := 10) C 20  (by decide) rfl dX9_init_159 hm_1678 hk_1679 (inr_of (n := 16) hn_1680 (vp_lit (by decide))) (by decide) hm_1681 hk_1682 rfl ?_
  have hf_1726 : Fm (fun _ _ => False) (fun f9 b9 => b9 = h) (fun _ => False) S (tR S_1667 q_161 8 (some q_1652)) := (hf_1712.tR _ _ (fun h9 => absurd h9 hz_164))
  obtain ⟨S_1724, eS_1725⟩ : ∃ S9 : Hp, S9 = (tR S_1667 q_161 8 (some q_1652)) := ⟨_, rfl⟩
  refine J.eq (S' := S_1724) eS_1725.symm rfl rfl ?_
  have hm_1727 : h ∈ hL S_1724 := by rw [eS_1725]; exact hm_1676
  have hk_1728 : Kd S_1724 h 9 := by rw [eS_1725]; exact hk_1677
  have hm_1729 : q_161 ∈ hL S_1724 := by rw [eS_1725]; exact hm_1678
  have hk_1730 : Kd S_1724 q_161 20 := by rw [eS_1725]; exact hk_1679
  have hn_1731 : Ln S_1724 q_161 16 := by rw [eS_1725]; exact hn_1680
  have hz_1732 : ∀ j, aI S_1724 q_161 j = 0 := by rw [eS_1725]; exact hz_1670
  have hm_1733 : q_1652 ∈ hL S_1724 := by rw [eS_1725]; exact hm_1681
  have hk_1734 : Kd S_1724 q_1652 10 := by rw [eS_1725]; exact hk_1682
  have hm_1735 : q_266 ∈ hL S_1724 := by rw [eS_1725]; exact hm_1683
  have hk_1736 : Kd S_1724 q_266 13 := by rw [eS_1725]; exact hk_1684
  have hn_1737 : Ln S_1724 q_266 24000 := by rw [eS_1725]; exact hn_1685
  have hz_1738 : ∀ j, aI S_1724 q_266 j = 0 := by rw [eS_1725]; exact hz_1671
  have hm_1739 : q_295 ∈ hL S_1724 := by rw [eS_1725]; exact hm_1686
  have hk_1740 : Kd S_1724 q_295 14 := by rw [eS_1725]; exact hk_1687
  have hn_1741 : Ln S_1724 q_295 16 := by rw [eS_1725]; exact hn_1688
  have hz_1742 : ∀ j, aI S_1724 q_295 j = 0 := by rw [eS_1725]; exact hz_1672
  have hm_1743 : q_524 ∈ hL S_1724 := by rw [eS_1725]; exact hm_1689
  have hk_1744 : Kd S_1724 q_524 18 := by rw [eS_1725]; exact hk_1690
  have hn_1745 : Ln S_1724 q_524 3 := by rw [eS_1725]; exact hn_1691
  have hz_1746 : ∀ j, aI S_1724 q_524 j = 0 := by rw [eS_1725]; exact hz_1673
  have hm_1747 : q_565 ∈ hL S_1724 := by rw [eS_1725]; exact hm_1692
  have hk_1748 : Kd S_1724 q_565 19 := by rw [eS_1725]; exact hk_1693
  have hn_1749 : Ln S_1724 q_565 4 := by rw [eS_1725]; exact hn_1694
  have hz_1750 : ∀ j, aI S_1724 q_565 j = 0 := by rw [eS_1725]; exact hz_1674
  have hm_1751 : q_610 ∈ hL S_1724 := by rw [eS_1725]; exact hm_1695
  have hk_1752 : Kd S_1724 q_610 14 := by rw [eS_1725]; exact hk_1696
  have hn_1753 : Ln S_1724 q_610 12 := by rw [eS_1725]; exact hn_1697
  have hz_1754 : ∀ j, aI S_1724 q_610 j = 0 := by rw [eS_1725]; exact hz_1675
  have hv_1755 : hI S_1724 1000 q_1652 = 1 := by rw [eS_1725]; exact e_1658
  have hv_1756 : hI S_1724 1001 q_1652 = 1 := by rw [eS_1725]; exact e_1659
  have hv_1757 : hR S_1724 1003 q_1652 = (some q_1657) := by rw [eS_1725]; exact e_1664
  have hv_1758 : hR S_1724 900 h = (some s0) := by rw [eS_1725]; exact hv_1698
  have hv_1759 : hR S_1724 901 h = (some q_1) := by rw [eS_1725]; exact hv_1699
  have hv_1760 : hR S_1724 902 h = (some q_41) := by rw [eS_1725]; exact hv_1700
  have hv_1761 : hR S_1724 903 h = (some q_126) := by rw [eS_1725]; exact hv_1701
  have hv_1762 : hR S_1724 904 h = (some q_161) := by rw [eS_1725]; exact hv_1702
  have hv_1763 : hR S_1724 905 h = (some q_183) := by rw [eS_1725]; exact hv_1703
  have hv_1764 : hR S_1724 906 h = (some q_224) := by rw [eS_1725]; exact hv_1704
  have hv_1765 : hR S_1724 907 h = (some q_266) := by rw [eS_1725]; exact hv_1705
  have hv_1766 : hR S_1724 908 h = (some q_295) := by rw [eS_1725]; exact hv_1706
  have hv_1767 : hR S_1724 909 h = (some q_328) := by rw [eS_1725]; exact hv_1707
  have hv_1768 : hR S_1724 910 h = (some q_425) := by rw [eS_1725]; exact hv_1708
  have hv_1769 : hR S_1724 911 h = (some q_524) := by rw [eS_1725]; exact hv_1709
  have hv_1770 : hR S_1724 912 h = (some q_565) := by rw [eS_1725]; exact hv_1710
  have hv_1771 : hR S_1724 917 h = (some q_610) := by rw [eS_1725]; exact hv_1711
  have hf_1772 : Fm (fun _ _ => False) (fun f9 b9 => b9 = h) (fun _ => False) S S_1724 := by rw [eS_1725]; exact hf_1726
  have hN_1773 : NL S L_1718 S_1724 := by rw [eS_1725]; exact (NL.tR (S := S_1667) hN_1717)
  have hG_1774 : Gs h gs_1722 S_1724 := by rw [eS_1725]; exact (Gs.tR (S := S_1667) hG_1721)
  have hE_1775 : ELs S_1724 q_161 [q_661, q_784, q_908, q_1032, q_1156, q_1280, q_1404, q_1528, q_1652] := by rw [eS_1725]; exact (show ELs (tR S_1667 q_161 8 (some q_1652)) q_161 [q_661, q_784, q_908, q_1032, q_1156, q_1280, q_1404, q_1528, q_1652] from ELs.snoc hE_1715 rfl)
  refine j_iinc (q := 0) (v := 9) (lv' := [(2, .int 9), (0, .ref h), (1, .ref s0)]) C dX9_init_160 rfl (by decide) (by rw [hn9]; decide) rfl ?_
  refine j_goto (tgt := 138) C dX9_init_163 (by decide) ?_
  show J _ _ _ _ _ 138 _
  refine j_iload_n C dX9_init_138 rfl 0 rfl ?_
  refine j_aload_n C dX9_init_139 rfl 1 rfl ?_
  refine j_getr (f := 904) (v := q_161) C flX9_34 dX9_init_140 hm_1727 hk_1728 (by decide) rfl hv_1762 ?_
  refine j_alen (v := 16) C dX9_init_143 hm_1729 hk_1730 (by decide) (by decide) (len_of (n := 16) hn_1731 (by decide)) ?_
  refine j_ic_ge (tgt := 166) C dX9_init_144 (by decide) (fun c9 => absurd c9 (by decide)) (fun c9 => ?_)
  refine j_aload_n C dX9_init_147 rfl 1 rfl ?_
  refine j_getr (f := 904) (v := q_161) C flX9_34 dX9_init_148 hm_1727 hk_1728 (by decide) rfl hv_1762 ?_
  refine j_iload_n C dX9_init_151 rfl 0 rfl ?_
  show J _ _ _ _ _ 152 _
  refine j_new (N := 4) C (ci := 10) rfl rfl klX9_32 knX10 kiX10 (M.cells (by decide)) (M.slots (by decide)) dX9_init_152 (fun q_1776 hq_1777 => ?_)
  have hz_1778 : q_1776 ∉ hL S := fun h9 => hq_1777 (hf_1772.mem h9)
  have gn_1779 : ∀ g9 ∈ gs_1722, ∀ p9 ∈ (gT g9.1).2.2, g9.2.getD p9.2.1 0 ≠ q_1776 := Gs.ne hG_1774 hq_1777
  refine j_dup C dX9_init_155 rfl ?_
  have hf_1780 : Fm (fun _ _ => False) (fun f9 b9 => b9 = h) (fun _ => False) S (nO S_1724 q_1776 10) := (hf_1772.nO _ hq_1777)
  refine j_callI C [] [.ref q_1776, .int 9, .ref q_161] mlX9_38 mcX10_init (c_X10_init (nO S_1724 q_1776 10) q_1776 mem_new (kd_nO' (k := 10))) (M.rm (by decide) (by decide) (Nat.le_of_ble_eq_true rfl) (Nat.le_of_ble_eq_true rfl)) rfl rfl (Nat.le_of_ble_eq_true rfl) dX9_init_156 (fun r_1790 S_1791 hp_1792 => ?_)
  obtain ⟨rfl, hf_1793, e_1782, e_1783, q_1781, e_1784, e_1785, e_1786, e_1787, e_1788, hNl_1789⟩ := hp_1792
  refine J.eq (st' := [.ref q_1776, .int 9, .ref q_161]) rfl rfl rfl ?_
  have hz_1794 : ∀ j, aI S_1791 q_161 j = 0 := fun j9 => (hf_1793.ai (mem_old hm_1729) (fun h9 => h9) j9).trans (hz_1732 j9)
  have hz_1795 : ∀ j, aI S_1791 q_266 j = 0 := fun j9 => (hf_1793.ai (mem_old hm_1735) (fun h9 => h9) j9).trans (hz_1738 j9)
  have hz_1796 : ∀ j, aI S_1791 q_295 j = 0 := fun j9 => (hf_1793.ai (mem_old hm_1739) (fun h9 => h9) j9).trans (hz_1742 j9)
  have hz_1797 : ∀ j, aI S_1791 q_524 j = 0 := fun j9 => (hf_1793.ai (mem_old hm_1743) (fun h9 => h9) j9).trans (hz_1746 j9)
  have hz_1798 : ∀ j, aI S_1791 q_565 j = 0 := fun j9 => (hf_1793.ai (mem_old hm_1747) (fun h9 => h9) j9).trans (hz_1750 j9)
  have hz_1799 : ∀ j, aI S_1791 q_610 j = 0 := fun j9 => (hf_1793.ai (mem_old hm_1751) (fun h9 => h9) j9).trans (hz_1754 j9)
  have hm_1800 : h ∈ hL S_1791 := hf_1793.mem (mem_old hm_1727)
  have hk_1801 : Kd S_1791 h 9 := hf_1793.kd (mem_old hm_1727) (kd_nO (k := 10) hq_1777 hm_1727 hk_1728)
  have hm_1802 : q_161 ∈ hL S_1791 := hf_1793.mem (mem_old hm_1729)
  have hk_1803 : Kd S_1791 q_161 20 := hf_1793.kd (mem_old hm_1729) (kd_nO (k := 10) hq_1777 hm_1729 hk_1730)
  have hn_1804 : Ln S_1791 q_161 16 := hf_1793.ln (mem_old hm_1729) hn_1731
  have hm_1805 : q_1776 ∈ hL S_1791 := hf_1793.mem mem_new
  have hk_1806 : Kd S_1791 q_1776 10 := hf_1793.kd mem_new (kd_nO' (k := 10))
  have hm_1807 : q_266 ∈ hL S_1791 := hf_1793.mem (mem_old hm_1735)
  have hk_1808 : Kd S_1791 q_266 13 := hf_1793.kd (mem_old hm_1735) (kd_nO (k := 10) hq_1777 hm_1735 hk_1736)
  have hn_1809 : Ln S_1791 q_266 24000 := hf_1793.ln (mem_old hm_1735) hn_1737
  have hm_1810 : q_295 ∈ hL S_1791 := hf_1793.mem (mem_old hm_1739)
  have hk_1811 : Kd S_1791 q_295 14 := hf_1793.kd (mem_old hm_1739) (kd_nO (k := 10) hq_1777 hm_1739 hk_1740)
  have hn_1812 : Ln S_1791 q_295 16 := hf_1793.ln (mem_old hm_1739) hn_1741
  have hm_1813 : q_524 ∈ hL S_1791 := hf_1793.mem (mem_old hm_1743)
  have hk_1814 : Kd S_1791 q_524 18 := hf_1793.kd (mem_old hm_1743) (kd_nO (k := 10) hq_1777 hm_1743 hk_1744)
  have hn_1815 : Ln S_1791 q_524 3 := hf_1793.ln (mem_old hm_1743) hn_1745
  have hm_1816 : q_565 ∈ hL S_1791 := hf_1793.mem (mem_old hm_1747)
  have hk_1817 : Kd S_1791 q_565 19 := hf_1793.kd (mem_old hm_1747) (kd_nO (k := 10) hq_1777 hm_1747 hk_1748)
  have hn_1818 : Ln S_1791 q_565 4 := hf_1793.ln (mem_old hm_1747) hn_1749
  have hm_1819 : q_610 ∈ hL S_1791 := hf_1793.mem (mem_old hm_1751)
  have hk_1820 : Kd S_1791 q_610 14 := hf_1793.kd (mem_old hm_1751) (kd_nO (k := 10) hq_1777 hm_1751 hk_1752)
  have hn_1821 : Ln S_1791 q_610 12 := hf_1793.ln (mem_old hm_1751) hn_1753
  have hv_1822 : hR S_1791 900 h = (some s0) := hf_1793.fr (mem_old hm_1727) (fun q9 => (fun e9 => absurd (((kd_nO (k := 10) hq_1777 hm_1727 hk_1728)).symm.trans ((congrArg (hK _) e9).trans (kd_nO' (k := 10)))) (by decide)) q9) (rd_nOR (k := 10) hq_1777 hm_1727 hv_1758)
  have hv_1823 : hR S_1791 901 h = (some q_1) := hf_1793.fr (mem_old hm_1727) (fun q9 => (fun e9 => absurd (((kd_nO (k := 10) hq_1777 hm_1727 hk_1728)).symm.trans ((congrArg (hK _) e9).trans (kd_nO' (k := 10)))) (by decide)) q9) (rd_nOR (k := 10) hq_1777 hm_1727 hv_1759)
  have hv_1824 : hR S_1791 902 h = (some q_41) := hf_1793.fr (mem_old hm_1727) (fun q9 => (fun e9 => absurd (((kd_nO (k := 10) hq_1777 hm_1727 hk_1728)).symm.trans ((congrArg (hK _) e9).trans (kd_nO' (k := 10)))) (by decide)) q9) (rd_nOR (k := 10) hq_1777 hm_1727 hv_1760)
  have hv_1825 : hR S_1791 903 h = (some q_126) := hf_1793.fr (mem_old hm_1727) (fun q9 => (fun e9 => absurd (((kd_nO (k := 10) hq_1777 hm_1727 hk_1728)).symm.trans ((congrArg (hK _) e9).trans (kd_nO' (k := 10)))) (by decide)) q9) (rd_nOR (k := 10) hq_1777 hm_1727 hv_1761)
  have hv_1826 : hR S_1791 904 h = (some q_161) := hf_1793.fr (mem_old hm_1727) (fun q9 => (fun e9 => absurd (((kd_nO (k := 10) hq_1777 hm_1727 hk_1728)).symm.trans ((congrArg (hK _) e9).trans (kd_nO' (k := 10)))) (by decide)) q9) (rd_nOR (k := 10) hq_1777 hm_1727 hv_1762)
  have hv_1827 : hR S_1791 905 h = (some q_183) := hf_1793.fr (mem_old hm_1727) (fun q9 => (fun e9 => absurd (((kd_nO (k := 10) hq_1777 hm_1727 hk_1728)).symm.trans ((congrArg (hK _) e9).trans (kd_nO' (k := 10)))) (by decide)) q9) (rd_nOR (k := 10) hq_1777 hm_1727 hv_1763)
  have hv_1828 : hR S_1791 906 h = (some q_224) := hf_1793.fr (mem_old hm_1727) (fun q9 => (fun e9 => absurd (((kd_nO (k := 10) hq_1777 hm_1727 hk_1728)).symm.trans ((congrArg (hK _) e9).trans (kd_nO' (k := 10)))) (by decide)) q9) (rd_nOR (k := 10) hq_1777 hm_1727 hv_1764)
  have hv_1829 : hR S_1791 907 h = (some q_266) := hf_1793.fr (mem_old hm_1727) (fun q9 => (fun e9 => absurd (((kd_nO (k := 10) hq_1777 hm_1727 hk_1728)).symm.trans ((congrArg (hK _) e9).trans (kd_nO' (k := 10)))) (by decide)) q9) (rd_nOR (k := 10) hq_1777 hm_1727 hv_1765)
  have hv_1830 : hR S_1791 908 h = (some q_295) := hf_1793.fr (mem_old hm_1727) (fun q9 => (fun e9 => absurd (((kd_nO (k := 10) hq_1777 hm_1727 hk_1728)).symm.trans ((congrArg (hK _) e9).trans (kd_nO' (k := 10)))) (by decide)) q9) (rd_nOR (k := 10) hq_1777 hm_1727 hv_1766)
  have hv_1831 : hR S_1791 909 h = (some q_328) := hf_1793.fr (mem_old hm_1727) (fun q9 => (fun e9 => absurd (((kd_nO (k := 10) hq_1777 hm_1727 hk_1728)).symm.trans ((congrArg (hK _) e9).trans (kd_nO' (k := 10)))) (by decide)) q9) (rd_nOR (k := 10) hq_1777 hm_1727 hv_1767)
  have hv_1832 : hR S_1791 910 h = (some q_425) := hf_1793.fr (mem_old hm_1727) (fun q9 => (fun e9 => absurd (((kd_nO (k := 10) hq_1777 hm_1727 hk_1728)).symm.trans ((congrArg (hK _) e9).trans (kd_nO' (k := 10)))) (by decide)) q9) (rd_nOR (k := 10) hq_1777 hm_1727 hv_1768)
  have hv_1833 : hR S_1791 911 h = (some q_524) := hf_1793.fr (mem_old hm_1727) (fun q9 => (fun e9 => absurd (((kd_nO (k := 10) hq_1777 hm_1727 hk_1728)).symm.trans ((congrArg (hK _) e9).trans (kd_nO' (k := 10)))) (by decide)) q9) (rd_nOR (k := 10) hq_1777 hm_1727 hv_1769)
  have hv_1834 : hR S_1791 912 h = (some q_565) := hf_1793.fr (mem_old hm_1727) (fun q9 => (fun e9 => absurd (((kd_nO (k := 10) hq_1777 hm_1727 hk_1728)).symm.trans ((congrArg (hK _) e9).trans (kd_nO' (k := 10)))) (by decide)) q9) (rd_nOR (k := 10) hq_1777 hm_1727 hv_1770)
  have hv_1835 : hR S_1791 917 h = (some q_610) := hf_1793.fr (mem_old hm_1727) (fun q9 => (fun e9 => absurd (((kd_nO (k := 10) hq_1777 hm_1727 hk_1728)).symm.trans ((congrArg (hK _) e9).trans (kd_nO' (k := 10)))) (by decide)) q9) (rd_nOR (k := 10) hq_1777 hm_1727 hv_1771)
  have hf_1836 : Fm (fun _ _ => False) (fun f9 b9 => b9 = h) (fun _ => False) S S_1791 := hf_1780.then hf_1793 (fun a9 ha9 => ⟨(fun f9 h9 => (fun h9 => h9.elim (fun h8 => absurd (h8.2 ▸ ha9) hz_1778) (fun h8 => absurd (h8.2 ▸ ha9) hz_1778)) h9), (fun f9 h9 => (fun h8 => absurd (h8 ▸ ha9) hz_1778) h9), (fun h9 => h9.elim)⟩)
  have hN_1837 : NL S (L_1718 ++ [q_1776]) S_1791 := NL.mono (show NL S (L_1718 ++ [q_1776]) (nO S_1724 q_1776 10) from NL.nO hN_1773 hq_1777 hz_1778) (fun a9 h9 => hf_1793.mem h9)
  have hG_1838 : Gs h gs_1722 S_1791 := Gs.fm (show Gs h gs_1722 (nO S_1724 q_1776 10) from Gs.nO hG_1774 hq_1777) hf_1793 (fun g9 hg9 p9 hp9 => gn_1779 g9 hg9 p9 hp9)
  have hE_1839 : ELs S_1791 q_161 [q_661, q_784, q_908, q_1032, q_1156, q_1280, q_1404, q_1528, q_1652] := ELs.fm (ELs.nO (S := S_1724) hE_1775) hf_1793 (mem_old hm_1729) (fun h9 => h9)
  have hz_1840 : q_1781 ∉ hL S := fun h9 => e_1784 (hf_1780.mem h9)
  have hN_1841 : NL S ((L_1718 ++ [q_1776]) ++ [q_1781]) S_1791 := NL.app (show NL S (L_1718 ++ [q_1776]) (nO S_1724 q_1776 10) from NL.nO hN_1773 hq_1777 hz_1778) hNl_1789 (fun a9 h9 => hf_1793.mem h9) (fun a9 h9 => hf_1780.mem h9)
  obtain ⟨L_1842, eL_1843⟩ : ∃ L9 : List Nat, L9 = ((L_1718 ++ [q_1776]) ++ [q_1781]) := ⟨_, rfl⟩
  rw [← eL_1843] at hN_1841
  have hGt_1844 : Gt 1 [q_1776, q_1781] S_1791 := ⟨fun i9 k9 h9 => (match i9, h9 with | 0, h9 => (by have e9 : (10 : Nat) = k9 := Option.some.inj h9; subst e9; exact ⟨hm_1805, hk_1806⟩) | 1, h9 => (by have e9 : (15 : Nat) = k9 := Option.some.inj h9; subst e9; exact ⟨e_1785, e_1786⟩) | i9 + 2, h9 => absurd h9 (by simp [gT])), (List.forall_mem_cons.mpr ⟨e_1787, (fun _ h9 => absurd h9 List.not_mem_nil)⟩), (List.forall_mem_cons.mpr ⟨e_1788, (fun _ h9 => absurd h9 List.not_mem_nil)⟩), (fun _ h9 => absurd h9 List.not_mem_nil)⟩
  have hG_1845 : Gs h (gs_1722 ++ [(1, [q_1776, q_1781])]) S_1791 := Gs.snoc hG_1838 (by decide) hGt_1844 (List.forall_mem_cons.mpr ⟨(own_ne hz_1778 hm), (fun _ h9 => absurd h9 List.not_mem_nil)⟩)
  obtain ⟨gs_1846, eG_1847⟩ : ∃ G9 : List (Nat × List Nat), G9 = gs_1722 ++ [(1, [q_1776, q_1781])] := ⟨_, rfl⟩
  rw [← eG_1847] at hG_1845
  refine j_aast (j := 9) (ci := 10) C 20  (by decide) rfl dX9_init_159 hm_1802 hk_1803 (inr_of (n := 16) hn_1804 (vp_lit (by decide))) (by decide) hm_1805 hk_1806 rfl ?_
  have hf_1850 : Fm (fun _ _ => False) (fun f9 b9 => b9 = h) (fun _ => False) S (tR S_1791 q_161 9 (some q_1776)) := (hf_1836.tR _ _ (fun h9 => absurd h9 hz_164))
  obtain ⟨S_1848, eS_1849⟩ : ∃ S9 : Hp, S9 = (tR S_1791 q_161 9 (some q_1776)) := ⟨_, rfl⟩
  refine J.eq (S' := S_1848) eS_1849.symm rfl rfl ?_
  have hm_1851 : h ∈ hL S_1848 := by rw [eS_1849]; exact hm_1800
  have hk_1852 : Kd S_1848 h 9 := by rw [eS_1849]; exact hk_1801
  have hm_1853 : q_161 ∈ hL S_1848 := by rw [eS_1849]; exact hm_1802
  have hk_1854 : Kd S_1848 q_161 20 := by rw [eS_1849]; exact hk_1803
  have hn_1855 : Ln S_1848 q_161 16 := by rw [eS_1849]; exact hn_1804
  have hz_1856 : ∀ j, aI S_1848 q_161 j = 0 := by rw [eS_1849]; exact hz_1794
  have hm_1857 : q_1776 ∈ hL S_1848 := by rw [eS_1849]; exact hm_1805
  have hk_1858 : Kd S_1848 q_1776 10 := by rw [eS_1849]; exact hk_1806
  have hm_1859 : q_266 ∈ hL S_1848 := by rw [eS_1849]; exact hm_1807
  have hk_1860 : Kd S_1848 q_266 13 := by rw [eS_1849]; exact hk_1808
  have hn_1861 : Ln S_1848 q_266 24000 := by rw [eS_1849]; exact hn_1809
  have hz_1862 : ∀ j, aI S_1848 q_266 j = 0 := by rw [eS_1849]; exact hz_1795
  have hm_1863 : q_295 ∈ hL S_1848 := by rw [eS_1849]; exact hm_1810
  have hk_1864 : Kd S_1848 q_295 14 := by rw [eS_1849]; exact hk_1811
  have hn_1865 : Ln S_1848 q_295 16 := by rw [eS_1849]; exact hn_1812
  have hz_1866 : ∀ j, aI S_1848 q_295 j = 0 := by rw [eS_1849]; exact hz_1796
  have hm_1867 : q_524 ∈ hL S_1848 := by rw [eS_1849]; exact hm_1813
  have hk_1868 : Kd S_1848 q_524 18 := by rw [eS_1849]; exact hk_1814
  have hn_1869 : Ln S_1848 q_524 3 := by rw [eS_1849]; exact hn_1815
  have hz_1870 : ∀ j, aI S_1848 q_524 j = 0 := by rw [eS_1849]; exact hz_1797
  have hm_1871 : q_565 ∈ hL S_1848 := by rw [eS_1849]; exact hm_1816
  have hk_1872 : Kd S_1848 q_565 19 := by rw [eS_1849]; exact hk_1817
  have hn_1873 : Ln S_1848 q_565 4 := by rw [eS_1849]; exact hn_1818
  have hz_1874 : ∀ j, aI S_1848 q_565 j = 0 := by rw [eS_1849]; exact hz_1798
  have hm_1875 : q_610 ∈ hL S_1848 := by rw [eS_1849]; exact hm_1819
  have hk_1876 : Kd S_1848 q_610 14 := by rw [eS_1849]; exact hk_1820
  have hn_1877 : Ln S_1848 q_610 12 := by rw [eS_1849]; exact hn_1821
  have hz_1878 : ∀ j, aI S_1848 q_610 j = 0 := by rw [eS_1849]; exact hz_1799
  have hv_1879 : hI S_1848 1000 q_1776 = 1 := by rw [eS_1849]; exact e_1782
  have hv_1880 : hI S_1848 1001 q_1776 = 1 := by rw [eS_1849]; exact e_1783
  have hv_1881 : hR S_1848 1003 q_1776 = (some q_1781) := by rw [eS_1849]; exact e_1788
  have hv_1882 : hR S_1848 900 h = (some s0) := by rw [eS_1849]; exact hv_1822
  have hv_1883 : hR S_1848 901 h = (some q_1) := by rw [eS_1849]; exact hv_1823
  have hv_1884 : hR S_1848 902 h = (some q_41) := by rw [eS_1849]; exact hv_1824
  have hv_1885 : hR S_1848 903 h = (some q_126) := by rw [eS_1849]; exact hv_1825
  have hv_1886 : hR S_1848 904 h = (some q_161) := by rw [eS_1849]; exact hv_1826
  have hv_1887 : hR S_1848 905 h = (some q_183) := by rw [eS_1849]; exact hv_1827
  have hv_1888 : hR S_1848 906 h = (some q_224) := by rw [eS_1849]; exact hv_1828
  have hv_1889 : hR S_1848 907 h = (some q_266) := by rw [eS_1849]; exact hv_1829
  have hv_1890 : hR S_1848 908 h = (some q_295) := by rw [eS_1849]; exact hv_1830
  have hv_1891 : hR S_1848 909 h = (some q_328) := by rw [eS_1849]; exact hv_1831
  have hv_1892 : hR S_1848 910 h = (some q_425) := by rw [eS_1849]; exact hv_1832
  have hv_1893 : hR S_1848 911 h = (some q_524) := by rw [eS_1849]; exact hv_1833
  have hv_1894 : hR S_1848 912 h = (some q_565) := by rw [eS_1849]; exact hv_1834
  have hv_1895 : hR S_1848 917 h = (some q_610) := by rw [eS_1849]; exact hv_1835
  have hf_1896 : Fm (fun _ _ => False) (fun f9 b9 => b9 = h) (fun _ => False) S S_1848 := by rw [eS_1849]; exact hf_1850
  have hN_1897 : NL S L_1842 S_1848 := by rw [eS_1849]; exact (NL.tR (S := S_1791) hN_1841)
  have hG_1898 : Gs h gs_1846 S_1848 := by rw [eS_1849]; exact (Gs.tR (S := S_1791) hG_1845)
  have hE_1899 : ELs S_1848 q_161 [q_661, q_784, q_908, q_1032, q_1156, q_1280, q_1404, q_1528, q_1652, q_1776] := by rw [eS_1849]; exact (show ELs (tR S_1791 q_161 9 (some q_1776)) q_161 [q_661, q_784, q_908, q_1032, q_1156, q_1280, q_1404, q_1528, q_1652, q_1776] from ELs.snoc hE_1839 rfl)
  refine j_iinc (q := 0) (v := 10) (lv' := [(2, .int 10), (0, .ref h), (1, .ref s0)]) C dX9_init_160 rfl (by decide) (by rw [hn9]; decide) rfl ?_
  refine j_goto (tgt := 138) C dX9_init_163 (by decide) ?_
  refine j_iload_n C dX9_init_138 rfl 0 rfl ?_
  refine j_aload_n C dX9_init_139 rfl 1 rfl ?_
  show J _ _ _ _ _ 140 _
  refine j_getr (f := 904) (v := q_161) C flX9_34 dX9_init_140 hm_1851 hk_1852 (by decide) rfl hv_1886 ?_
  refine j_alen (v := 16) C dX9_init_143 hm_1853 hk_1854 (by decide) (by decide) (len_of (n := 16) hn_1855 (by decide)) ?_
  refine j_ic_ge (tgt := 166) C dX9_init_144 (by decide) (fun c9 => absurd c9 (by decide)) (fun c9 => ?_)
  refine j_aload_n C dX9_init_147 rfl 1 rfl ?_
  refine j_getr (f := 904) (v := q_161) C flX9_34 dX9_init_148 hm_1851 hk_1852 (by decide) rfl hv_1886 ?_
  refine j_iload_n C dX9_init_151 rfl 0 rfl ?_
  refine j_new (N := 4) C (ci := 10) rfl rfl klX9_32 knX10 kiX10 (M.cells (by decide)) (M.slots (by decide)) dX9_init_152 (fun q_1900 hq_1901 => ?_)
  have hz_1902 : q_1900 ∉ hL S := fun h9 => hq_1901 (hf_1896.mem h9)
  have gn_1903 : ∀ g9 ∈ gs_1846, ∀ p9 ∈ (gT g9.1).2.2, g9.2.getD p9.2.1 0 ≠ q_1900 := Gs.ne hG_1898 hq_1901
  refine j_dup C dX9_init_155 rfl ?_
  show J _ _ _ _ _ 156 _
  have hf_1904 : Fm (fun _ _ => False) (fun f9 b9 => b9 = h) (fun _ => False) S (nO S_1848 q_1900 10) := (hf_1896.nO _ hq_1901)
  refine j_callI C [] [.ref q_1900, .int 10, .ref q_161] mlX9_38 mcX10_init (c_X10_init (nO S_1848 q_1900 10) q_1900 mem_new (kd_nO' (k := 10))) (M.rm (by decide) (by decide) (Nat.le_of_ble_eq_true rfl) (Nat.le_of_ble_eq_true rfl)) rfl rfl (Nat.le_of_ble_eq_true rfl) dX9_init_156 (fun r_1914 S_1915 hp_1916 => ?_)
  obtain ⟨rfl, hf_1917, e_1906, e_1907, q_1905, e_1908, e_1909, e_1910, e_1911, e_1912, hNl_1913⟩ := hp_1916
  refine J.eq (st' := [.ref q_1900, .int 10, .ref q_161]) rfl rfl rfl ?_
  have hz_1918 : ∀ j, aI S_1915 q_161 j = 0 := fun j9 => (hf_1917.ai (mem_old hm_1853) (fun h9 => h9) j9).trans (hz_1856 j9)
  have hz_1919 : ∀ j, aI S_1915 q_266 j = 0 := fun j9 => (hf_1917.ai (mem_old hm_1859) (fun h9 => h9) j9).trans (hz_1862 j9)
  have hz_1920 : ∀ j, aI S_1915 q_295 j = 0 := fun j9 => (hf_1917.ai (mem_old hm_1863) (fun h9 => h9) j9).trans (hz_1866 j9)
  have hz_1921 : ∀ j, aI S_1915 q_524 j = 0 := fun j9 => (hf_1917.ai (mem_old hm_1867) (fun h9 => h9) j9).trans (hz_1870 j9)
  have hz_1922 : ∀ j, aI S_1915 q_565 j = 0 := fun j9 => (hf_1917.ai (mem_old hm_1871) (fun h9 => h9) j9).trans (hz_1874 j9)
  have hz_1923 : ∀ j, aI S_1915 q_610 j = 0 := fun j9 => (hf_1917.ai (mem_old hm_1875) (fun h9 => h9) j9).trans (hz_1878 j9)
  have hm_1924 : h ∈ hL S_1915 := hf_1917.mem (mem_old hm_1851)
  have hk_1925 : Kd S_1915 h 9 := hf_1917.kd (mem_old hm_1851) (kd_nO (k := 10) hq_1901 hm_1851 hk_1852)
  have hm_1926 : q_161 ∈ hL S_1915 := hf_1917.mem (mem_old hm_1853)
  have hk_1927 : Kd S_1915 q_161 20 := hf_1917.kd (mem_old hm_1853) (kd_nO (k := 10) hq_1901 hm_1853 hk_1854)
  have hn_1928 : Ln S_1915 q_161 16 := hf_1917.ln (mem_old hm_1853) hn_1855
  have hm_1929 : q_1900 ∈ hL S_1915 := hf_1917.mem mem_new
  have hk_1930 : Kd S_1915 q_1900 10 := hf_1917.kd mem_new (kd_nO' (k := 10))
  have hm_1931 : q_266 ∈ hL S_1915 := hf_1917.mem (mem_old hm_1859)
  have hk_1932 : Kd S_1915 q_266 13 := hf_1917.kd (mem_old hm_1859) (kd_nO (k := 10) hq_1901 hm_1859 hk_1860)
  have hn_1933 : Ln S_1915 q_266 24000 := hf_1917.ln (mem_old hm_1859) hn_1861
  have hm_1934 : q_295 ∈ hL S_1915 := hf_1917.mem (mem_old hm_1863)
  have hk_1935 : Kd S_1915 q_295 14 := hf_1917.kd (mem_old hm_1863) (kd_nO (k := 10) hq_1901 hm_1863 hk_1864)
  have hn_1936 : Ln S_1915 q_295 16 := hf_1917.ln (mem_old hm_1863) hn_1865
  have hm_1937 : q_524 ∈ hL S_1915 := hf_1917.mem (mem_old hm_1867)
  have hk_1938 : Kd S_1915 q_524 18 := hf_1917.kd (mem_old hm_1867) (kd_nO (k := 10) hq_1901 hm_1867 hk_1868)
  have hn_1939 : Ln S_1915 q_524 3 := hf_1917.ln (mem_old hm_1867) hn_1869
  have hm_1940 : q_565 ∈ hL S_1915 := hf_1917.mem (mem_old hm_1871)
  have hk_1941 : Kd S_1915 q_565 19 := hf_1917.kd (mem_old hm_1871) (kd_nO (k := 10) hq_1901 hm_1871 hk_1872)
  have hn_1942 : Ln S_1915 q_565 4 := hf_1917.ln (mem_old hm_1871) hn_1873
  have hm_1943 : q_610 ∈ hL S_1915 := hf_1917.mem (mem_old hm_1875)
  have hk_1944 : Kd S_1915 q_610 14 := hf_1917.kd (mem_old hm_1875) (kd_nO (k := 10) hq_1901 hm_1875 hk_1876)
  have hn_1945 : Ln S_1915 q_610 12 := hf_1917.ln (mem_old hm_1875) hn_1877
  have hv_1946 : hR S_1915 900 h = (some s0) := hf_1917.fr (mem_old hm_1851) (fun q9 => (fun e9 => absurd (((kd_nO (k := 10) hq_1901 hm_1851 hk_1852)).symm.trans ((congrArg (hK _) e9).trans (kd_nO' (k := 10)))) (by decide)) q9) (rd_nOR (k := 10) hq_1901 hm_1851 hv_1882)
  have hv_1947 : hR S_1915 901 h = (some q_1) := hf_1917.fr (mem_old hm_1851) (fun q9 => (fun e9 => absurd (((kd_nO (k := 10) hq_1901 hm_1851 hk_1852)).symm.trans ((congrArg (hK _) e9).trans (kd_nO' (k := 10)))) (by decide)) q9) (rd_nOR (k := 10) hq_1901 hm_1851 hv_1883)
  have hv_1948 : hR S_1915 902 h = (some q_41) := hf_1917.fr (mem_old hm_1851) (fun q9 => (fun e9 => absurd (((kd_nO (k := 10) hq_1901 hm_1851 hk_1852)).symm.trans ((congrArg (hK _) e9).trans (kd_nO' (k := 10)))) (by decide)) q9) (rd_nOR (k := 10) hq_1901 hm_1851 hv_1884)
  have hv_1949 : hR S_1915 903 h = (some q_126) := hf_1917.fr (mem_old hm_1851) (fun q9 => (fun e9 => absurd (((kd_nO (k := 10) hq_1901 hm_1851 hk_1852)).symm.trans ((congrArg (hK _) e9).trans (kd_nO' (k := 10)))) (by decide)) q9) (rd_nOR (k := 10) hq_1901 hm_1851 hv_1885)
  have hv_1950 : hR S_1915 904 h = (some q_161) := hf_1917.fr (mem_old hm_1851) (fun q9 => (fun e9 => absurd (((kd_nO (k := 10) hq_1901 hm_1851 hk_1852)).symm.trans ((congrArg (hK _) e9).trans (kd_nO' (k := 10)))) (by decide)) q9) (rd_nOR (k := 10) hq_1901 hm_1851 hv_1886)
  have hv_1951 : hR S_1915 905 h = (some q_183) := hf_1917.fr (mem_old hm_1851) (fun q9 => (fun e9 => absurd (((kd_nO (k := 10) hq_1901 hm_1851 hk_1852)).symm.trans ((congrArg (hK _) e9).trans (kd_nO' (k := 10)))) (by decide)) q9) (rd_nOR (k := 10) hq_1901 hm_1851 hv_1887)
  have hv_1952 : hR S_1915 906 h = (some q_224) := hf_1917.fr (mem_old hm_1851) (fun q9 => (fun e9 => absurd (((kd_nO (k := 10) hq_1901 hm_1851 hk_1852)).symm.trans ((congrArg (hK _) e9).trans (kd_nO' (k := 10)))) (by decide)) q9) (rd_nOR (k := 10) hq_1901 hm_1851 hv_1888)
  have hv_1953 : hR S_1915 907 h = (some q_266) := hf_1917.fr (mem_old hm_1851) (fun q9 => (fun e9 => absurd (((kd_nO (k := 10) hq_1901 hm_1851 hk_1852)).symm.trans ((congrArg (hK _) e9).trans (kd_nO' (k := 10)))) (by decide)) q9) (rd_nOR (k := 10) hq_1901 hm_1851 hv_1889)
  have hv_1954 : hR S_1915 908 h = (some q_295) := hf_1917.fr (mem_old hm_1851) (fun q9 => (fun e9 => absurd (((kd_nO (k := 10) hq_1901 hm_1851 hk_1852)).symm.trans ((congrArg (hK _) e9).trans (kd_nO' (k := 10)))) (by decide)) q9) (rd_nOR (k := 10) hq_1901 hm_1851 hv_1890)
  have hv_1955 : hR S_1915 909 h = (some q_328) := hf_1917.fr (mem_old hm_1851) (fun q9 => (fun e9 => absurd (((kd_nO (k := 10) hq_1901 hm_1851 hk_1852)).symm.trans ((congrArg (hK _) e9).trans (kd_nO' (k := 10)))) (by decide)) q9) (rd_nOR (k := 10) hq_1901 hm_1851 hv_1891)
  have hv_1956 : hR S_1915 910 h = (some q_425) := hf_1917.fr (mem_old hm_1851) (fun q9 => (fun e9 => absurd (((kd_nO (k := 10) hq_1901 hm_1851 hk_1852)).symm.trans ((congrArg (hK _) e9).trans (kd_nO' (k := 10)))) (by decide)) q9) (rd_nOR (k := 10) hq_1901 hm_1851 hv_1892)
  have hv_1957 : hR S_1915 911 h = (some q_524) := hf_1917.fr (mem_old hm_1851) (fun q9 => (fun e9 => absurd (((kd_nO (k := 10) hq_1901 hm_1851 hk_1852)).symm.trans ((congrArg (hK _) e9).trans (kd_nO' (k := 10)))) (by decide)) q9) (rd_nOR (k := 10) hq_1901 hm_1851 hv_1893)
  have hv_1958 : hR S_1915 912 h = (some q_565) := hf_1917.fr (mem_old hm_1851) (fun q9 => (fun e9 => absurd (((kd_nO (k := 10) hq_1901 hm_1851 hk_1852)).symm.trans ((congrArg (hK _) e9).trans (kd_nO' (k := 10)))) (by decide)) q9) (rd_nOR (k := 10) hq_1901 hm_1851 hv_1894)
  have hv_1959 : hR S_1915 917 h = (some q_610) := hf_1917.fr (mem_old hm_1851) (fun q9 => (fun e9 => absurd (((kd_nO (k := 10) hq_1901 hm_1851 hk_1852)).symm.trans ((congrArg (hK _) e9).trans (kd_nO' (k := 10)))) (by decide)) q9) (rd_nOR (k := 10) hq_1901 hm_1851 hv_1895)
  have hf_1960 : Fm (fun _ _ => False) (fun f9 b9 => b9 = h) (fun _ => False) S S_1915 := hf_1904.then hf_1917 (fun a9 ha9 => ⟨(fun f9 h9 => (fun h9 => h9.elim (fun h8 => absurd (h8.2 ▸ ha9) hz_1902) (fun h8 => absurd (h8.2 ▸ ha9) hz_1902)) h9), (fun f9 h9 => (fun h8 => absurd (h8 ▸ ha9) hz_1902) h9), (fun h9 => h9.elim)⟩)
  have hN_1961 : NL S (L_1842 ++ [q_1900]) S_1915 := NL.mono (show NL S (L_1842 ++ [q_1900]) (nO S_1848 q_1900 10) from NL.nO hN_1897 hq_1901 hz_1902) (fun a9 h9 => hf_1917.mem h9)
  have hG_1962 : Gs h gs_1846 S_1915 := Gs.fm (show Gs h gs_1846 (nO S_1848 q_1900 10) from Gs.nO hG_1898 hq_1901) hf_1917 (fun g9 hg9 p9 hp9 => gn_1903 g9 hg9 p9 hp9)
  have hE_1963 : ELs S_1915 q_161 [q_661, q_784, q_908, q_1032, q_1156, q_1280, q_1404, q_1528, q_1652, q_1776] := ELs.fm (ELs.nO (S := S_1848) hE_1899) hf_1917 (mem_old hm_1853) (fun h9 => h9)
  have hz_1964 : q_1905 ∉ hL S := fun h9 => e_1908 (hf_1904.mem h9)
  have hN_1965 : NL S ((L_1842 ++ [q_1900]) ++ [q_1905]) S_1915 := NL.app (show NL S (L_1842 ++ [q_1900]) (nO S_1848 q_1900 10) from NL.nO hN_1897 hq_1901 hz_1902) hNl_1913 (fun a9 h9 => hf_1917.mem h9) (fun a9 h9 => hf_1904.mem h9)
  obtain ⟨L_1966, eL_1967⟩ : ∃ L9 : List Nat, L9 = ((L_1842 ++ [q_1900]) ++ [q_1905]) := ⟨_, rfl⟩
  rw [← eL_1967] at hN_1965
  have hGt_1968 : Gt 1 [q_1900, q_1905] S_1915 := ⟨fun i9 k9 h9 => (match i9, h9 with | 0, h9 => (by have e9 : (10 : Nat) = k9 := Option.some.inj h9; subst e9; exact ⟨hm_1929, hk_1930⟩) | 1, h9 => (by have e9 : (15 : Nat) = k9 := Option.some.inj h9; subst e9; exact ⟨e_1909, e_1910⟩) | i9 + 2, h9 => absurd h9 (by simp [gT])), (List.forall_mem_cons.mpr ⟨e_1911, (fun _ h9 => absurd h9 List.not_mem_nil)⟩), (List.forall_mem_cons.mpr ⟨e_1912, (fun _ h9 => absurd h9 List.not_mem_nil)⟩), (fun _ h9 => absurd h9 List.not_mem_nil)⟩
  have hG_1969 : Gs h (gs_1846 ++ [(1, [q_1900, q_1905])]) S_1915 := Gs.snoc hG_1962 (by decide) hGt_1968 (List.forall_mem_cons.mpr ⟨(own_ne hz_1902 hm), (fun _ h9 => absurd h9 List.not_mem_nil)⟩)
  obtain ⟨gs_1970, eG_1971⟩ : ∃ G9 : List (Nat × List Nat), G9 = gs_1846 ++ [(1, [q_1900, q_1905])] := ⟨_, rfl⟩
  rw [← eG_1971] at hG_1969
  refine j_aast (j := 10) (ci := 10) C 20  (by decide) rfl dX9_init_159 hm_1926 hk_1927 (inr_of (n := 16) hn_1928 (vp_lit (by decide))) (by decide) hm_1929 hk_1930 rfl ?_
  have hf_1974 : Fm (fun _ _ => False) (fun f9 b9 => b9 = h) (fun _ => False) S (tR S_1915 q_161 10 (some q_1900)) := (hf_1960.tR _ _ (fun h9 => absurd h9 hz_164))
  obtain ⟨S_1972, eS_1973⟩ : ∃ S9 : Hp, S9 = (tR S_1915 q_161 10 (some q_1900)) := ⟨_, rfl⟩
  refine J.eq (S' := S_1972) eS_1973.symm rfl rfl ?_
  have hm_1975 : h ∈ hL S_1972 := by rw [eS_1973]; exact hm_1924
  have hk_1976 : Kd S_1972 h 9 := by rw [eS_1973]; exact hk_1925
  have hm_1977 : q_161 ∈ hL S_1972 := by rw [eS_1973]; exact hm_1926
  have hk_1978 : Kd S_1972 q_161 20 := by rw [eS_1973]; exact hk_1927
  have hn_1979 : Ln S_1972 q_161 16 := by rw [eS_1973]; exact hn_1928
  have hz_1980 : ∀ j, aI S_1972 q_161 j = 0 := by rw [eS_1973]; exact hz_1918
  have hm_1981 : q_1900 ∈ hL S_1972 := by rw [eS_1973]; exact hm_1929
  have hk_1982 : Kd S_1972 q_1900 10 := by rw [eS_1973]; exact hk_1930
  have hm_1983 : q_266 ∈ hL S_1972 := by rw [eS_1973]; exact hm_1931
  have hk_1984 : Kd S_1972 q_266 13 := by rw [eS_1973]; exact hk_1932
  have hn_1985 : Ln S_1972 q_266 24000 := by rw [eS_1973]; exact hn_1933
  have hz_1986 : ∀ j, aI S_1972 q_266 j = 0 := by rw [eS_1973]; exact hz_1919
  have hm_1987 : q_295 ∈ hL S_1972 := by rw [eS_1973]; exact hm_1934
  have hk_1988 : Kd S_1972 q_295 14 := by rw [eS_1973]; exact hk_1935
  have hn_1989 : Ln S_1972 q_295 16 := by rw [eS_1973]; exact hn_1936
  have hz_1990 : ∀ j, aI S_1972 q_295 j = 0 := by rw [eS_1973]; exact hz_1920
  have hm_1991 : q_524 ∈ hL S_1972 := by rw [eS_1973]; exact hm_1937
  have hk_1992 : Kd S_1972 q_524 18 := by rw [eS_1973]; exact hk_1938
  have hn_1993 : Ln S_1972 q_524 3 := by rw [eS_1973]; exact hn_1939
  have hz_1994 : ∀ j, aI S_1972 q_524 j = 0 := by rw [eS_1973]; exact hz_1921
  have hm_1995 : q_565 ∈ hL S_1972 := by rw [eS_1973]; exact hm_1940
  have hk_1996 : Kd S_1972 q_565 19 := by rw [eS_1973]; exact hk_1941
  have hn_1997 : Ln S_1972 q_565 4 := by rw [eS_1973]; exact hn_1942
  have hz_1998 : ∀ j, aI S_1972 q_565 j = 0 := by rw [eS_1973]; exact hz_1922
  have hm_1999 : q_610 ∈ hL S_1972 := by rw [eS_1973]; exact hm_1943
  have hk_2000 : Kd S_1972 q_610 14 := by rw [eS_1973]; exact hk_1944
  have hn_2001 : Ln S_1972 q_610 12 := by rw [eS_1973]; exact hn_1945
  have hz_2002 : ∀ j, aI S_1972 q_610 j = 0 := by rw [eS_1973]; exact hz_1923
  have hv_2003 : hI S_1972 1000 q_1900 = 1 := by rw [eS_1973]; exact e_1906
  have hv_2004 : hI S_1972 1001 q_1900 = 1 := by rw [eS_1973]; exact e_1907
  have hv_2005 : hR S_1972 1003 q_1900 = (some q_1905) := by rw [eS_1973]; exact e_1912
  have hv_2006 : hR S_1972 900 h = (some s0) := by rw [eS_1973]; exact hv_1946
  have hv_2007 : hR S_1972 901 h = (some q_1) := by rw [eS_1973]; exact hv_1947
  have hv_2008 : hR S_1972 902 h = (some q_41) := by rw [eS_1973]; exact hv_1948
  have hv_2009 : hR S_1972 903 h = (some q_126) := by rw [eS_1973]; exact hv_1949
  have hv_2010 : hR S_1972 904 h = (some q_161) := by rw [eS_1973]; exact hv_1950
  have hv_2011 : hR S_1972 905 h = (some q_183) := by rw [eS_1973]; exact hv_1951
  have hv_2012 : hR S_1972 906 h = (some q_224) := by rw [eS_1973]; exact hv_1952
  have hv_2013 : hR S_1972 907 h = (some q_266) := by rw [eS_1973]; exact hv_1953
  have hv_2014 : hR S_1972 908 h = (some q_295) := by rw [eS_1973]; exact hv_1954
  have hv_2015 : hR S_1972 909 h = (some q_328) := by rw [eS_1973]; exact hv_1955
  have hv_2016 : hR S_1972 910 h = (some q_425) := by rw [eS_1973]; exact hv_1956
  have hv_2017 : hR S_1972 911 h = (some q_524) := by rw [eS_1973]; exact hv_1957
  have hv_2018 : hR S_1972 912 h = (some q_565) := by rw [eS_1973]; exact hv_1958
  have hv_2019 : hR S_1972 917 h = (some q_610) := by rw [eS_1973]; exact hv_1959
  have hf_2020 : Fm (fun _ _ => False) (fun f9 b9 => b9 = h) (fun _ => False) S S_1972 := by rw [eS_1973]; exact hf_1974
  have hN_2021 : NL S L_1966 S_1972 := by rw [eS_1973]; exact (NL.tR (S := S_1915) hN_1965)
  have hG_2022 : Gs h gs_1970 S_1972 := by rw [eS_1973]; exact (Gs.tR (S := S_1915) hG_1969)
  have hE_2023 : ELs S_1972 q_161 [q_661, q_784, q_908, q_1032, q_1156, q_1280, q_1404, q_1528, q_1652, q_1776, q_1900] := by rw [eS_1973]; exact (show ELs (tR S_1915 q_161 10 (some q_1900)) q_161 [q_661, q_784, q_908, q_1032, q_1156, q_1280, q_1404, q_1528, q_1652, q_1776, q_1900] from ELs.snoc hE_1963 rfl)
  refine j_iinc (q := 0) (v := 11) (lv' := [(2, .int 11), (0, .ref h), (1, .ref s0)]) C dX9_init_160 rfl (by decide) (by rw [hn9]; decide) rfl ?_
  refine j_goto (tgt := 138) C dX9_init_163 (by decide) ?_
  refine j_iload_n C dX9_init_138 rfl 0 rfl ?_
  refine j_aload_n C dX9_init_139 rfl 1 rfl ?_
  refine j_getr (f := 904) (v := q_161) C flX9_34 dX9_init_140 hm_1975 hk_1976 (by decide) rfl hv_2010 ?_
  refine j_alen (v := 16) C dX9_init_143 hm_1977 hk_1978 (by decide) (by decide) (len_of (n := 16) hn_1979 (by decide)) ?_
  show J _ _ _ _ _ 144 _
  refine j_ic_ge (tgt := 166) C dX9_init_144 (by decide) (fun c9 => absurd c9 (by decide)) (fun c9 => ?_)
  refine j_aload_n C dX9_init_147 rfl 1 rfl ?_
  refine j_getr (f := 904) (v := q_161) C flX9_34 dX9_init_148 hm_1975 hk_1976 (by decide) rfl hv_2010 ?_
  refine j_iload_n C dX9_init_151 rfl 0 rfl ?_
  refine j_new (N := 4) C (ci := 10) rfl rfl klX9_32 knX10 kiX10 (M.cells (by decide)) (M.slots (by decide)) dX9_init_152 (fun q_2024 hq_2025 => ?_)
  have hz_2026 : q_2024 ∉ hL S := fun h9 => hq_2025 (hf_2020.mem h9)
  have gn_2027 : ∀ g9 ∈ gs_1970, ∀ p9 ∈ (gT g9.1).2.2, g9.2.getD p9.2.1 0 ≠ q_2024 := Gs.ne hG_2022 hq_2025
  refine j_dup C dX9_init_155 rfl ?_
  have hf_2028 : Fm (fun _ _ => False) (fun f9 b9 => b9 = h) (fun _ => False) S (nO S_1972 q_2024 10) := (hf_2020.nO _ hq_2025)
  refine j_callI C [] [.ref q_2024, .int 11, .ref q_161] mlX9_38 mcX10_init (c_X10_init (nO S_1972 q_2024 10) q_2024 mem_new (kd_nO' (k := 10))) (M.rm (by decide) (by decide) (Nat.le_of_ble_eq_true rfl) (Nat.le_of_ble_eq_true rfl)) rfl rfl (Nat.le_of_ble_eq_true rfl) dX9_init_156 (fun r_2038 S_2039 hp_2040 => ?_)
  obtain ⟨rfl, hf_2041, e_2030, e_2031, q_2029, e_2032, e_2033, e_2034, e_2035, e_2036, hNl_2037⟩ := hp_2040
  refine J.eq (st' := [.ref q_2024, .int 11, .ref q_161]) rfl rfl rfl ?_
  have hz_2042 : ∀ j, aI S_2039 q_161 j = 0 := fun j9 => (hf_2041.ai (mem_old hm_1977) (fun h9 => h9) j9).trans (hz_1980 j9)
  have hz_2043 : ∀ j, aI S_2039 q_266 j = 0 := fun j9 => (hf_2041.ai (mem_old hm_1983) (fun h9 => h9) j9).trans (hz_1986 j9)
  have hz_2044 : ∀ j, aI S_2039 q_295 j = 0 := fun j9 => (hf_2041.ai (mem_old hm_1987) (fun h9 => h9) j9).trans (hz_1990 j9)
  have hz_2045 : ∀ j, aI S_2039 q_524 j = 0 := fun j9 => (hf_2041.ai (mem_old hm_1991) (fun h9 => h9) j9).trans (hz_1994 j9)
  have hz_2046 : ∀ j, aI S_2039 q_565 j = 0 := fun j9 => (hf_2041.ai (mem_old hm_1995) (fun h9 => h9) j9).trans (hz_1998 j9)
  have hz_2047 : ∀ j, aI S_2039 q_610 j = 0 := fun j9 => (hf_2041.ai (mem_old hm_1999) (fun h9 => h9) j9).trans (hz_2002 j9)
  have hm_2048 : h ∈ hL S_2039 := hf_2041.mem (mem_old hm_1975)
  have hk_2049 : Kd S_2039 h 9 := hf_2041.kd (mem_old hm_1975) (kd_nO (k := 10) hq_2025 hm_1975 hk_1976)
  have hm_2050 : q_161 ∈ hL S_2039 := hf_2041.mem (mem_old hm_1977)
  have hk_2051 : Kd S_2039 q_161 20 := hf_2041.kd (mem_old hm_1977) (kd_nO (k := 10) hq_2025 hm_1977 hk_1978)
  have hn_2052 : Ln S_2039 q_161 16 := hf_2041.ln (mem_old hm_1977) hn_1979
  have hm_2053 : q_2024 ∈ hL S_2039 := hf_2041.mem mem_new
  have hk_2054 : Kd S_2039 q_2024 10 := hf_2041.kd mem_new (kd_nO' (k := 10))
  have hm_2055 : q_266 ∈ hL S_2039 := hf_2041.mem (mem_old hm_1983)
  have hk_2056 : Kd S_2039 q_266 13 := hf_2041.kd (mem_old hm_1983) (kd_nO (k := 10) hq_2025 hm_1983 hk_1984)
  have hn_2057 : Ln S_2039 q_266 24000 := hf_2041.ln (mem_old hm_1983) hn_1985
  have hm_2058 : q_295 ∈ hL S_2039 := hf_2041.mem (mem_old hm_1987)
  have hk_2059 : Kd S_2039 q_295 14 := hf_2041.kd (mem_old hm_1987) (kd_nO (k := 10) hq_2025 hm_1987 hk_1988)
  have hn_2060 : Ln S_2039 q_295 16 := hf_2041.ln (mem_old hm_1987) hn_1989
  have hm_2061 : q_524 ∈ hL S_2039 := hf_2041.mem (mem_old hm_1991)
  have hk_2062 : Kd S_2039 q_524 18 := hf_2041.kd (mem_old hm_1991) (kd_nO (k := 10) hq_2025 hm_1991 hk_1992)
  have hn_2063 : Ln S_2039 q_524 3 := hf_2041.ln (mem_old hm_1991) hn_1993
  have hm_2064 : q_565 ∈ hL S_2039 := hf_2041.mem (mem_old hm_1995)
  have hk_2065 : Kd S_2039 q_565 19 := hf_2041.kd (mem_old hm_1995) (kd_nO (k := 10) hq_2025 hm_1995 hk_1996)
  have hn_2066 : Ln S_2039 q_565 4 := hf_2041.ln (mem_old hm_1995) hn_1997
  have hm_2067 : q_610 ∈ hL S_2039 := hf_2041.mem (mem_old hm_1999)
  have hk_2068 : Kd S_2039 q_610 14 := hf_2041.kd (mem_old hm_1999) (kd_nO (k := 10) hq_2025 hm_1999 hk_2000)
  have hn_2069 : Ln S_2039 q_610 12 := hf_2041.ln (mem_old hm_1999) hn_2001
  have hv_2070 : hR S_2039 900 h = (some s0) := hf_2041.fr (mem_old hm_1975) (fun q9 => (fun e9 => absurd (((kd_nO (k := 10) hq_2025 hm_1975 hk_1976)).symm.trans ((congrArg (hK _) e9).trans (kd_nO' (k := 10)))) (by decide)) q9) (rd_nOR (k := 10) hq_2025 hm_1975 hv_2006)
  have hv_2071 : hR S_2039 901 h = (some q_1) := hf_2041.fr (mem_old hm_1975) (fun q9 => (fun e9 => absurd (((kd_nO (k := 10) hq_2025 hm_1975 hk_1976)).symm.trans ((congrArg (hK _) e9).trans (kd_nO' (k := 10)))) (by decide)) q9) (rd_nOR (k := 10) hq_2025 hm_1975 hv_2007)
  have hv_2072 : hR S_2039 902 h = (some q_41) := hf_2041.fr (mem_old hm_1975) (fun q9 => (fun e9 => absurd (((kd_nO (k := 10) hq_2025 hm_1975 hk_1976)).symm.trans ((congrArg (hK _) e9).trans (kd_nO' (k := 10)))) (by decide)) q9) (rd_nOR (k := 10) hq_2025 hm_1975 hv_2008)
  have hv_2073 : hR S_2039 903 h = (some q_126) := hf_2041.fr (mem_old hm_1975) (fun q9 => (fun e9 => absurd (((kd_nO (k := 10) hq_2025 hm_1975 hk_1976)).symm.trans ((congrArg (hK _) e9).trans (kd_nO' (k := 10)))) (by decide)) q9) (rd_nOR (k := 10) hq_2025 hm_1975 hv_2009)
  have hv_2074 : hR S_2039 904 h = (some q_161) := hf_2041.fr (mem_old hm_1975) (fun q9 => (fun e9 => absurd (((kd_nO (k := 10) hq_2025 hm_1975 hk_1976)).symm.trans ((congrArg (hK _) e9).trans (kd_nO' (k := 10)))) (by decide)) q9) (rd_nOR (k := 10) hq_2025 hm_1975 hv_2010)
  have hv_2075 : hR S_2039 905 h = (some q_183) := hf_2041.fr (mem_old hm_1975) (fun q9 => (fun e9 => absurd (((kd_nO (k := 10) hq_2025 hm_1975 hk_1976)).symm.trans ((congrArg (hK _) e9).trans (kd_nO' (k := 10)))) (by decide)) q9) (rd_nOR (k := 10) hq_2025 hm_1975 hv_2011)
  have hv_2076 : hR S_2039 906 h = (some q_224) := hf_2041.fr (mem_old hm_1975) (fun q9 => (fun e9 => absurd (((kd_nO (k := 10) hq_2025 hm_1975 hk_1976)).symm.trans ((congrArg (hK _) e9).trans (kd_nO' (k := 10)))) (by decide)) q9) (rd_nOR (k := 10) hq_2025 hm_1975 hv_2012)
  have hv_2077 : hR S_2039 907 h = (some q_266) := hf_2041.fr (mem_old hm_1975) (fun q9 => (fun e9 => absurd (((kd_nO (k := 10) hq_2025 hm_1975 hk_1976)).symm.trans ((congrArg (hK _) e9).trans (kd_nO' (k := 10)))) (by decide)) q9) (rd_nOR (k := 10) hq_2025 hm_1975 hv_2013)
  have hv_2078 : hR S_2039 908 h = (some q_295) := hf_2041.fr (mem_old hm_1975) (fun q9 => (fun e9 => absurd (((kd_nO (k := 10) hq_2025 hm_1975 hk_1976)).symm.trans ((congrArg (hK _) e9).trans (kd_nO' (k := 10)))) (by decide)) q9) (rd_nOR (k := 10) hq_2025 hm_1975 hv_2014)
  have hv_2079 : hR S_2039 909 h = (some q_328) := hf_2041.fr (mem_old hm_1975) (fun q9 => (fun e9 => absurd (((kd_nO (k := 10) hq_2025 hm_1975 hk_1976)).symm.trans ((congrArg (hK _) e9).trans (kd_nO' (k := 10)))) (by decide)) q9) (rd_nOR (k := 10) hq_2025 hm_1975 hv_2015)
  have hv_2080 : hR S_2039 910 h = (some q_425) := hf_2041.fr (mem_old hm_1975) (fun q9 => (fun e9 => absurd (((kd_nO (k := 10) hq_2025 hm_1975 hk_1976)).symm.trans ((congrArg (hK _) e9).trans (kd_nO' (k := 10)))) (by decide)) q9) (rd_nOR (k := 10) hq_2025 hm_1975 hv_2016)
  have hv_2081 : hR S_2039 911 h = (some q_524) := hf_2041.fr (mem_old hm_1975) (fun q9 => (fun e9 => absurd (((kd_nO (k := 10) hq_2025 hm_1975 hk_1976)).symm.trans ((congrArg (hK _) e9).trans (kd_nO' (k := 10)))) (by decide)) q9) (rd_nOR (k := 10) hq_2025 hm_1975 hv_2017)
  have hv_2082 : hR S_2039 912 h = (some q_565) := hf_2041.fr (mem_old hm_1975) (fun q9 => (fun e9 => absurd (((kd_nO (k := 10) hq_2025 hm_1975 hk_1976)).symm.trans ((congrArg (hK _) e9).trans (kd_nO' (k := 10)))) (by decide)) q9) (rd_nOR (k := 10) hq_2025 hm_1975 hv_2018)
  have hv_2083 : hR S_2039 917 h = (some q_610) := hf_2041.fr (mem_old hm_1975) (fun q9 => (fun e9 => absurd (((kd_nO (k := 10) hq_2025 hm_1975 hk_1976)).symm.trans ((congrArg (hK _) e9).trans (kd_nO' (k := 10)))) (by decide)) q9) (rd_nOR (k := 10) hq_2025 hm_1975 hv_2019)
  have hf_2084 : Fm (fun _ _ => False) (fun f9 b9 => b9 = h) (fun _ => False) S S_2039 := hf_2028.then hf_2041 (fun a9 ha9 => ⟨(fun f9 h9 => (fun h9 => h9.elim (fun h8 => absurd (h8.2 ▸ ha9) hz_2026) (fun h8 => absurd (h8.2 ▸ ha9) hz_2026)) h9), (fun f9 h9 => (fun h8 => absurd (h8 ▸ ha9) hz_2026) h9), (fun h9 => h9.elim)⟩)
  have hN_2085 : NL S (L_1966 ++ [q_2024]) S_2039 := NL.mono (show NL S (L_1966 ++ [q_2024]) (nO S_1972 q_2024 10) from NL.nO hN_2021 hq_2025 hz_2026) (fun a9 h9 => hf_2041.mem h9)
  have hG_2086 : Gs h gs_1970 S_2039 := Gs.fm (show Gs h gs_1970 (nO S_1972 q_2024 10) from Gs.nO hG_2022 hq_2025) hf_2041 (fun g9 hg9 p9 hp9 => gn_2027 g9 hg9 p9 hp9)
  have hE_2087 : ELs S_2039 q_161 [q_661, q_784, q_908, q_1032, q_1156, q_1280, q_1404, q_1528, q_1652, q_1776, q_1900] := ELs.fm (ELs.nO (S := S_1972) hE_2023) hf_2041 (mem_old hm_1977) (fun h9 => h9)
  have hz_2088 : q_2029 ∉ hL S := fun h9 => e_2032 (hf_2028.mem h9)
  have hN_2089 : NL S ((L_1966 ++ [q_2024]) ++ [q_2029]) S_2039 := NL.app (show NL S (L_1966 ++ [q_2024]) (nO S_1972 q_2024 10) from NL.nO hN_2021 hq_2025 hz_2026) hNl_2037 (fun a9 h9 => hf_2041.mem h9) (fun a9 h9 => hf_2028.mem h9)
  obtain ⟨L_2090, eL_2091⟩ : ∃ L9 : List Nat, L9 = ((L_1966 ++ [q_2024]) ++ [q_2029]) := ⟨_, rfl⟩
  rw [← eL_2091] at hN_2089
  have hGt_2092 : Gt 1 [q_2024, q_2029] S_2039 := ⟨fun i9 k9 h9 => (match i9, h9 with | 0, h9 => (by have e9 : (10 : Nat) = k9 := Option.some.inj h9; subst e9; exact ⟨hm_2053, hk_2054⟩) | 1, h9 => (by have e9 : (15 : Nat) = k9 := Option.some.inj h9; subst e9; exact ⟨e_2033, e_2034⟩) | i9 + 2, h9 => absurd h9 (by simp [gT])), (List.forall_mem_cons.mpr ⟨e_2035, (fun _ h9 => absurd h9 List.not_mem_nil)⟩), (List.forall_mem_cons.mpr ⟨e_2036, (fun _ h9 => absurd h9 List.not_mem_nil)⟩), (fun _ h9 => absurd h9 List.not_mem_nil)⟩
  have hG_2093 : Gs h (gs_1970 ++ [(1, [q_2024, q_2029])]) S_2039 := Gs.snoc hG_2086 (by decide) hGt_2092 (List.forall_mem_cons.mpr ⟨(own_ne hz_2026 hm), (fun _ h9 => absurd h9 List.not_mem_nil)⟩)
  obtain ⟨gs_2094, eG_2095⟩ : ∃ G9 : List (Nat × List Nat), G9 = gs_1970 ++ [(1, [q_2024, q_2029])] := ⟨_, rfl⟩
  rw [← eG_2095] at hG_2093
  refine j_aast (j := 11) (ci := 10) C 20  (by decide) rfl dX9_init_159 hm_2050 hk_2051 (inr_of (n := 16) hn_2052 (vp_lit (by decide))) (by decide) hm_2053 hk_2054 rfl ?_
  have hf_2098 : Fm (fun _ _ => False) (fun f9 b9 => b9 = h) (fun _ => False) S (tR S_2039 q_161 11 (some q_2024)) := (hf_2084.tR _ _ (fun h9 => absurd h9 hz_164))
  obtain ⟨S_2096, eS_2097⟩ : ∃ S9 : Hp, S9 = (tR S_2039 q_161 11 (some q_2024)) := ⟨_, rfl⟩
  refine J.eq (S' := S_2096) eS_2097.symm rfl rfl ?_
  have hm_2099 : h ∈ hL S_2096 := by rw [eS_2097]; exact hm_2048
  have hk_2100 : Kd S_2096 h 9 := by rw [eS_2097]; exact hk_2049
  have hm_2101 : q_161 ∈ hL S_2096 := by rw [eS_2097]; exact hm_2050
  have hk_2102 : Kd S_2096 q_161 20 := by rw [eS_2097]; exact hk_2051
  have hn_2103 : Ln S_2096 q_161 16 := by rw [eS_2097]; exact hn_2052
  have hz_2104 : ∀ j, aI S_2096 q_161 j = 0 := by rw [eS_2097]; exact hz_2042
  have hm_2105 : q_2024 ∈ hL S_2096 := by rw [eS_2097]; exact hm_2053
  have hk_2106 : Kd S_2096 q_2024 10 := by rw [eS_2097]; exact hk_2054
  have hm_2107 : q_266 ∈ hL S_2096 := by rw [eS_2097]; exact hm_2055
  have hk_2108 : Kd S_2096 q_266 13 := by rw [eS_2097]; exact hk_2056
  have hn_2109 : Ln S_2096 q_266 24000 := by rw [eS_2097]; exact hn_2057
  have hz_2110 : ∀ j, aI S_2096 q_266 j = 0 := by rw [eS_2097]; exact hz_2043
  have hm_2111 : q_295 ∈ hL S_2096 := by rw [eS_2097]; exact hm_2058
  have hk_2112 : Kd S_2096 q_295 14 := by rw [eS_2097]; exact hk_2059
  have hn_2113 : Ln S_2096 q_295 16 := by rw [eS_2097]; exact hn_2060
  have hz_2114 : ∀ j, aI S_2096 q_295 j = 0 := by rw [eS_2097]; exact hz_2044
  have hm_2115 : q_524 ∈ hL S_2096 := by rw [eS_2097]; exact hm_2061
  have hk_2116 : Kd S_2096 q_524 18 := by rw [eS_2097]; exact hk_2062
  have hn_2117 : Ln S_2096 q_524 3 := by rw [eS_2097]; exact hn_2063
  have hz_2118 : ∀ j, aI S_2096 q_524 j = 0 := by rw [eS_2097]; exact hz_2045
  have hm_2119 : q_565 ∈ hL S_2096 := by rw [eS_2097]; exact hm_2064
  have hk_2120 : Kd S_2096 q_565 19 := by rw [eS_2097]; exact hk_2065
  have hn_2121 : Ln S_2096 q_565 4 := by rw [eS_2097]; exact hn_2066
  have hz_2122 : ∀ j, aI S_2096 q_565 j = 0 := by rw [eS_2097]; exact hz_2046
  have hm_2123 : q_610 ∈ hL S_2096 := by rw [eS_2097]; exact hm_2067
  have hk_2124 : Kd S_2096 q_610 14 := by rw [eS_2097]; exact hk_2068
  have hn_2125 : Ln S_2096 q_610 12 := by rw [eS_2097]; exact hn_2069
  have hz_2126 : ∀ j, aI S_2096 q_610 j = 0 := by rw [eS_2097]; exact hz_2047
  have hv_2127 : hI S_2096 1000 q_2024 = 1 := by rw [eS_2097]; exact e_2030
  have hv_2128 : hI S_2096 1001 q_2024 = 1 := by rw [eS_2097]; exact e_2031
  have hv_2129 : hR S_2096 1003 q_2024 = (some q_2029) := by rw [eS_2097]; exact e_2036
  have hv_2130 : hR S_2096 900 h = (some s0) := by rw [eS_2097]; exact hv_2070
  have hv_2131 : hR S_2096 901 h = (some q_1) := by rw [eS_2097]; exact hv_2071
  have hv_2132 : hR S_2096 902 h = (some q_41) := by rw [eS_2097]; exact hv_2072
  have hv_2133 : hR S_2096 903 h = (some q_126) := by rw [eS_2097]; exact hv_2073
  have hv_2134 : hR S_2096 904 h = (some q_161) := by rw [eS_2097]; exact hv_2074
  have hv_2135 : hR S_2096 905 h = (some q_183) := by rw [eS_2097]; exact hv_2075
  have hv_2136 : hR S_2096 906 h = (some q_224) := by rw [eS_2097]; exact hv_2076
  have hv_2137 : hR S_2096 907 h = (some q_266) := by rw [eS_2097]; exact hv_2077
  have hv_2138 : hR S_2096 908 h = (some q_295) := by rw [eS_2097]; exact hv_2078
  have hv_2139 : hR S_2096 909 h = (some q_328) := by rw [eS_2097]; exact hv_2079
  have hv_2140 : hR S_2096 910 h = (some q_425) := by rw [eS_2097]; exact hv_2080
  have hv_2141 : hR S_2096 911 h = (some q_524) := by rw [eS_2097]; exact hv_2081
  have hv_2142 : hR S_2096 912 h = (some q_565) := by rw [eS_2097]; exact hv_2082
  have hv_2143 : hR S_2096 917 h = (some q_610) := by rw [eS_2097]; exact hv_2083
  have hf_2144 : Fm (fun _ _ => False) (fun f9 b9 => b9 = h) (fun _ => False) S S_2096 := by rw [eS_2097]; exact hf_2098
  have hN_2145 : NL S L_2090 S_2096 := by rw [eS_2097]; exact (NL.tR (S := S_2039) hN_2089)
  have hG_2146 : Gs h gs_2094 S_2096 := by rw [eS_2097]; exact (Gs.tR (S := S_2039) hG_2093)
  have hE_2147 : ELs S_2096 q_161 [q_661, q_784, q_908, q_1032, q_1156, q_1280, q_1404, q_1528, q_1652, q_1776, q_1900, q_2024] := by rw [eS_2097]; exact (show ELs (tR S_2039 q_161 11 (some q_2024)) q_161 [q_661, q_784, q_908, q_1032, q_1156, q_1280, q_1404, q_1528, q_1652, q_1776, q_1900, q_2024] from ELs.snoc hE_2087 rfl)
  show J _ _ _ _ _ 160 _
  refine j_iinc (q := 0) (v := 12) (lv' := [(2, .int 12), (0, .ref h), (1, .ref s0)]) C dX9_init_160 rfl (by decide) (by rw [hn9]; decide) rfl ?_
  refine j_goto (tgt := 138) C dX9_init_163 (by decide) ?_
  refine j_iload_n C dX9_init_138 rfl 0 rfl ?_
  refine j_aload_n C dX9_init_139 rfl 1 rfl ?_
  refine j_getr (f := 904) (v := q_161) C flX9_34 dX9_init_140 hm_2099 hk_2100 (by decide) rfl hv_2134 ?_
  refine j_alen (v := 16) C dX9_init_143 hm_2101 hk_2102 (by decide) (by decide) (len_of (n := 16) hn_2103 (by decide)) ?_
  refine j_ic_ge (tgt := 166) C dX9_init_144 (by decide) (fun c9 => absurd c9 (by decide)) (fun c9 => ?_)
  refine j_aload_n C dX9_init_147 rfl 1 rfl ?_
  show J _ _ _ _ _ 148 _
  refine j_getr (f := 904) (v := q_161) C flX9_34 dX9_init_148 hm_2099 hk_2100 (by decide) rfl hv_2134 ?_
  refine j_iload_n C dX9_init_151 rfl 0 rfl ?_
  refine j_new (N := 4) C (ci := 10) rfl rfl klX9_32 knX10 kiX10 (M.cells (by decide)) (M.slots (by decide)) dX9_init_152 (fun q_2148 hq_2149 => ?_)
  have hz_2150 : q_2148 ∉ hL S := fun h9 => hq_2149 (hf_2144.mem h9)
  have gn_2151 : ∀ g9 ∈ gs_2094, ∀ p9 ∈ (gT g9.1).2.2, g9.2.getD p9.2.1 0 ≠ q_2148 := Gs.ne hG_2146 hq_2149
  refine j_dup C dX9_init_155 rfl ?_
  have hf_2152 : Fm (fun _ _ => False) (fun f9 b9 => b9 = h) (fun _ => False) S (nO S_2096 q_2148 10) := (hf_2144.nO _ hq_2149)
  refine j_callI C [] [.ref q_2148, .int 12, .ref q_161] mlX9_38 mcX10_init (c_X10_init (nO S_2096 q_2148 10) q_2148 mem_new (kd_nO' (k := 10))) (M.rm (by decide) (by decide) (Nat.le_of_ble_eq_true rfl) (Nat.le_of_ble_eq_true rfl)) rfl rfl (Nat.le_of_ble_eq_true rfl) dX9_init_156 (fun r_2162 S_2163 hp_2164 => ?_)
  obtain ⟨rfl, hf_2165, e_2154, e_2155, q_2153, e_2156, e_2157, e_2158, e_2159, e_2160, hNl_2161⟩ := hp_2164
  refine J.eq (st' := [.ref q_2148, .int 12, .ref q_161]) rfl rfl rfl ?_
  have hz_2166 : ∀ j, aI S_2163 q_161 j = 0 := fun j9 => (hf_2165.ai (mem_old hm_2101) (fun h9 => h9) j9).trans (hz_2104 j9)
  have hz_2167 : ∀ j, aI S_2163 q_266 j = 0 := fun j9 => (hf_2165.ai (mem_old hm_2107) (fun h9 => h9) j9).trans (hz_2110 j9)
  have hz_2168 : ∀ j, aI S_2163 q_295 j = 0 := fun j9 => (hf_2165.ai (mem_old hm_2111) (fun h9 => h9) j9).trans (hz_2114 j9)
  have hz_2169 : ∀ j, aI S_2163 q_524 j = 0 := fun j9 => (hf_2165.ai (mem_old hm_2115) (fun h9 => h9) j9).trans (hz_2118 j9)
  have hz_2170 : ∀ j, aI S_2163 q_565 j = 0 := fun j9 => (hf_2165.ai (mem_old hm_2119) (fun h9 => h9) j9).trans (hz_2122 j9)
  have hz_2171 : ∀ j, aI S_2163 q_610 j = 0 := fun j9 => (hf_2165.ai (mem_old hm_2123) (fun h9 => h9) j9).trans (hz_2126 j9)
  have hm_2172 : h ∈ hL S_2163 := hf_2165.mem (mem_old hm_2099)
  have hk_2173 : Kd S_2163 h 9 := hf_2165.kd (mem_old hm_2099) (kd_nO (k := 10) hq_2149 hm_2099 hk_2100)
  have hm_2174 : q_161 ∈ hL S_2163 := hf_2165.mem (mem_old hm_2101)
  have hk_2175 : Kd S_2163 q_161 20 := hf_2165.kd (mem_old hm_2101) (kd_nO (k := 10) hq_2149 hm_2101 hk_2102)
  have hn_2176 : Ln S_2163 q_161 16 := hf_2165.ln (mem_old hm_2101) hn_2103
  have hm_2177 : q_2148 ∈ hL S_2163 := hf_2165.mem mem_new
  have hk_2178 : Kd S_2163 q_2148 10 := hf_2165.kd mem_new (kd_nO' (k := 10))
  have hm_2179 : q_266 ∈ hL S_2163 := hf_2165.mem (mem_old hm_2107)
  have hk_2180 : Kd S_2163 q_266 13 := hf_2165.kd (mem_old hm_2107) (kd_nO (k := 10) hq_2149 hm_2107 hk_2108)
  have hn_2181 : Ln S_2163 q_266 24000 := hf_2165.ln (mem_old hm_2107) hn_2109
  have hm_2182 : q_295 ∈ hL S_2163 := hf_2165.mem (mem_old hm_2111)
  have hk_2183 : Kd S_2163 q_295 14 := hf_2165.kd (mem_old hm_2111) (kd_nO (k := 10) hq_2149 hm_2111 hk_2112)
  have hn_2184 : Ln S_2163 q_295 16 := hf_2165.ln (mem_old hm_2111) hn_2113
  have hm_2185 : q_524 ∈ hL S_2163 := hf_2165.mem (mem_old hm_2115)
  have hk_2186 : Kd S_2163 q_524 18 := hf_2165.kd (mem_old hm_2115) (kd_nO (k := 10) hq_2149 hm_2115 hk_2116)
  have hn_2187 : Ln S_2163 q_524 3 := hf_2165.ln (mem_old hm_2115) hn_2117
  have hm_2188 : q_565 ∈ hL S_2163 := hf_2165.mem (mem_old hm_2119)
  have hk_2189 : Kd S_2163 q_565 19 := hf_2165.kd (mem_old hm_2119) (kd_nO (k := 10) hq_2149 hm_2119 hk_2120)
  have hn_2190 : Ln S_2163 q_565 4 := hf_2165.ln (mem_old hm_2119) hn_2121
  have hm_2191 : q_610 ∈ hL S_2163 := hf_2165.mem (mem_old hm_2123)
  have hk_2192 : Kd S_2163 q_610 14 := hf_2165.kd (mem_old hm_2123) (kd_nO (k := 10) hq_2149 hm_2123 hk_2124)
  have hn_2193 : Ln S_2163 q_610 12 := hf_2165.ln (mem_old hm_2123) hn_2125
  have hv_2194 : hR S_2163 900 h = (some s0) := hf_2165.fr (mem_old hm_2099) (fun q9 => (fun e9 => absurd (((kd_nO (k := 10) hq_2149 hm_2099 hk_2100)).symm.trans ((congrArg (hK _) e9).trans (kd_nO' (k := 10)))) (by decide)) q9) (rd_nOR (k := 10) hq_2149 hm_2099 hv_2130)
  have hv_2195 : hR S_2163 901 h = (some q_1) := hf_2165.fr (mem_old hm_2099) (fun q9 => (fun e9 => absurd (((kd_nO (k := 10) hq_2149 hm_2099 hk_2100)).symm.trans ((congrArg (hK _) e9).trans (kd_nO' (k := 10)))) (by decide)) q9) (rd_nOR (k := 10) hq_2149 hm_2099 hv_2131)
  have hv_2196 : hR S_2163 902 h = (some q_41) := hf_2165.fr (mem_old hm_2099) (fun q9 => (fun e9 => absurd (((kd_nO (k := 10) hq_2149 hm_2099 hk_2100)).symm.trans ((congrArg (hK _) e9).trans (kd_nO' (k := 10)))) (by decide)) q9) (rd_nOR (k := 10) hq_2149 hm_2099 hv_2132)
  have hv_2197 : hR S_2163 903 h = (some q_126) := hf_2165.fr (mem_old hm_2099) (fun q9 => (fun e9 => absurd (((kd_nO (k := 10) hq_2149 hm_2099 hk_2100)).symm.trans ((congrArg (hK _) e9).trans (kd_nO' (k := 10)))) (by decide)) q9) (rd_nOR (k := 10) hq_2149 hm_2099 hv_2133)
  have hv_2198 : hR S_2163 904 h = (some q_161) := hf_2165.fr (mem_old hm_2099) (fun q9 => (fun e9 => absurd (((kd_nO (k := 10) hq_2149 hm_2099 hk_2100)).symm.trans ((congrArg (hK _) e9).trans (kd_nO' (k := 10)))) (by decide)) q9) (rd_nOR (k := 10) hq_2149 hm_2099 hv_2134)
  have hv_2199 : hR S_2163 905 h = (some q_183) := hf_2165.fr (mem_old hm_2099) (fun q9 => (fun e9 => absurd (((kd_nO (k := 10) hq_2149 hm_2099 hk_2100)).symm.trans ((congrArg (hK _) e9).trans (kd_nO' (k := 10)))) (by decide)) q9) (rd_nOR (k := 10) hq_2149 hm_2099 hv_2135)
  have hv_2200 : hR S_2163 906 h = (some q_224) := hf_2165.fr (mem_old hm_2099) (fun q9 => (fun e9 => absurd (((kd_nO (k := 10) hq_2149 hm_2099 hk_2100)).symm.trans ((congrArg (hK _) e9).trans (kd_nO' (k := 10)))) (by decide)) q9) (rd_nOR (k := 10) hq_2149 hm_2099 hv_2136)
  have hv_2201 : hR S_2163 907 h = (some q_266) := hf_2165.fr (mem_old hm_2099) (fun q9 => (fun e9 => absurd (((kd_nO (k := 10) hq_2149 hm_2099 hk_2100)).symm.trans ((congrArg (hK _) e9).trans (kd_nO' (k := 10)))) (by decide)) q9) (rd_nOR (k := 10) hq_2149 hm_2099 hv_2137)
  have hv_2202 : hR S_2163 908 h = (some q_295) := hf_2165.fr (mem_old hm_2099) (fun q9 => (fun e9 => absurd (((kd_nO (k := 10) hq_2149 hm_2099 hk_2100)).symm.trans ((congrArg (hK _) e9).trans (kd_nO' (k := 10)))) (by decide)) q9) (rd_nOR (k := 10) hq_2149 hm_2099 hv_2138)
  have hv_2203 : hR S_2163 909 h = (some q_328) := hf_2165.fr (mem_old hm_2099) (fun q9 => (fun e9 => absurd (((kd_nO (k := 10) hq_2149 hm_2099 hk_2100)).symm.trans ((congrArg (hK _) e9).trans (kd_nO' (k := 10)))) (by decide)) q9) (rd_nOR (k := 10) hq_2149 hm_2099 hv_2139)
  have hv_2204 : hR S_2163 910 h = (some q_425) := hf_2165.fr (mem_old hm_2099) (fun q9 => (fun e9 => absurd (((kd_nO (k := 10) hq_2149 hm_2099 hk_2100)).symm.trans ((congrArg (hK _) e9).trans (kd_nO' (k := 10)))) (by decide)) q9) (rd_nOR (k := 10) hq_2149 hm_2099 hv_2140)
  have hv_2205 : hR S_2163 911 h = (some q_524) := hf_2165.fr (mem_old hm_2099) (fun q9 => (fun e9 => absurd (((kd_nO (k := 10) hq_2149 hm_2099 hk_2100)).symm.trans ((congrArg (hK _) e9).trans (kd_nO' (k := 10)))) (by decide)) q9) (rd_nOR (k := 10) hq_2149 hm_2099 hv_2141)
  have hv_2206 : hR S_2163 912 h = (some q_565) := hf_2165.fr (mem_old hm_2099) (fun q9 => (fun e9 => absurd (((kd_nO (k := 10) hq_2149 hm_2099 hk_2100)).symm.trans ((congrArg (hK _) e9).trans (kd_nO' (k := 10)))) (by decide)) q9) (rd_nOR (k := 10) hq_2149 hm_2099 hv_2142)
  have hv_2207 : hR S_2163 917 h = (some q_610) := hf_2165.fr (mem_old hm_2099) (fun q9 => (fun e9 => absurd (((kd_nO (k := 10) hq_2149 hm_2099 hk_2100)).symm.trans ((congrArg (hK _) e9).trans (kd_nO' (k := 10)))) (by decide)) q9) (rd_nOR (k := 10) hq_2149 hm_2099 hv_2143)
  have hf_2208 : Fm (fun _ _ => False) (fun f9 b9 => b9 = h) (fun _ => False) S S_2163 := hf_2152.then hf_2165 (fun a9 ha9 => ⟨(fun f9 h9 => (fun h9 => h9.elim (fun h8 => absurd (h8.2 ▸ ha9) hz_2150) (fun h8 => absurd (h8.2 ▸ ha9) hz_2150)) h9), (fun f9 h9 => (fun h8 => absurd (h8 ▸ ha9) hz_2150) h9), (fun h9 => h9.elim)⟩)
  have hN_2209 : NL S (L_2090 ++ [q_2148]) S_2163 := NL.mono (show NL S (L_2090 ++ [q_2148]) (nO S_2096 q_2148 10) from NL.nO hN_2145 hq_2149 hz_2150) (fun a9 h9 => hf_2165.mem h9)
  have hG_2210 : Gs h gs_2094 S_2163 := Gs.fm (show Gs h gs_2094 (nO S_2096 q_2148 10) from Gs.nO hG_2146 hq_2149) hf_2165 (fun g9 hg9 p9 hp9 => gn_2151 g9 hg9 p9 hp9)
  have hE_2211 : ELs S_2163 q_161 [q_661, q_784, q_908, q_1032, q_1156, q_1280, q_1404, q_1528, q_1652, q_1776, q_1900, q_2024] := ELs.fm (ELs.nO (S := S_2096) hE_2147) hf_2165 (mem_old hm_2101) (fun h9 => h9)
  have hz_2212 : q_2153 ∉ hL S := fun h9 => e_2156 (hf_2152.mem h9)
  have hN_2213 : NL S ((L_2090 ++ [q_2148]) ++ [q_2153]) S_2163 := NL.app (show NL S (L_2090 ++ [q_2148]) (nO S_2096 q_2148 10) from NL.nO hN_2145 hq_2149 hz_2150) hNl_2161 (fun a9 h9 => hf_2165.mem h9) (fun a9 h9 => hf_2152.mem h9)
  obtain ⟨L_2214, eL_2215⟩ : ∃ L9 : List Nat, L9 = ((L_2090 ++ [q_2148]) ++ [q_2153]) := ⟨_, rfl⟩
  rw [← eL_2215] at hN_2213
  have hGt_2216 : Gt 1 [q_2148, q_2153] S_2163 := ⟨fun i9 k9 h9 => (match i9, h9 with | 0, h9 => (by have e9 : (10 : Nat) = k9 := Option.some.inj h9; subst e9; exact ⟨hm_2177, hk_2178⟩) | 1, h9 => (by have e9 : (15 : Nat) = k9 := Option.some.inj h9; subst e9; exact ⟨e_2157, e_2158⟩) | i9 + 2, h9 => absurd h9 (by simp [gT])), (List.forall_mem_cons.mpr ⟨e_2159, (fun _ h9 => absurd h9 List.not_mem_nil)⟩), (List.forall_mem_cons.mpr ⟨e_2160, (fun _ h9 => absurd h9 List.not_mem_nil)⟩), (fun _ h9 => absurd h9 List.not_mem_nil)⟩
  have hG_2217 : Gs h (gs_2094 ++ [(1, [q_2148, q_2153])]) S_2163 := Gs.snoc hG_2210 (by decide) hGt_2216 (List.forall_mem_cons.mpr ⟨(own_ne hz_2150 hm), (fun _ h9 => absurd h9 List.not_mem_nil)⟩)
  obtain ⟨gs_2218, eG_2219⟩ : ∃ G9 : List (Nat × List Nat), G9 = gs_2094 ++ [(1, [q_2148, q_2153])] := ⟨_, rfl⟩
  rw [← eG_2219] at hG_2217
  refine j_aast (j := 12) (ci := 10) C 20  (by decide) rfl dX9_init_159 hm_2174 hk_2175 (inr_of (n := 16) hn_2176 (vp_lit (by decide))) (by decide) hm_2177 hk_2178 rfl ?_
  have hf_2222 : Fm (fun _ _ => False) (fun f9 b9 => b9 = h) (fun _ => False) S (tR S_2163 q_161 12 (some q_2148)) := (hf_2208.tR _ _ (fun h9 => absurd h9 hz_164))
  obtain ⟨S_2220, eS_2221⟩ : ∃ S9 : Hp, S9 = (tR S_2163 q_161 12 (some q_2148)) := ⟨_, rfl⟩
  refine J.eq (S' := S_2220) eS_2221.symm rfl rfl ?_
  have hm_2223 : h ∈ hL S_2220 := by rw [eS_2221]; exact hm_2172
  have hk_2224 : Kd S_2220 h 9 := by rw [eS_2221]; exact hk_2173
  have hm_2225 : q_161 ∈ hL S_2220 := by rw [eS_2221]; exact hm_2174
  have hk_2226 : Kd S_2220 q_161 20 := by rw [eS_2221]; exact hk_2175
  have hn_2227 : Ln S_2220 q_161 16 := by rw [eS_2221]; exact hn_2176
  have hz_2228 : ∀ j, aI S_2220 q_161 j = 0 := by rw [eS_2221]; exact hz_2166
  have hm_2229 : q_2148 ∈ hL S_2220 := by rw [eS_2221]; exact hm_2177
  have hk_2230 : Kd S_2220 q_2148 10 := by rw [eS_2221]; exact hk_2178
  have hm_2231 : q_266 ∈ hL S_2220 := by rw [eS_2221]; exact hm_2179
  have hk_2232 : Kd S_2220 q_266 13 := by rw [eS_2221]; exact hk_2180
  have hn_2233 : Ln S_2220 q_266 24000 := by rw [eS_2221]; exact hn_2181
  have hz_2234 : ∀ j, aI S_2220 q_266 j = 0 := by rw [eS_2221]; exact hz_2167
  have hm_2235 : q_295 ∈ hL S_2220 := by rw [eS_2221]; exact hm_2182
  have hk_2236 : Kd S_2220 q_295 14 := by rw [eS_2221]; exact hk_2183
  have hn_2237 : Ln S_2220 q_295 16 := by rw [eS_2221]; exact hn_2184
  have hz_2238 : ∀ j, aI S_2220 q_295 j = 0 := by rw [eS_2221]; exact hz_2168
  have hm_2239 : q_524 ∈ hL S_2220 := by rw [eS_2221]; exact hm_2185
  have hk_2240 : Kd S_2220 q_524 18 := by rw [eS_2221]; exact hk_2186
  have hn_2241 : Ln S_2220 q_524 3 := by rw [eS_2221]; exact hn_2187
  have hz_2242 : ∀ j, aI S_2220 q_524 j = 0 := by rw [eS_2221]; exact hz_2169
  have hm_2243 : q_565 ∈ hL S_2220 := by rw [eS_2221]; exact hm_2188
  have hk_2244 : Kd S_2220 q_565 19 := by rw [eS_2221]; exact hk_2189
  have hn_2245 : Ln S_2220 q_565 4 := by rw [eS_2221]; exact hn_2190
  have hz_2246 : ∀ j, aI S_2220 q_565 j = 0 := by rw [eS_2221]; exact hz_2170
  have hm_2247 : q_610 ∈ hL S_2220 := by rw [eS_2221]; exact hm_2191
  have hk_2248 : Kd S_2220 q_610 14 := by rw [eS_2221]; exact hk_2192
  have hn_2249 : Ln S_2220 q_610 12 := by rw [eS_2221]; exact hn_2193
  have hz_2250 : ∀ j, aI S_2220 q_610 j = 0 := by rw [eS_2221]; exact hz_2171
  have hv_2251 : hI S_2220 1000 q_2148 = 1 := by rw [eS_2221]; exact e_2154
  have hv_2252 : hI S_2220 1001 q_2148 = 1 := by rw [eS_2221]; exact e_2155
  have hv_2253 : hR S_2220 1003 q_2148 = (some q_2153) := by rw [eS_2221]; exact e_2160
  have hv_2254 : hR S_2220 900 h = (some s0) := by rw [eS_2221]; exact hv_2194
  have hv_2255 : hR S_2220 901 h = (some q_1) := by rw [eS_2221]; exact hv_2195
  have hv_2256 : hR S_2220 902 h = (some q_41) := by rw [eS_2221]; exact hv_2196
  have hv_2257 : hR S_2220 903 h = (some q_126) := by rw [eS_2221]; exact hv_2197
  have hv_2258 : hR S_2220 904 h = (some q_161) := by rw [eS_2221]; exact hv_2198
  have hv_2259 : hR S_2220 905 h = (some q_183) := by rw [eS_2221]; exact hv_2199
  have hv_2260 : hR S_2220 906 h = (some q_224) := by rw [eS_2221]; exact hv_2200
  have hv_2261 : hR S_2220 907 h = (some q_266) := by rw [eS_2221]; exact hv_2201
  have hv_2262 : hR S_2220 908 h = (some q_295) := by rw [eS_2221]; exact hv_2202
  have hv_2263 : hR S_2220 909 h = (some q_328) := by rw [eS_2221]; exact hv_2203
  have hv_2264 : hR S_2220 910 h = (some q_425) := by rw [eS_2221]; exact hv_2204
  have hv_2265 : hR S_2220 911 h = (some q_524) := by rw [eS_2221]; exact hv_2205
  have hv_2266 : hR S_2220 912 h = (some q_565) := by rw [eS_2221]; exact hv_2206
  have hv_2267 : hR S_2220 917 h = (some q_610) := by rw [eS_2221]; exact hv_2207
  have hf_2268 : Fm (fun _ _ => False) (fun f9 b9 => b9 = h) (fun _ => False) S S_2220 := by rw [eS_2221]; exact hf_2222
  have hN_2269 : NL S L_2214 S_2220 := by rw [eS_2221]; exact (NL.tR (S := S_2163) hN_2213)
  have hG_2270 : Gs h gs_2218 S_2220 := by rw [eS_2221]; exact (Gs.tR (S := S_2163) hG_2217)
  have hE_2271 : ELs S_2220 q_161 [q_661, q_784, q_908, q_1032, q_1156, q_1280, q_1404, q_1528, q_1652, q_1776, q_1900, q_2024, q_2148] := by rw [eS_2221]; exact (show ELs (tR S_2163 q_161 12 (some q_2148)) q_161 [q_661, q_784, q_908, q_1032, q_1156, q_1280, q_1404, q_1528, q_1652, q_1776, q_1900, q_2024, q_2148] from ELs.snoc hE_2211 rfl)
  refine j_iinc (q := 0) (v := 13) (lv' := [(2, .int 13), (0, .ref h), (1, .ref s0)]) C dX9_init_160 rfl (by decide) (by rw [hn9]; decide) rfl ?_
  refine j_goto (tgt := 138) C dX9_init_163 (by decide) ?_
  show J _ _ _ _ _ 138 _
  refine j_iload_n C dX9_init_138 rfl 0 rfl ?_
  refine j_aload_n C dX9_init_139 rfl 1 rfl ?_
  refine j_getr (f := 904) (v := q_161) C flX9_34 dX9_init_140 hm_2223 hk_2224 (by decide) rfl hv_2258 ?_
  refine j_alen (v := 16) C dX9_init_143 hm_2225 hk_2226 (by decide) (by decide) (len_of (n := 16) hn_2227 (by decide)) ?_
  refine j_ic_ge (tgt := 166) C dX9_init_144 (by decide) (fun c9 => absurd c9 (by decide)) (fun c9 => ?_)
  refine j_aload_n C dX9_init_147 rfl 1 rfl ?_
  refine j_getr (f := 904) (v := q_161) C flX9_34 dX9_init_148 hm_2223 hk_2224 (by decide) rfl hv_2258 ?_
  refine j_iload_n C dX9_init_151 rfl 0 rfl ?_
  show J _ _ _ _ _ 152 _
  refine j_new (N := 4) C (ci := 10) rfl rfl klX9_32 knX10 kiX10 (M.cells (by decide)) (M.slots (by decide)) dX9_init_152 (fun q_2272 hq_2273 => ?_)
  have hz_2274 : q_2272 ∉ hL S := fun h9 => hq_2273 (hf_2268.mem h9)
  have gn_2275 : ∀ g9 ∈ gs_2218, ∀ p9 ∈ (gT g9.1).2.2, g9.2.getD p9.2.1 0 ≠ q_2272 := Gs.ne hG_2270 hq_2273
  refine j_dup C dX9_init_155 rfl ?_
  have hf_2276 : Fm (fun _ _ => False) (fun f9 b9 => b9 = h) (fun _ => False) S (nO S_2220 q_2272 10) := (hf_2268.nO _ hq_2273)
  refine j_callI C [] [.ref q_2272, .int 13, .ref q_161] mlX9_38 mcX10_init (c_X10_init (nO S_2220 q_2272 10) q_2272 mem_new (kd_nO' (k := 10))) (M.rm (by decide) (by decide) (Nat.le_of_ble_eq_true rfl) (Nat.le_of_ble_eq_true rfl)) rfl rfl (Nat.le_of_ble_eq_true rfl) dX9_init_156 (fun r_2286 S_2287 hp_2288 => ?_)
  obtain ⟨rfl, hf_2289, e_2278, e_2279, q_2277, e_2280, e_2281, e_2282, e_2283, e_2284, hNl_2285⟩ := hp_2288
  refine J.eq (st' := [.ref q_2272, .int 13, .ref q_161]) rfl rfl rfl ?_
  have hz_2290 : ∀ j, aI S_2287 q_161 j = 0 := fun j9 => (hf_2289.ai (mem_old hm_2225) (fun h9 => h9) j9).trans (hz_2228 j9)
  have hz_2291 : ∀ j, aI S_2287 q_266 j = 0 := fun j9 => (hf_2289.ai (mem_old hm_2231) (fun h9 => h9) j9).trans (hz_2234 j9)
  have hz_2292 : ∀ j, aI S_2287 q_295 j = 0 := fun j9 => (hf_2289.ai (mem_old hm_2235) (fun h9 => h9) j9).trans (hz_2238 j9)
  have hz_2293 : ∀ j, aI S_2287 q_524 j = 0 := fun j9 => (hf_2289.ai (mem_old hm_2239) (fun h9 => h9) j9).trans (hz_2242 j9)
  have hz_2294 : ∀ j, aI S_2287 q_565 j = 0 := fun j9 => (hf_2289.ai (mem_old hm_2243) (fun h9 => h9) j9).trans (hz_2246 j9)
  have hz_2295 : ∀ j, aI S_2287 q_610 j = 0 := fun j9 => (hf_2289.ai (mem_old hm_2247) (fun h9 => h9) j9).trans (hz_2250 j9)
  have hm_2296 : h ∈ hL S_2287 := hf_2289.mem (mem_old hm_2223)
  have hk_2297 : Kd S_2287 h 9 := hf_2289.kd (mem_old hm_2223) (kd_nO (k := 10) hq_2273 hm_2223 hk_2224)
  have hm_2298 : q_161 ∈ hL S_2287 := hf_2289.mem (mem_old hm_2225)
  have hk_2299 : Kd S_2287 q_161 20 := hf_2289.kd (mem_old hm_2225) (kd_nO (k := 10) hq_2273 hm_2225 hk_2226)
  have hn_2300 : Ln S_2287 q_161 16 := hf_2289.ln (mem_old hm_2225) hn_2227
  have hm_2301 : q_2272 ∈ hL S_2287 := hf_2289.mem mem_new
  have hk_2302 : Kd S_2287 q_2272 10 := hf_2289.kd mem_new (kd_nO' (k := 10))
  have hm_2303 : q_266 ∈ hL S_2287 := hf_2289.mem (mem_old hm_2231)
  have hk_2304 : Kd S_2287 q_266 13 := hf_2289.kd (mem_old hm_2231) (kd_nO (k := 10) hq_2273 hm_2231 hk_2232)
  have hn_2305 : Ln S_2287 q_266 24000 := hf_2289.ln (mem_old hm_2231) hn_2233
  have hm_2306 : q_295 ∈ hL S_2287 := hf_2289.mem (mem_old hm_2235)
  have hk_2307 : Kd S_2287 q_295 14 := hf_2289.kd (mem_old hm_2235) (kd_nO (k := 10) hq_2273 hm_2235 hk_2236)
  have hn_2308 : Ln S_2287 q_295 16 := hf_2289.ln (mem_old hm_2235) hn_2237
  have hm_2309 : q_524 ∈ hL S_2287 := hf_2289.mem (mem_old hm_2239)
  have hk_2310 : Kd S_2287 q_524 18 := hf_2289.kd (mem_old hm_2239) (kd_nO (k := 10) hq_2273 hm_2239 hk_2240)
  have hn_2311 : Ln S_2287 q_524 3 := hf_2289.ln (mem_old hm_2239) hn_2241
  have hm_2312 : q_565 ∈ hL S_2287 := hf_2289.mem (mem_old hm_2243)
  have hk_2313 : Kd S_2287 q_565 19 := hf_2289.kd (mem_old hm_2243) (kd_nO (k := 10) hq_2273 hm_2243 hk_2244)
  have hn_2314 : Ln S_2287 q_565 4 := hf_2289.ln (mem_old hm_2243) hn_2245
  have hm_2315 : q_610 ∈ hL S_2287 := hf_2289.mem (mem_old hm_2247)
  have hk_2316 : Kd S_2287 q_610 14 := hf_2289.kd (mem_old hm_2247) (kd_nO (k := 10) hq_2273 hm_2247 hk_2248)
  have hn_2317 : Ln S_2287 q_610 12 := hf_2289.ln (mem_old hm_2247) hn_2249
  have hv_2318 : hR S_2287 900 h = (some s0) := hf_2289.fr (mem_old hm_2223) (fun q9 => (fun e9 => absurd (((kd_nO (k := 10) hq_2273 hm_2223 hk_2224)).symm.trans ((congrArg (hK _) e9).trans (kd_nO' (k := 10)))) (by decide)) q9) (rd_nOR (k := 10) hq_2273 hm_2223 hv_2254)
  have hv_2319 : hR S_2287 901 h = (some q_1) := hf_2289.fr (mem_old hm_2223) (fun q9 => (fun e9 => absurd (((kd_nO (k := 10) hq_2273 hm_2223 hk_2224)).symm.trans ((congrArg (hK _) e9).trans (kd_nO' (k := 10)))) (by decide)) q9) (rd_nOR (k := 10) hq_2273 hm_2223 hv_2255)
  have hv_2320 : hR S_2287 902 h = (some q_41) := hf_2289.fr (mem_old hm_2223) (fun q9 => (fun e9 => absurd (((kd_nO (k := 10) hq_2273 hm_2223 hk_2224)).symm.trans ((congrArg (hK _) e9).trans (kd_nO' (k := 10)))) (by decide)) q9) (rd_nOR (k := 10) hq_2273 hm_2223 hv_2256)
  have hv_2321 : hR S_2287 903 h = (some q_126) := hf_2289.fr (mem_old hm_2223) (fun q9 => (fun e9 => absurd (((kd_nO (k := 10) hq_2273 hm_2223 hk_2224)).symm.trans ((congrArg (hK _) e9).trans (kd_nO' (k := 10)))) (by decide)) q9) (rd_nOR (k := 10) hq_2273 hm_2223 hv_2257)
  have hv_2322 : hR S_2287 904 h = (some q_161) := hf_2289.fr (mem_old hm_2223) (fun q9 => (fun e9 => absurd (((kd_nO (k := 10) hq_2273 hm_2223 hk_2224)).symm.trans ((congrArg (hK _) e9).trans (kd_nO' (k := 10)))) (by decide)) q9) (rd_nOR (k := 10) hq_2273 hm_2223 hv_2258)
  have hv_2323 : hR S_2287 905 h = (some q_183) := hf_2289.fr (mem_old hm_2223) (fun q9 => (fun e9 => absurd (((kd_nO (k := 10) hq_2273 hm_2223 hk_2224)).symm.trans ((congrArg (hK _) e9).trans (kd_nO' (k := 10)))) (by decide)) q9) (rd_nOR (k := 10) hq_2273 hm_2223 hv_2259)
  have hv_2324 : hR S_2287 906 h = (some q_224) := hf_2289.fr (mem_old hm_2223) (fun q9 => (fun e9 => absurd (((kd_nO (k := 10) hq_2273 hm_2223 hk_2224)).symm.trans ((congrArg (hK _) e9).trans (kd_nO' (k := 10)))) (by decide)) q9) (rd_nOR (k := 10) hq_2273 hm_2223 hv_2260)
  have hv_2325 : hR S_2287 907 h = (some q_266) := hf_2289.fr (mem_old hm_2223) (fun q9 => (fun e9 => absurd (((kd_nO (k := 10) hq_2273 hm_2223 hk_2224)).symm.trans ((congrArg (hK _) e9).trans (kd_nO' (k := 10)))) (by decide)) q9) (rd_nOR (k := 10) hq_2273 hm_2223 hv_2261)
  have hv_2326 : hR S_2287 908 h = (some q_295) := hf_2289.fr (mem_old hm_2223) (fun q9 => (fun e9 => absurd (((kd_nO (k := 10) hq_2273 hm_2223 hk_2224)).symm.trans ((congrArg (hK _) e9).trans (kd_nO' (k := 10)))) (by decide)) q9) (rd_nOR (k := 10) hq_2273 hm_2223 hv_2262)
  have hv_2327 : hR S_2287 909 h = (some q_328) := hf_2289.fr (mem_old hm_2223) (fun q9 => (fun e9 => absurd (((kd_nO (k := 10) hq_2273 hm_2223 hk_2224)).symm.trans ((congrArg (hK _) e9).trans (kd_nO' (k := 10)))) (by decide)) q9) (rd_nOR (k := 10) hq_2273 hm_2223 hv_2263)
  have hv_2328 : hR S_2287 910 h = (some q_425) := hf_2289.fr (mem_old hm_2223) (fun q9 => (fun e9 => absurd (((kd_nO (k := 10) hq_2273 hm_2223 hk_2224)).symm.trans ((congrArg (hK _) e9).trans (kd_nO' (k := 10)))) (by decide)) q9) (rd_nOR (k := 10) hq_2273 hm_2223 hv_2264)
  have hv_2329 : hR S_2287 911 h = (some q_524) := hf_2289.fr (mem_old hm_2223) (fun q9 => (fun e9 => absurd (((kd_nO (k := 10) hq_2273 hm_2223 hk_2224)).symm.trans ((congrArg (hK _) e9).trans (kd_nO' (k := 10)))) (by decide)) q9) (rd_nOR (k := 10) hq_2273 hm_2223 hv_2265)
  have hv_2330 : hR S_2287 912 h = (some q_565) := hf_2289.fr (mem_old hm_2223) (fun q9 => (fun e9 => absurd (((kd_nO (k := 10) hq_2273 hm_2223 hk_2224)).symm.trans ((congrArg (hK _) e9).trans (kd_nO' (k := 10)))) (by decide)) q9) (rd_nOR (k := 10) hq_2273 hm_2223 hv_2266)
  have hv_2331 : hR S_2287 917 h = (some q_610) := hf_2289.fr (mem_old hm_2223) (fun q9 => (fun e9 => absurd (((kd_nO (k := 10) hq_2273 hm_2223 hk_2224)).symm.trans ((congrArg (hK _) e9).trans (kd_nO' (k := 10)))) (by decide)) q9) (rd_nOR (k := 10) hq_2273 hm_2223 hv_2267)
  have hf_2332 : Fm (fun _ _ => False) (fun f9 b9 => b9 = h) (fun _ => False) S S_2287 := hf_2276.then hf_2289 (fun a9 ha9 => ⟨(fun f9 h9 => (fun h9 => h9.elim (fun h8 => absurd (h8.2 ▸ ha9) hz_2274) (fun h8 => absurd (h8.2 ▸ ha9) hz_2274)) h9), (fun f9 h9 => (fun h8 => absurd (h8 ▸ ha9) hz_2274) h9), (fun h9 => h9.elim)⟩)
  have hN_2333 : NL S (L_2214 ++ [q_2272]) S_2287 := NL.mono (show NL S (L_2214 ++ [q_2272]) (nO S_2220 q_2272 10) from NL.nO hN_2269 hq_2273 hz_2274) (fun a9 h9 => hf_2289.mem h9)
  have hG_2334 : Gs h gs_2218 S_2287 := Gs.fm (show Gs h gs_2218 (nO S_2220 q_2272 10) from Gs.nO hG_2270 hq_2273) hf_2289 (fun g9 hg9 p9 hp9 => gn_2275 g9 hg9 p9 hp9)
  have hE_2335 : ELs S_2287 q_161 [q_661, q_784, q_908, q_1032, q_1156, q_1280, q_1404, q_1528, q_1652, q_1776, q_1900, q_2024, q_2148] := ELs.fm (ELs.nO (S := S_2220) hE_2271) hf_2289 (mem_old hm_2225) (fun h9 => h9)
  have hz_2336 : q_2277 ∉ hL S := fun h9 => e_2280 (hf_2276.mem h9)
  have hN_2337 : NL S ((L_2214 ++ [q_2272]) ++ [q_2277]) S_2287 := NL.app (show NL S (L_2214 ++ [q_2272]) (nO S_2220 q_2272 10) from NL.nO hN_2269 hq_2273 hz_2274) hNl_2285 (fun a9 h9 => hf_2289.mem h9) (fun a9 h9 => hf_2276.mem h9)
  obtain ⟨L_2338, eL_2339⟩ : ∃ L9 : List Nat, L9 = ((L_2214 ++ [q_2272]) ++ [q_2277]) := ⟨_, rfl⟩
  rw [← eL_2339] at hN_2337
  have hGt_2340 : Gt 1 [q_2272, q_2277] S_2287 := ⟨fun i9 k9 h9 => (match i9, h9 with | 0, h9 => (by have e9 : (10 : Nat) = k9 := Option.some.inj h9; subst e9; exact ⟨hm_2301, hk_2302⟩) | 1, h9 => (by have e9 : (15 : Nat) = k9 := Option.some.inj h9; subst e9; exact ⟨e_2281, e_2282⟩) | i9 + 2, h9 => absurd h9 (by simp [gT])), (List.forall_mem_cons.mpr ⟨e_2283, (fun _ h9 => absurd h9 List.not_mem_nil)⟩), (List.forall_mem_cons.mpr ⟨e_2284, (fun _ h9 => absurd h9 List.not_mem_nil)⟩), (fun _ h9 => absurd h9 List.not_mem_nil)⟩
  have hG_2341 : Gs h (gs_2218 ++ [(1, [q_2272, q_2277])]) S_2287 := Gs.snoc hG_2334 (by decide) hGt_2340 (List.forall_mem_cons.mpr ⟨(own_ne hz_2274 hm), (fun _ h9 => absurd h9 List.not_mem_nil)⟩)
  obtain ⟨gs_2342, eG_2343⟩ : ∃ G9 : List (Nat × List Nat), G9 = gs_2218 ++ [(1, [q_2272, q_2277])] := ⟨_, rfl⟩
  rw [← eG_2343] at hG_2341
  refine j_aast (j := 13) (ci := 10) C 20  (by decide) rfl dX9_init_159 hm_2298 hk_2299 (inr_of (n := 16) hn_2300 (vp_lit (by decide))) (by decide) hm_2301 hk_2302 rfl ?_
  have hf_2346 : Fm (fun _ _ => False) (fun f9 b9 => b9 = h) (fun _ => False) S (tR S_2287 q_161 13 (some q_2272)) := (hf_2332.tR _ _ (fun h9 => absurd h9 hz_164))
  obtain ⟨S_2344, eS_2345⟩ : ∃ S9 : Hp, S9 = (tR S_2287 q_161 13 (some q_2272)) := ⟨_, rfl⟩
  refine J.eq (S' := S_2344) eS_2345.symm rfl rfl ?_
  have hm_2347 : h ∈ hL S_2344 := by rw [eS_2345]; exact hm_2296
  have hk_2348 : Kd S_2344 h 9 := by rw [eS_2345]; exact hk_2297
  have hm_2349 : q_161 ∈ hL S_2344 := by rw [eS_2345]; exact hm_2298
  have hk_2350 : Kd S_2344 q_161 20 := by rw [eS_2345]; exact hk_2299
  have hn_2351 : Ln S_2344 q_161 16 := by rw [eS_2345]; exact hn_2300
  have hz_2352 : ∀ j, aI S_2344 q_161 j = 0 := by rw [eS_2345]; exact hz_2290
  have hm_2353 : q_2272 ∈ hL S_2344 := by rw [eS_2345]; exact hm_2301
  have hk_2354 : Kd S_2344 q_2272 10 := by rw [eS_2345]; exact hk_2302
  have hm_2355 : q_266 ∈ hL S_2344 := by rw [eS_2345]; exact hm_2303
  have hk_2356 : Kd S_2344 q_266 13 := by rw [eS_2345]; exact hk_2304
  have hn_2357 : Ln S_2344 q_266 24000 := by rw [eS_2345]; exact hn_2305
  have hz_2358 : ∀ j, aI S_2344 q_266 j = 0 := by rw [eS_2345]; exact hz_2291
  have hm_2359 : q_295 ∈ hL S_2344 := by rw [eS_2345]; exact hm_2306
  have hk_2360 : Kd S_2344 q_295 14 := by rw [eS_2345]; exact hk_2307
  have hn_2361 : Ln S_2344 q_295 16 := by rw [eS_2345]; exact hn_2308
  have hz_2362 : ∀ j, aI S_2344 q_295 j = 0 := by rw [eS_2345]; exact hz_2292
  have hm_2363 : q_524 ∈ hL S_2344 := by rw [eS_2345]; exact hm_2309
  have hk_2364 : Kd S_2344 q_524 18 := by rw [eS_2345]; exact hk_2310
  have hn_2365 : Ln S_2344 q_524 3 := by rw [eS_2345]; exact hn_2311
  have hz_2366 : ∀ j, aI S_2344 q_524 j = 0 := by rw [eS_2345]; exact hz_2293
  have hm_2367 : q_565 ∈ hL S_2344 := by rw [eS_2345]; exact hm_2312
  have hk_2368 : Kd S_2344 q_565 19 := by rw [eS_2345]; exact hk_2313
  have hn_2369 : Ln S_2344 q_565 4 := by rw [eS_2345]; exact hn_2314
  have hz_2370 : ∀ j, aI S_2344 q_565 j = 0 := by rw [eS_2345]; exact hz_2294
  have hm_2371 : q_610 ∈ hL S_2344 := by rw [eS_2345]; exact hm_2315
  have hk_2372 : Kd S_2344 q_610 14 := by rw [eS_2345]; exact hk_2316
  have hn_2373 : Ln S_2344 q_610 12 := by rw [eS_2345]; exact hn_2317
  have hz_2374 : ∀ j, aI S_2344 q_610 j = 0 := by rw [eS_2345]; exact hz_2295
  have hv_2375 : hI S_2344 1000 q_2272 = 1 := by rw [eS_2345]; exact e_2278
  have hv_2376 : hI S_2344 1001 q_2272 = 1 := by rw [eS_2345]; exact e_2279
  have hv_2377 : hR S_2344 1003 q_2272 = (some q_2277) := by rw [eS_2345]; exact e_2284
  have hv_2378 : hR S_2344 900 h = (some s0) := by rw [eS_2345]; exact hv_2318
  have hv_2379 : hR S_2344 901 h = (some q_1) := by rw [eS_2345]; exact hv_2319
  have hv_2380 : hR S_2344 902 h = (some q_41) := by rw [eS_2345]; exact hv_2320
  have hv_2381 : hR S_2344 903 h = (some q_126) := by rw [eS_2345]; exact hv_2321
  have hv_2382 : hR S_2344 904 h = (some q_161) := by rw [eS_2345]; exact hv_2322
  have hv_2383 : hR S_2344 905 h = (some q_183) := by rw [eS_2345]; exact hv_2323
  have hv_2384 : hR S_2344 906 h = (some q_224) := by rw [eS_2345]; exact hv_2324
  have hv_2385 : hR S_2344 907 h = (some q_266) := by rw [eS_2345]; exact hv_2325
  have hv_2386 : hR S_2344 908 h = (some q_295) := by rw [eS_2345]; exact hv_2326
  have hv_2387 : hR S_2344 909 h = (some q_328) := by rw [eS_2345]; exact hv_2327
  have hv_2388 : hR S_2344 910 h = (some q_425) := by rw [eS_2345]; exact hv_2328
  have hv_2389 : hR S_2344 911 h = (some q_524) := by rw [eS_2345]; exact hv_2329
  have hv_2390 : hR S_2344 912 h = (some q_565) := by rw [eS_2345]; exact hv_2330
  have hv_2391 : hR S_2344 917 h = (some q_610) := by rw [eS_2345]; exact hv_2331
  have hf_2392 : Fm (fun _ _ => False) (fun f9 b9 => b9 = h) (fun _ => False) S S_2344 := by rw [eS_2345]; exact hf_2346
  have hN_2393 : NL S L_2338 S_2344 := by rw [eS_2345]; exact (NL.tR (S := S_2287) hN_2337)
  have hG_2394 : Gs h gs_2342 S_2344 := by rw [eS_2345]; exact (Gs.tR (S := S_2287) hG_2341)
  have hE_2395 : ELs S_2344 q_161 [q_661, q_784, q_908, q_1032, q_1156, q_1280, q_1404, q_1528, q_1652, q_1776, q_1900, q_2024, q_2148, q_2272] := by rw [eS_2345]; exact (show ELs (tR S_2287 q_161 13 (some q_2272)) q_161 [q_661, q_784, q_908, q_1032, q_1156, q_1280, q_1404, q_1528, q_1652, q_1776, q_1900, q_2024, q_2148, q_2272] from ELs.snoc hE_2335 rfl)
  refine j_iinc (q := 0) (v := 14) (lv' := [(2, .int 14), (0, .ref h), (1, .ref s0)]) C dX9_init_160 rfl (by decide) (by rw [hn9]; decide) rfl ?_
  refine j_goto (tgt := 138) C dX9_init_163 (by decide) ?_
  refine j_iload_n C dX9_init_138 rfl 0 rfl ?_
  refine j_aload_n C dX9_init_139 rfl 1 rfl ?_
  show J _ _ _ _ _ 140 _
  refine j_getr (f := 904) (v := q_161) C flX9_34 dX9_init_140 hm_2347 hk_2348 (by decide) rfl hv_2382 ?_
  refine j_alen (v := 16) C dX9_init_143 hm_2349 hk_2350 (by decide) (by decide) (len_of (n := 16) hn_2351 (by decide)) ?_
  refine j_ic_ge (tgt := 166) C dX9_init_144 (by decide) (fun c9 => absurd c9 (by decide)) (fun c9 => ?_)
  refine j_aload_n C dX9_init_147 rfl 1 rfl ?_
  refine j_getr (f := 904) (v := q_161) C flX9_34 dX9_init_148 hm_2347 hk_2348 (by decide) rfl hv_2382 ?_
  refine j_iload_n C dX9_init_151 rfl 0 rfl ?_
  refine j_new (N := 4) C (ci := 10) rfl rfl klX9_32 knX10 kiX10 (M.cells (by decide)) (M.slots (by decide)) dX9_init_152 (fun q_2396 hq_2397 => ?_)
  have hz_2398 : q_2396 ∉ hL S := fun h9 => hq_2397 (hf_2392.mem h9)
  have gn_2399 : ∀ g9 ∈ gs_2342, ∀ p9 ∈ (gT g9.1).2.2, g9.2.getD p9.2.1 0 ≠ q_2396 := Gs.ne hG_2394 hq_2397
  refine j_dup C dX9_init_155 rfl ?_
  show J _ _ _ _ _ 156 _
  have hf_2400 : Fm (fun _ _ => False) (fun f9 b9 => b9 = h) (fun _ => False) S (nO S_2344 q_2396 10) := (hf_2392.nO _ hq_2397)
  refine j_callI C [] [.ref q_2396, .int 14, .ref q_161] mlX9_38 mcX10_init (c_X10_init (nO S_2344 q_2396 10) q_2396 mem_new (kd_nO' (k := 10))) (M.rm (by decide) (by decide) (Nat.le_of_ble_eq_true rfl) (Nat.le_of_ble_eq_true rfl)) rfl rfl (Nat.le_of_ble_eq_true rfl) dX9_init_156 (fun r_2410 S_2411 hp_2412 => ?_)
  obtain ⟨rfl, hf_2413, e_2402, e_2403, q_2401, e_2404, e_2405, e_2406, e_2407, e_2408, hNl_2409⟩ := hp_2412
  refine J.eq (st' := [.ref q_2396, .int 14, .ref q_161]) rfl rfl rfl ?_
  have hz_2414 : ∀ j, aI S_2411 q_161 j = 0 := fun j9 => (hf_2413.ai (mem_old hm_2349) (fun h9 => h9) j9).trans (hz_2352 j9)
  have hz_2415 : ∀ j, aI S_2411 q_266 j = 0 := fun j9 => (hf_2413.ai (mem_old hm_2355) (fun h9 => h9) j9).trans (hz_2358 j9)
  have hz_2416 : ∀ j, aI S_2411 q_295 j = 0 := fun j9 => (hf_2413.ai (mem_old hm_2359) (fun h9 => h9) j9).trans (hz_2362 j9)
  have hz_2417 : ∀ j, aI S_2411 q_524 j = 0 := fun j9 => (hf_2413.ai (mem_old hm_2363) (fun h9 => h9) j9).trans (hz_2366 j9)
  have hz_2418 : ∀ j, aI S_2411 q_565 j = 0 := fun j9 => (hf_2413.ai (mem_old hm_2367) (fun h9 => h9) j9).trans (hz_2370 j9)
  have hz_2419 : ∀ j, aI S_2411 q_610 j = 0 := fun j9 => (hf_2413.ai (mem_old hm_2371) (fun h9 => h9) j9).trans (hz_2374 j9)
  have hm_2420 : h ∈ hL S_2411 := hf_2413.mem (mem_old hm_2347)
  have hk_2421 : Kd S_2411 h 9 := hf_2413.kd (mem_old hm_2347) (kd_nO (k := 10) hq_2397 hm_2347 hk_2348)
  have hm_2422 : q_161 ∈ hL S_2411 := hf_2413.mem (mem_old hm_2349)
  have hk_2423 : Kd S_2411 q_161 20 := hf_2413.kd (mem_old hm_2349) (kd_nO (k := 10) hq_2397 hm_2349 hk_2350)
  have hn_2424 : Ln S_2411 q_161 16 := hf_2413.ln (mem_old hm_2349) hn_2351
  have hm_2425 : q_2396 ∈ hL S_2411 := hf_2413.mem mem_new
  have hk_2426 : Kd S_2411 q_2396 10 := hf_2413.kd mem_new (kd_nO' (k := 10))
  have hm_2427 : q_266 ∈ hL S_2411 := hf_2413.mem (mem_old hm_2355)
  have hk_2428 : Kd S_2411 q_266 13 := hf_2413.kd (mem_old hm_2355) (kd_nO (k := 10) hq_2397 hm_2355 hk_2356)
  have hn_2429 : Ln S_2411 q_266 24000 := hf_2413.ln (mem_old hm_2355) hn_2357
  have hm_2430 : q_295 ∈ hL S_2411 := hf_2413.mem (mem_old hm_2359)
  have hk_2431 : Kd S_2411 q_295 14 := hf_2413.kd (mem_old hm_2359) (kd_nO (k := 10) hq_2397 hm_2359 hk_2360)
  have hn_2432 : Ln S_2411 q_295 16 := hf_2413.ln (mem_old hm_2359) hn_2361
  have hm_2433 : q_524 ∈ hL S_2411 := hf_2413.mem (mem_old hm_2363)
  have hk_2434 : Kd S_2411 q_524 18 := hf_2413.kd (mem_old hm_2363) (kd_nO (k := 10) hq_2397 hm_2363 hk_2364)
  have hn_2435 : Ln S_2411 q_524 3 := hf_2413.ln (mem_old hm_2363) hn_2365
  have hm_2436 : q_565 ∈ hL S_2411 := hf_2413.mem (mem_old hm_2367)
  have hk_2437 : Kd S_2411 q_565 19 := hf_2413.kd (mem_old hm_2367) (kd_nO (k := 10) hq_2397 hm_2367 hk_2368)
  have hn_2438 : Ln S_2411 q_565 4 := hf_2413.ln (mem_old hm_2367) hn_2369
  have hm_2439 : q_610 ∈ hL S_2411 := hf_2413.mem (mem_old hm_2371)
  have hk_2440 : Kd S_2411 q_610 14 := hf_2413.kd (mem_old hm_2371) (kd_nO (k := 10) hq_2397 hm_2371 hk_2372)
  have hn_2441 : Ln S_2411 q_610 12 := hf_2413.ln (mem_old hm_2371) hn_2373
  have hv_2442 : hR S_2411 900 h = (some s0) := hf_2413.fr (mem_old hm_2347) (fun q9 => (fun e9 => absurd (((kd_nO (k := 10) hq_2397 hm_2347 hk_2348)).symm.trans ((congrArg (hK _) e9).trans (kd_nO' (k := 10)))) (by decide)) q9) (rd_nOR (k := 10) hq_2397 hm_2347 hv_2378)
  have hv_2443 : hR S_2411 901 h = (some q_1) := hf_2413.fr (mem_old hm_2347) (fun q9 => (fun e9 => absurd (((kd_nO (k := 10) hq_2397 hm_2347 hk_2348)).symm.trans ((congrArg (hK _) e9).trans (kd_nO' (k := 10)))) (by decide)) q9) (rd_nOR (k := 10) hq_2397 hm_2347 hv_2379)
  have hv_2444 : hR S_2411 902 h = (some q_41) := hf_2413.fr (mem_old hm_2347) (fun q9 => (fun e9 => absurd (((kd_nO (k := 10) hq_2397 hm_2347 hk_2348)).symm.trans ((congrArg (hK _) e9).trans (kd_nO' (k := 10)))) (by decide)) q9) (rd_nOR (k := 10) hq_2397 hm_2347 hv_2380)
  have hv_2445 : hR S_2411 903 h = (some q_126) := hf_2413.fr (mem_old hm_2347) (fun q9 => (fun e9 => absurd (((kd_nO (k := 10) hq_2397 hm_2347 hk_2348)).symm.trans ((congrArg (hK _) e9).trans (kd_nO' (k := 10)))) (by decide)) q9) (rd_nOR (k := 10) hq_2397 hm_2347 hv_2381)
  have hv_2446 : hR S_2411 904 h = (some q_161) := hf_2413.fr (mem_old hm_2347) (fun q9 => (fun e9 => absurd (((kd_nO (k := 10) hq_2397 hm_2347 hk_2348)).symm.trans ((congrArg (hK _) e9).trans (kd_nO' (k := 10)))) (by decide)) q9) (rd_nOR (k := 10) hq_2397 hm_2347 hv_2382)
  have hv_2447 : hR S_2411 905 h = (some q_183) := hf_2413.fr (mem_old hm_2347) (fun q9 => (fun e9 => absurd (((kd_nO (k := 10) hq_2397 hm_2347 hk_2348)).symm.trans ((congrArg (hK _) e9).trans (kd_nO' (k := 10)))) (by decide)) q9) (rd_nOR (k := 10) hq_2397 hm_2347 hv_2383)
  have hv_2448 : hR S_2411 906 h = (some q_224) := hf_2413.fr (mem_old hm_2347) (fun q9 => (fun e9 => absurd (((kd_nO (k := 10) hq_2397 hm_2347 hk_2348)).symm.trans ((congrArg (hK _) e9).trans (kd_nO' (k := 10)))) (by decide)) q9) (rd_nOR (k := 10) hq_2397 hm_2347 hv_2384)
  have hv_2449 : hR S_2411 907 h = (some q_266) := hf_2413.fr (mem_old hm_2347) (fun q9 => (fun e9 => absurd (((kd_nO (k := 10) hq_2397 hm_2347 hk_2348)).symm.trans ((congrArg (hK _) e9).trans (kd_nO' (k := 10)))) (by decide)) q9) (rd_nOR (k := 10) hq_2397 hm_2347 hv_2385)
  have hv_2450 : hR S_2411 908 h = (some q_295) := hf_2413.fr (mem_old hm_2347) (fun q9 => (fun e9 => absurd (((kd_nO (k := 10) hq_2397 hm_2347 hk_2348)).symm.trans ((congrArg (hK _) e9).trans (kd_nO' (k := 10)))) (by decide)) q9) (rd_nOR (k := 10) hq_2397 hm_2347 hv_2386)
  have hv_2451 : hR S_2411 909 h = (some q_328) := hf_2413.fr (mem_old hm_2347) (fun q9 => (fun e9 => absurd (((kd_nO (k := 10) hq_2397 hm_2347 hk_2348)).symm.trans ((congrArg (hK _) e9).trans (kd_nO' (k := 10)))) (by decide)) q9) (rd_nOR (k := 10) hq_2397 hm_2347 hv_2387)
  have hv_2452 : hR S_2411 910 h = (some q_425) := hf_2413.fr (mem_old hm_2347) (fun q9 => (fun e9 => absurd (((kd_nO (k := 10) hq_2397 hm_2347 hk_2348)).symm.trans ((congrArg (hK _) e9).trans (kd_nO' (k := 10)))) (by decide)) q9) (rd_nOR (k := 10) hq_2397 hm_2347 hv_2388)
  have hv_2453 : hR S_2411 911 h = (some q_524) := hf_2413.fr (mem_old hm_2347) (fun q9 => (fun e9 => absurd (((kd_nO (k := 10) hq_2397 hm_2347 hk_2348)).symm.trans ((congrArg (hK _) e9).trans (kd_nO' (k := 10)))) (by decide)) q9) (rd_nOR (k := 10) hq_2397 hm_2347 hv_2389)
  have hv_2454 : hR S_2411 912 h = (some q_565) := hf_2413.fr (mem_old hm_2347) (fun q9 => (fun e9 => absurd (((kd_nO (k := 10) hq_2397 hm_2347 hk_2348)).symm.trans ((congrArg (hK _) e9).trans (kd_nO' (k := 10)))) (by decide)) q9) (rd_nOR (k := 10) hq_2397 hm_2347 hv_2390)
  have hv_2455 : hR S_2411 917 h = (some q_610) := hf_2413.fr (mem_old hm_2347) (fun q9 => (fun e9 => absurd (((kd_nO (k := 10) hq_2397 hm_2347 hk_2348)).symm.trans ((congrArg (hK _) e9).trans (kd_nO' (k := 10)))) (by decide)) q9) (rd_nOR (k := 10) hq_2397 hm_2347 hv_2391)
  have hf_2456 : Fm (fun _ _ => False) (fun f9 b9 => b9 = h) (fun _ => False) S S_2411 := hf_2400.then hf_2413 (fun a9 ha9 => ⟨(fun f9 h9 => (fun h9 => h9.elim (fun h8 => absurd (h8.2 ▸ ha9) hz_2398) (fun h8 => absurd (h8.2 ▸ ha9) hz_2398)) h9), (fun f9 h9 => (fun h8 => absurd (h8 ▸ ha9) hz_2398) h9), (fun h9 => h9.elim)⟩)
  have hN_2457 : NL S (L_2338 ++ [q_2396]) S_2411 := NL.mono (show NL S (L_2338 ++ [q_2396]) (nO S_2344 q_2396 10) from NL.nO hN_2393 hq_2397 hz_2398) (fun a9 h9 => hf_2413.mem h9)
  have hG_2458 : Gs h gs_2342 S_2411 := Gs.fm (show Gs h gs_2342 (nO S_2344 q_2396 10) from Gs.nO hG_2394 hq_2397) hf_2413 (fun g9 hg9 p9 hp9 => gn_2399 g9 hg9 p9 hp9)
  have hE_2459 : ELs S_2411 q_161 [q_661, q_784, q_908, q_1032, q_1156, q_1280, q_1404, q_1528, q_1652, q_1776, q_1900, q_2024, q_2148, q_2272] := ELs.fm (ELs.nO (S := S_2344) hE_2395) hf_2413 (mem_old hm_2349) (fun h9 => h9)
  have hz_2460 : q_2401 ∉ hL S := fun h9 => e_2404 (hf_2400.mem h9)
  have hN_2461 : NL S ((L_2338 ++ [q_2396]) ++ [q_2401]) S_2411 := NL.app (show NL S (L_2338 ++ [q_2396]) (nO S_2344 q_2396 10) from NL.nO hN_2393 hq_2397 hz_2398) hNl_2409 (fun a9 h9 => hf_2413.mem h9) (fun a9 h9 => hf_2400.mem h9)
  obtain ⟨L_2462, eL_2463⟩ : ∃ L9 : List Nat, L9 = ((L_2338 ++ [q_2396]) ++ [q_2401]) := ⟨_, rfl⟩
  rw [← eL_2463] at hN_2461
  have hGt_2464 : Gt 1 [q_2396, q_2401] S_2411 := ⟨fun i9 k9 h9 => (match i9, h9 with | 0, h9 => (by have e9 : (10 : Nat) = k9 := Option.some.inj h9; subst e9; exact ⟨hm_2425, hk_2426⟩) | 1, h9 => (by have e9 : (15 : Nat) = k9 := Option.some.inj h9; subst e9; exact ⟨e_2405, e_2406⟩) | i9 + 2, h9 => absurd h9 (by simp [gT])), (List.forall_mem_cons.mpr ⟨e_2407, (fun _ h9 => absurd h9 List.not_mem_nil)⟩), (List.forall_mem_cons.mpr ⟨e_2408, (fun _ h9 => absurd h9 List.not_mem_nil)⟩), (fun _ h9 => absurd h9 List.not_mem_nil)⟩
  have hG_2465 : Gs h (gs_2342 ++ [(1, [q_2396, q_2401])]) S_2411 := Gs.snoc hG_2458 (by decide) hGt_2464 (List.forall_mem_cons.mpr ⟨(own_ne hz_2398 hm), (fun _ h9 => absurd h9 List.not_mem_nil)⟩)
  obtain ⟨gs_2466, eG_2467⟩ : ∃ G9 : List (Nat × List Nat), G9 = gs_2342 ++ [(1, [q_2396, q_2401])] := ⟨_, rfl⟩
  rw [← eG_2467] at hG_2465
  refine j_aast (j := 14) (ci := 10) C 20  (by decide) rfl dX9_init_159 hm_2422 hk_2423 (inr_of (n := 16) hn_2424 (vp_lit (by decide))) (by decide) hm_2425 hk_2426 rfl ?_
  have hf_2470 : Fm (fun _ _ => False) (fun f9 b9 => b9 = h) (fun _ => False) S (tR S_2411 q_161 14 (some q_2396)) := (hf_2456.tR _ _ (fun h9 => absurd h9 hz_164))
  obtain ⟨S_2468, eS_2469⟩ : ∃ S9 : Hp, S9 = (tR S_2411 q_161 14 (some q_2396)) := ⟨_, rfl⟩
  refine J.eq (S' := S_2468) eS_2469.symm rfl rfl ?_
  have hm_2471 : h ∈ hL S_2468 := by rw [eS_2469]; exact hm_2420
  have hk_2472 : Kd S_2468 h 9 := by rw [eS_2469]; exact hk_2421
  have hm_2473 : q_161 ∈ hL S_2468 := by rw [eS_2469]; exact hm_2422
  have hk_2474 : Kd S_2468 q_161 20 := by rw [eS_2469]; exact hk_2423
  have hn_2475 : Ln S_2468 q_161 16 := by rw [eS_2469]; exact hn_2424
  have hz_2476 : ∀ j, aI S_2468 q_161 j = 0 := by rw [eS_2469]; exact hz_2414
  have hm_2477 : q_2396 ∈ hL S_2468 := by rw [eS_2469]; exact hm_2425
  have hk_2478 : Kd S_2468 q_2396 10 := by rw [eS_2469]; exact hk_2426
  have hm_2479 : q_266 ∈ hL S_2468 := by rw [eS_2469]; exact hm_2427
  have hk_2480 : Kd S_2468 q_266 13 := by rw [eS_2469]; exact hk_2428
  have hn_2481 : Ln S_2468 q_266 24000 := by rw [eS_2469]; exact hn_2429
  have hz_2482 : ∀ j, aI S_2468 q_266 j = 0 := by rw [eS_2469]; exact hz_2415
  have hm_2483 : q_295 ∈ hL S_2468 := by rw [eS_2469]; exact hm_2430
  have hk_2484 : Kd S_2468 q_295 14 := by rw [eS_2469]; exact hk_2431
  have hn_2485 : Ln S_2468 q_295 16 := by rw [eS_2469]; exact hn_2432
  have hz_2486 : ∀ j, aI S_2468 q_295 j = 0 := by rw [eS_2469]; exact hz_2416
  have hm_2487 : q_524 ∈ hL S_2468 := by rw [eS_2469]; exact hm_2433
  have hk_2488 : Kd S_2468 q_524 18 := by rw [eS_2469]; exact hk_2434
  have hn_2489 : Ln S_2468 q_524 3 := by rw [eS_2469]; exact hn_2435
  have hz_2490 : ∀ j, aI S_2468 q_524 j = 0 := by rw [eS_2469]; exact hz_2417
  have hm_2491 : q_565 ∈ hL S_2468 := by rw [eS_2469]; exact hm_2436
  have hk_2492 : Kd S_2468 q_565 19 := by rw [eS_2469]; exact hk_2437
  have hn_2493 : Ln S_2468 q_565 4 := by rw [eS_2469]; exact hn_2438
  have hz_2494 : ∀ j, aI S_2468 q_565 j = 0 := by rw [eS_2469]; exact hz_2418
  have hm_2495 : q_610 ∈ hL S_2468 := by rw [eS_2469]; exact hm_2439
  have hk_2496 : Kd S_2468 q_610 14 := by rw [eS_2469]; exact hk_2440
  have hn_2497 : Ln S_2468 q_610 12 := by rw [eS_2469]; exact hn_2441
  have hz_2498 : ∀ j, aI S_2468 q_610 j = 0 := by rw [eS_2469]; exact hz_2419
  have hv_2499 : hI S_2468 1000 q_2396 = 1 := by rw [eS_2469]; exact e_2402
  have hv_2500 : hI S_2468 1001 q_2396 = 1 := by rw [eS_2469]; exact e_2403
  have hv_2501 : hR S_2468 1003 q_2396 = (some q_2401) := by rw [eS_2469]; exact e_2408
  have hv_2502 : hR S_2468 900 h = (some s0) := by rw [eS_2469]; exact hv_2442
  have hv_2503 : hR S_2468 901 h = (some q_1) := by rw [eS_2469]; exact hv_2443
  have hv_2504 : hR S_2468 902 h = (some q_41) := by rw [eS_2469]; exact hv_2444
  have hv_2505 : hR S_2468 903 h = (some q_126) := by rw [eS_2469]; exact hv_2445
  have hv_2506 : hR S_2468 904 h = (some q_161) := by rw [eS_2469]; exact hv_2446
  have hv_2507 : hR S_2468 905 h = (some q_183) := by rw [eS_2469]; exact hv_2447
  have hv_2508 : hR S_2468 906 h = (some q_224) := by rw [eS_2469]; exact hv_2448
  have hv_2509 : hR S_2468 907 h = (some q_266) := by rw [eS_2469]; exact hv_2449
  have hv_2510 : hR S_2468 908 h = (some q_295) := by rw [eS_2469]; exact hv_2450
  have hv_2511 : hR S_2468 909 h = (some q_328) := by rw [eS_2469]; exact hv_2451
  have hv_2512 : hR S_2468 910 h = (some q_425) := by rw [eS_2469]; exact hv_2452
  have hv_2513 : hR S_2468 911 h = (some q_524) := by rw [eS_2469]; exact hv_2453
  have hv_2514 : hR S_2468 912 h = (some q_565) := by rw [eS_2469]; exact hv_2454
  have hv_2515 : hR S_2468 917 h = (some q_610) := by rw [eS_2469]; exact hv_2455
  have hf_2516 : Fm (fun _ _ => False) (fun f9 b9 => b9 = h) (fun _ => False) S S_2468 := by rw [eS_2469]; exact hf_2470
  have hN_2517 : NL S L_2462 S_2468 := by rw [eS_2469]; exact (NL.tR (S := S_2411) hN_2461)
  have hG_2518 : Gs h gs_2466 S_2468 := by rw [eS_2469]; exact (Gs.tR (S := S_2411) hG_2465)
  have hE_2519 : ELs S_2468 q_161 [q_661, q_784, q_908, q_1032, q_1156, q_1280, q_1404, q_1528, q_1652, q_1776, q_1900, q_2024, q_2148, q_2272, q_2396] := by rw [eS_2469]; exact (show ELs (tR S_2411 q_161 14 (some q_2396)) q_161 [q_661, q_784, q_908, q_1032, q_1156, q_1280, q_1404, q_1528, q_1652, q_1776, q_1900, q_2024, q_2148, q_2272, q_2396] from ELs.snoc hE_2459 rfl)
  refine j_iinc (q := 0) (v := 15) (lv' := [(2, .int 15), (0, .ref h), (1, .ref s0)]) C dX9_init_160 rfl (by decide) (by rw [hn9]; decide) rfl ?_
  refine j_goto (tgt := 138) C dX9_init_163 (by decide) ?_
  refine j_iload_n C dX9_init_138 rfl 0 rfl ?_
  refine j_aload_n C dX9_init_139 rfl 1 rfl ?_
  refine j_getr (f := 904) (v := q_161) C flX9_34 dX9_init_140 hm_2471 hk_2472 (by decide) rfl hv_2506 ?_
  refine j_alen (v := 16) C dX9_init_143 hm_2473 hk_2474 (by decide) (by decide) (len_of (n := 16) hn_2475 (by decide)) ?_
  show J _ _ _ _ _ 144 _
  refine j_ic_ge (tgt := 166) C dX9_init_144 (by decide) (fun c9 => absurd c9 (by decide)) (fun c9 => ?_)
  refine j_aload_n C dX9_init_147 rfl 1 rfl ?_
  refine j_getr (f := 904) (v := q_161) C flX9_34 dX9_init_148 hm_2471 hk_2472 (by decide) rfl hv_2506 ?_
  refine j_iload_n C dX9_init_151 rfl 0 rfl ?_
  refine j_new (N := 4) C (ci := 10) rfl rfl klX9_32 knX10 kiX10 (M.cells (by decide)) (M.slots (by decide)) dX9_init_152 (fun q_2520 hq_2521 => ?_)
  have hz_2522 : q_2520 ∉ hL S := fun h9 => hq_2521 (hf_2516.mem h9)
  have gn_2523 : ∀ g9 ∈ gs_2466, ∀ p9 ∈ (gT g9.1).2.2, g9.2.getD p9.2.1 0 ≠ q_2520 := Gs.ne hG_2518 hq_2521
  refine j_dup C dX9_init_155 rfl ?_
  have hf_2524 : Fm (fun _ _ => False) (fun f9 b9 => b9 = h) (fun _ => False) S (nO S_2468 q_2520 10) := (hf_2516.nO _ hq_2521)
  refine j_callI C [] [.ref q_2520, .int 15, .ref q_161] mlX9_38 mcX10_init (c_X10_init (nO S_2468 q_2520 10) q_2520 mem_new (kd_nO' (k := 10))) (M.rm (by decide) (by decide) (Nat.le_of_ble_eq_true rfl) (Nat.le_of_ble_eq_true rfl)) rfl rfl (Nat.le_of_ble_eq_true rfl) dX9_init_156 (fun r_2534 S_2535 hp_2536 => ?_)
  obtain ⟨rfl, hf_2537, e_2526, e_2527, q_2525, e_2528, e_2529, e_2530, e_2531, e_2532, hNl_2533⟩ := hp_2536
  refine J.eq (st' := [.ref q_2520, .int 15, .ref q_161]) rfl rfl rfl ?_
  have hz_2538 : ∀ j, aI S_2535 q_161 j = 0 := fun j9 => (hf_2537.ai (mem_old hm_2473) (fun h9 => h9) j9).trans (hz_2476 j9)
  have hz_2539 : ∀ j, aI S_2535 q_266 j = 0 := fun j9 => (hf_2537.ai (mem_old hm_2479) (fun h9 => h9) j9).trans (hz_2482 j9)
  have hz_2540 : ∀ j, aI S_2535 q_295 j = 0 := fun j9 => (hf_2537.ai (mem_old hm_2483) (fun h9 => h9) j9).trans (hz_2486 j9)
  have hz_2541 : ∀ j, aI S_2535 q_524 j = 0 := fun j9 => (hf_2537.ai (mem_old hm_2487) (fun h9 => h9) j9).trans (hz_2490 j9)
  have hz_2542 : ∀ j, aI S_2535 q_565 j = 0 := fun j9 => (hf_2537.ai (mem_old hm_2491) (fun h9 => h9) j9).trans (hz_2494 j9)
  have hz_2543 : ∀ j, aI S_2535 q_610 j = 0 := fun j9 => (hf_2537.ai (mem_old hm_2495) (fun h9 => h9) j9).trans (hz_2498 j9)
  have hm_2544 : h ∈ hL S_2535 := hf_2537.mem (mem_old hm_2471)
  have hk_2545 : Kd S_2535 h 9 := hf_2537.kd (mem_old hm_2471) (kd_nO (k := 10) hq_2521 hm_2471 hk_2472)
  have hm_2546 : q_161 ∈ hL S_2535 := hf_2537.mem (mem_old hm_2473)
  have hk_2547 : Kd S_2535 q_161 20 := hf_2537.kd (mem_old hm_2473) (kd_nO (k := 10) hq_2521 hm_2473 hk_2474)
  have hn_2548 : Ln S_2535 q_161 16 := hf_2537.ln (mem_old hm_2473) hn_2475
  have hm_2549 : q_2520 ∈ hL S_2535 := hf_2537.mem mem_new
  have hk_2550 : Kd S_2535 q_2520 10 := hf_2537.kd mem_new (kd_nO' (k := 10))
  have hm_2551 : q_266 ∈ hL S_2535 := hf_2537.mem (mem_old hm_2479)
  have hk_2552 : Kd S_2535 q_266 13 := hf_2537.kd (mem_old hm_2479) (kd_nO (k := 10) hq_2521 hm_2479 hk_2480)
  have hn_2553 : Ln S_2535 q_266 24000 := hf_2537.ln (mem_old hm_2479) hn_2481
  have hm_2554 : q_295 ∈ hL S_2535 := hf_2537.mem (mem_old hm_2483)
  have hk_2555 : Kd S_2535 q_295 14 := hf_2537.kd (mem_old hm_2483) (kd_nO (k := 10) hq_2521 hm_2483 hk_2484)
  have hn_2556 : Ln S_2535 q_295 16 := hf_2537.ln (mem_old hm_2483) hn_2485
  have hm_2557 : q_524 ∈ hL S_2535 := hf_2537.mem (mem_old hm_2487)
  have hk_2558 : Kd S_2535 q_524 18 := hf_2537.kd (mem_old hm_2487) (kd_nO (k := 10) hq_2521 hm_2487 hk_2488)
  have hn_2559 : Ln S_2535 q_524 3 := hf_2537.ln (mem_old hm_2487) hn_2489
  have hm_2560 : q_565 ∈ hL S_2535 := hf_2537.mem (mem_old hm_2491)
  have hk_2561 : Kd S_2535 q_565 19 := hf_2537.kd (mem_old hm_2491) (kd_nO (k := 10) hq_2521 hm_2491 hk_2492)
  have hn_2562 : Ln S_2535 q_565 4 := hf_2537.ln (mem_old hm_2491) hn_2493
  have hm_2563 : q_610 ∈ hL S_2535 := hf_2537.mem (mem_old hm_2495)
  have hk_2564 : Kd S_2535 q_610 14 := hf_2537.kd (mem_old hm_2495) (kd_nO (k := 10) hq_2521 hm_2495 hk_2496)
  have hn_2565 : Ln S_2535 q_610 12 := hf_2537.ln (mem_old hm_2495) hn_2497
  have hv_2566 : hR S_2535 900 h = (some s0) := hf_2537.fr (mem_old hm_2471) (fun q9 => (fun e9 => absurd (((kd_nO (k := 10) hq_2521 hm_2471 hk_2472)).symm.trans ((congrArg (hK _) e9).trans (kd_nO' (k := 10)))) (by decide)) q9) (rd_nOR (k := 10) hq_2521 hm_2471 hv_2502)
  have hv_2567 : hR S_2535 901 h = (some q_1) := hf_2537.fr (mem_old hm_2471) (fun q9 => (fun e9 => absurd (((kd_nO (k := 10) hq_2521 hm_2471 hk_2472)).symm.trans ((congrArg (hK _) e9).trans (kd_nO' (k := 10)))) (by decide)) q9) (rd_nOR (k := 10) hq_2521 hm_2471 hv_2503)
  have hv_2568 : hR S_2535 902 h = (some q_41) := hf_2537.fr (mem_old hm_2471) (fun q9 => (fun e9 => absurd (((kd_nO (k := 10) hq_2521 hm_2471 hk_2472)).symm.trans ((congrArg (hK _) e9).trans (kd_nO' (k := 10)))) (by decide)) q9) (rd_nOR (k := 10) hq_2521 hm_2471 hv_2504)
  have hv_2569 : hR S_2535 903 h = (some q_126) := hf_2537.fr (mem_old hm_2471) (fun q9 => (fun e9 => absurd (((kd_nO (k := 10) hq_2521 hm_2471 hk_2472)).symm.trans ((congrArg (hK _) e9).trans (kd_nO' (k := 10)))) (by decide)) q9) (rd_nOR (k := 10) hq_2521 hm_2471 hv_2505)
  have hv_2570 : hR S_2535 904 h = (some q_161) := hf_2537.fr (mem_old hm_2471) (fun q9 => (fun e9 => absurd (((kd_nO (k := 10) hq_2521 hm_2471 hk_2472)).symm.trans ((congrArg (hK _) e9).trans (kd_nO' (k := 10)))) (by decide)) q9) (rd_nOR (k := 10) hq_2521 hm_2471 hv_2506)
  have hv_2571 : hR S_2535 905 h = (some q_183) := hf_2537.fr (mem_old hm_2471) (fun q9 => (fun e9 => absurd (((kd_nO (k := 10) hq_2521 hm_2471 hk_2472)).symm.trans ((congrArg (hK _) e9).trans (kd_nO' (k := 10)))) (by decide)) q9) (rd_nOR (k := 10) hq_2521 hm_2471 hv_2507)
  have hv_2572 : hR S_2535 906 h = (some q_224) := hf_2537.fr (mem_old hm_2471) (fun q9 => (fun e9 => absurd (((kd_nO (k := 10) hq_2521 hm_2471 hk_2472)).symm.trans ((congrArg (hK _) e9).trans (kd_nO' (k := 10)))) (by decide)) q9) (rd_nOR (k := 10) hq_2521 hm_2471 hv_2508)
  have hv_2573 : hR S_2535 907 h = (some q_266) := hf_2537.fr (mem_old hm_2471) (fun q9 => (fun e9 => absurd (((kd_nO (k := 10) hq_2521 hm_2471 hk_2472)).symm.trans ((congrArg (hK _) e9).trans (kd_nO' (k := 10)))) (by decide)) q9) (rd_nOR (k := 10) hq_2521 hm_2471 hv_2509)
  have hv_2574 : hR S_2535 908 h = (some q_295) := hf_2537.fr (mem_old hm_2471) (fun q9 => (fun e9 => absurd (((kd_nO (k := 10) hq_2521 hm_2471 hk_2472)).symm.trans ((congrArg (hK _) e9).trans (kd_nO' (k := 10)))) (by decide)) q9) (rd_nOR (k := 10) hq_2521 hm_2471 hv_2510)
  have hv_2575 : hR S_2535 909 h = (some q_328) := hf_2537.fr (mem_old hm_2471) (fun q9 => (fun e9 => absurd (((kd_nO (k := 10) hq_2521 hm_2471 hk_2472)).symm.trans ((congrArg (hK _) e9).trans (kd_nO' (k := 10)))) (by decide)) q9) (rd_nOR (k := 10) hq_2521 hm_2471 hv_2511)
  have hv_2576 : hR S_2535 910 h = (some q_425) := hf_2537.fr (mem_old hm_2471) (fun q9 => (fun e9 => absurd (((kd_nO (k := 10) hq_2521 hm_2471 hk_2472)).symm.trans ((congrArg (hK _) e9).trans (kd_nO' (k := 10)))) (by decide)) q9) (rd_nOR (k := 10) hq_2521 hm_2471 hv_2512)
  have hv_2577 : hR S_2535 911 h = (some q_524) := hf_2537.fr (mem_old hm_2471) (fun q9 => (fun e9 => absurd (((kd_nO (k := 10) hq_2521 hm_2471 hk_2472)).symm.trans ((congrArg (hK _) e9).trans (kd_nO' (k := 10)))) (by decide)) q9) (rd_nOR (k := 10) hq_2521 hm_2471 hv_2513)
  have hv_2578 : hR S_2535 912 h = (some q_565) := hf_2537.fr (mem_old hm_2471) (fun q9 => (fun e9 => absurd (((kd_nO (k := 10) hq_2521 hm_2471 hk_2472)).symm.trans ((congrArg (hK _) e9).trans (kd_nO' (k := 10)))) (by decide)) q9) (rd_nOR (k := 10) hq_2521 hm_2471 hv_2514)
  have hv_2579 : hR S_2535 917 h = (some q_610) := hf_2537.fr (mem_old hm_2471) (fun q9 => (fun e9 => absurd (((kd_nO (k := 10) hq_2521 hm_2471 hk_2472)).symm.trans ((congrArg (hK _) e9).trans (kd_nO' (k := 10)))) (by decide)) q9) (rd_nOR (k := 10) hq_2521 hm_2471 hv_2515)
  have hf_2580 : Fm (fun _ _ => False) (fun f9 b9 => b9 = h) (fun _ => False) S S_2535 := hf_2524.then hf_2537 (fun a9 ha9 => ⟨(fun f9 h9 => (fun h9 => h9.elim (fun h8 => absurd (h8.2 ▸ ha9) hz_2522) (fun h8 => absurd (h8.2 ▸ ha9) hz_2522)) h9), (fun f9 h9 => (fun h8 => absurd (h8 ▸ ha9) hz_2522) h9), (fun h9 => h9.elim)⟩)
  have hN_2581 : NL S (L_2462 ++ [q_2520]) S_2535 := NL.mono (show NL S (L_2462 ++ [q_2520]) (nO S_2468 q_2520 10) from NL.nO hN_2517 hq_2521 hz_2522) (fun a9 h9 => hf_2537.mem h9)
  have hG_2582 : Gs h gs_2466 S_2535 := Gs.fm (show Gs h gs_2466 (nO S_2468 q_2520 10) from Gs.nO hG_2518 hq_2521) hf_2537 (fun g9 hg9 p9 hp9 => gn_2523 g9 hg9 p9 hp9)
  have hE_2583 : ELs S_2535 q_161 [q_661, q_784, q_908, q_1032, q_1156, q_1280, q_1404, q_1528, q_1652, q_1776, q_1900, q_2024, q_2148, q_2272, q_2396] := ELs.fm (ELs.nO (S := S_2468) hE_2519) hf_2537 (mem_old hm_2473) (fun h9 => h9)
  have hz_2584 : q_2525 ∉ hL S := fun h9 => e_2528 (hf_2524.mem h9)
  have hN_2585 : NL S ((L_2462 ++ [q_2520]) ++ [q_2525]) S_2535 := NL.app (show NL S (L_2462 ++ [q_2520]) (nO S_2468 q_2520 10) from NL.nO hN_2517 hq_2521 hz_2522) hNl_2533 (fun a9 h9 => hf_2537.mem h9) (fun a9 h9 => hf_2524.mem h9)
  obtain ⟨L_2586, eL_2587⟩ : ∃ L9 : List Nat, L9 = ((L_2462 ++ [q_2520]) ++ [q_2525]) := ⟨_, rfl⟩
  rw [← eL_2587] at hN_2585
  have hGt_2588 : Gt 1 [q_2520, q_2525] S_2535 := ⟨fun i9 k9 h9 => (match i9, h9 with | 0, h9 => (by have e9 : (10 : Nat) = k9 := Option.some.inj h9; subst e9; exact ⟨hm_2549, hk_2550⟩) | 1, h9 => (by have e9 : (15 : Nat) = k9 := Option.some.inj h9; subst e9; exact ⟨e_2529, e_2530⟩) | i9 + 2, h9 => absurd h9 (by simp [gT])), (List.forall_mem_cons.mpr ⟨e_2531, (fun _ h9 => absurd h9 List.not_mem_nil)⟩), (List.forall_mem_cons.mpr ⟨e_2532, (fun _ h9 => absurd h9 List.not_mem_nil)⟩), (fun _ h9 => absurd h9 List.not_mem_nil)⟩
  have hG_2589 : Gs h (gs_2466 ++ [(1, [q_2520, q_2525])]) S_2535 := Gs.snoc hG_2582 (by decide) hGt_2588 (List.forall_mem_cons.mpr ⟨(own_ne hz_2522 hm), (fun _ h9 => absurd h9 List.not_mem_nil)⟩)
  obtain ⟨gs_2590, eG_2591⟩ : ∃ G9 : List (Nat × List Nat), G9 = gs_2466 ++ [(1, [q_2520, q_2525])] := ⟨_, rfl⟩
  rw [← eG_2591] at hG_2589
  refine j_aast (j := 15) (ci := 10) C 20  (by decide) rfl dX9_init_159 hm_2546 hk_2547 (inr_of (n := 16) hn_2548 (vp_lit (by decide))) (by decide) hm_2549 hk_2550 rfl ?_
  have hf_2594 : Fm (fun _ _ => False) (fun f9 b9 => b9 = h) (fun _ => False) S (tR S_2535 q_161 15 (some q_2520)) := (hf_2580.tR _ _ (fun h9 => absurd h9 hz_164))
  obtain ⟨S_2592, eS_2593⟩ : ∃ S9 : Hp, S9 = (tR S_2535 q_161 15 (some q_2520)) := ⟨_, rfl⟩
  refine J.eq (S' := S_2592) eS_2593.symm rfl rfl ?_
  have hm_2595 : h ∈ hL S_2592 := by rw [eS_2593]; exact hm_2544
  have hk_2596 : Kd S_2592 h 9 := by rw [eS_2593]; exact hk_2545
  have hm_2597 : q_161 ∈ hL S_2592 := by rw [eS_2593]; exact hm_2546
  have hk_2598 : Kd S_2592 q_161 20 := by rw [eS_2593]; exact hk_2547
  have hn_2599 : Ln S_2592 q_161 16 := by rw [eS_2593]; exact hn_2548
  have hz_2600 : ∀ j, aI S_2592 q_161 j = 0 := by rw [eS_2593]; exact hz_2538
  have hm_2601 : q_2520 ∈ hL S_2592 := by rw [eS_2593]; exact hm_2549
  have hk_2602 : Kd S_2592 q_2520 10 := by rw [eS_2593]; exact hk_2550
  have hm_2603 : q_266 ∈ hL S_2592 := by rw [eS_2593]; exact hm_2551
  have hk_2604 : Kd S_2592 q_266 13 := by rw [eS_2593]; exact hk_2552
  have hn_2605 : Ln S_2592 q_266 24000 := by rw [eS_2593]; exact hn_2553
  have hz_2606 : ∀ j, aI S_2592 q_266 j = 0 := by rw [eS_2593]; exact hz_2539
  have hm_2607 : q_295 ∈ hL S_2592 := by rw [eS_2593]; exact hm_2554
  have hk_2608 : Kd S_2592 q_295 14 := by rw [eS_2593]; exact hk_2555
  have hn_2609 : Ln S_2592 q_295 16 := by rw [eS_2593]; exact hn_2556
  have hz_2610 : ∀ j, aI S_2592 q_295 j = 0 := by rw [eS_2593]; exact hz_2540
  have hm_2611 : q_524 ∈ hL S_2592 := by rw [eS_2593]; exact hm_2557
  have hk_2612 : Kd S_2592 q_524 18 := by rw [eS_2593]; exact hk_2558
  have hn_2613 : Ln S_2592 q_524 3 := by rw [eS_2593]; exact hn_2559
  have hz_2614 : ∀ j, aI S_2592 q_524 j = 0 := by rw [eS_2593]; exact hz_2541
  have hm_2615 : q_565 ∈ hL S_2592 := by rw [eS_2593]; exact hm_2560
  have hk_2616 : Kd S_2592 q_565 19 := by rw [eS_2593]; exact hk_2561
  have hn_2617 : Ln S_2592 q_565 4 := by rw [eS_2593]; exact hn_2562
  have hz_2618 : ∀ j, aI S_2592 q_565 j = 0 := by rw [eS_2593]; exact hz_2542
  have hm_2619 : q_610 ∈ hL S_2592 := by rw [eS_2593]; exact hm_2563
  have hk_2620 : Kd S_2592 q_610 14 := by rw [eS_2593]; exact hk_2564
  have hn_2621 : Ln S_2592 q_610 12 := by rw [eS_2593]; exact hn_2565
  have hz_2622 : ∀ j, aI S_2592 q_610 j = 0 := by rw [eS_2593]; exact hz_2543
  have hv_2623 : hI S_2592 1000 q_2520 = 1 := by rw [eS_2593]; exact e_2526
  have hv_2624 : hI S_2592 1001 q_2520 = 1 := by rw [eS_2593]; exact e_2527
  have hv_2625 : hR S_2592 1003 q_2520 = (some q_2525) := by rw [eS_2593]; exact e_2532
  have hv_2626 : hR S_2592 900 h = (some s0) := by rw [eS_2593]; exact hv_2566
  have hv_2627 : hR S_2592 901 h = (some q_1) := by rw [eS_2593]; exact hv_2567
  have hv_2628 : hR S_2592 902 h = (some q_41) := by rw [eS_2593]; exact hv_2568
  have hv_2629 : hR S_2592 903 h = (some q_126) := by rw [eS_2593]; exact hv_2569
  have hv_2630 : hR S_2592 904 h = (some q_161) := by rw [eS_2593]; exact hv_2570
  have hv_2631 : hR S_2592 905 h = (some q_183) := by rw [eS_2593]; exact hv_2571
  have hv_2632 : hR S_2592 906 h = (some q_224) := by rw [eS_2593]; exact hv_2572
  have hv_2633 : hR S_2592 907 h = (some q_266) := by rw [eS_2593]; exact hv_2573
  have hv_2634 : hR S_2592 908 h = (some q_295) := by rw [eS_2593]; exact hv_2574
  have hv_2635 : hR S_2592 909 h = (some q_328) := by rw [eS_2593]; exact hv_2575
  have hv_2636 : hR S_2592 910 h = (some q_425) := by rw [eS_2593]; exact hv_2576
  have hv_2637 : hR S_2592 911 h = (some q_524) := by rw [eS_2593]; exact hv_2577
  have hv_2638 : hR S_2592 912 h = (some q_565) := by rw [eS_2593]; exact hv_2578
  have hv_2639 : hR S_2592 917 h = (some q_610) := by rw [eS_2593]; exact hv_2579
  have hf_2640 : Fm (fun _ _ => False) (fun f9 b9 => b9 = h) (fun _ => False) S S_2592 := by rw [eS_2593]; exact hf_2594
  have hN_2641 : NL S L_2586 S_2592 := by rw [eS_2593]; exact (NL.tR (S := S_2535) hN_2585)
  have hG_2642 : Gs h gs_2590 S_2592 := by rw [eS_2593]; exact (Gs.tR (S := S_2535) hG_2589)
  have hE_2643 : ELs S_2592 q_161 [q_661, q_784, q_908, q_1032, q_1156, q_1280, q_1404, q_1528, q_1652, q_1776, q_1900, q_2024, q_2148, q_2272, q_2396, q_2520] := by rw [eS_2593]; exact (show ELs (tR S_2535 q_161 15 (some q_2520)) q_161 [q_661, q_784, q_908, q_1032, q_1156, q_1280, q_1404, q_1528, q_1652, q_1776, q_1900, q_2024, q_2148, q_2272, q_2396, q_2520] from ELs.snoc hE_2583 rfl)
  show J _ _ _ _ _ 160 _
  refine j_iinc (q := 0) (v := 16) (lv' := [(2, .int 16), (0, .ref h), (1, .ref s0)]) C dX9_init_160 rfl (by decide) (by rw [hn9]; decide) rfl ?_
  refine j_goto (tgt := 138) C dX9_init_163 (by decide) ?_
  refine j_iload_n C dX9_init_138 rfl 0 rfl ?_
  refine j_aload_n C dX9_init_139 rfl 1 rfl ?_
  refine j_getr (f := 904) (v := q_161) C flX9_34 dX9_init_140 hm_2595 hk_2596 (by decide) rfl hv_2630 ?_
  refine j_alen (v := 16) C dX9_init_143 hm_2597 hk_2598 (by decide) (by decide) (len_of (n := 16) hn_2599 (by decide)) ?_
  refine j_ic_ge (tgt := 166) C dX9_init_144 (by decide) (fun c9 => ?_) (fun c9 => absurd (by decide) c9)
  refine j_iconst (v := 0) C dX9_init_166 (by decide) ?_
  show J _ _ _ _ _ 167 _
  refine j_istore_n (lv' := [(2, .int 0), (0, .ref h), (1, .ref s0)]) C dX9_init_167 rfl (by rw [hn9]; decide) rfl ?_
  refine j_iload_n C dX9_init_168 rfl 0 rfl ?_
  refine j_aload_n C dX9_init_169 rfl 1 rfl ?_
  refine j_getr (f := 911) (v := q_524) C flX9_64 dX9_init_170 hm_2595 hk_2596 (by decide) rfl hv_2637 ?_
  refine j_alen (v := 3) C dX9_init_173 hm_2611 hk_2612 (by decide) (by decide) (len_of (n := 3) hn_2613 (by decide)) ?_
  refine j_ic_ge (tgt := 196) C dX9_init_174 (by decide) (fun c9 => absurd c9 (by decide)) (fun c9 => ?_)
  refine j_aload_n C dX9_init_177 rfl 1 rfl ?_
  refine j_getr (f := 911) (v := q_524) C flX9_64 dX9_init_178 hm_2595 hk_2596 (by decide) rfl hv_2637 ?_
  show J _ _ _ _ _ 181 _
  refine j_iload_n C dX9_init_181 rfl 0 rfl ?_
  refine j_new (N := 21) C (ci := 1) rfl rfl klX9_54 knX1 kiX1 (M.cells (by decide)) (M.slots (by decide)) dX9_init_182 (fun q_2644 hq_2645 => ?_)
  have hz_2646 : q_2644 ∉ hL S := fun h9 => hq_2645 (hf_2640.mem h9)
  have gn_2647 : ∀ g9 ∈ gs_2590, ∀ p9 ∈ (gT g9.1).2.2, g9.2.getD p9.2.1 0 ≠ q_2644 := Gs.ne hG_2642 hq_2645
  refine j_dup C dX9_init_185 rfl ?_
  have hf_2648 : Fm (fun _ _ => False) (fun f9 b9 => b9 = h) (fun _ => False) S (nO S_2592 q_2644 1) := (hf_2640.nO _ hq_2645)
  refine j_callI C [] [.ref q_2644, .int 0, .ref q_524] mlX9_56 mcX1_init (c_X1_init (nO S_2592 q_2644 1) q_2644 mem_new (kd_nO' (k := 1))) (M.rm (by decide) (by decide) (Nat.le_of_ble_eq_true rfl) (Nat.le_of_ble_eq_true rfl)) rfl rfl (Nat.le_of_ble_eq_true rfl) dX9_init_186 (fun r_2695 S_2696 hp_2697 => ?_)
  obtain ⟨rfl, hf_2698, q_2649, q_2650, q_2651, q_2652, q_2653, q_2654, q_2655, q_2656, e_2657, e_2658, e_2659, e_2660, e_2661, e_2662, e_2663, e_2664, e_2665, e_2666, e_2667, e_2668, e_2669, e_2670, e_2671, e_2672, e_2673, e_2674, e_2675, e_2676, e_2677, e_2678, e_2679, e_2680, e_2681, e_2682, e_2683, e_2684, e_2685, e_2686, e_2687, e_2688, e_2689, e_2690, e_2691, e_2692, e_2693, hNl_2694⟩ := hp_2697
  refine J.eq (st' := [.ref q_2644, .int 0, .ref q_524]) rfl rfl rfl ?_
  have hz_2699 : ∀ j, aI S_2696 q_161 j = 0 := fun j9 => (hf_2698.ai (mem_old hm_2597) (fun h9 => h9) j9).trans (hz_2600 j9)
  have hz_2700 : ∀ j, aI S_2696 q_266 j = 0 := fun j9 => (hf_2698.ai (mem_old hm_2603) (fun h9 => h9) j9).trans (hz_2606 j9)
  have hz_2701 : ∀ j, aI S_2696 q_295 j = 0 := fun j9 => (hf_2698.ai (mem_old hm_2607) (fun h9 => h9) j9).trans (hz_2610 j9)
  have hz_2702 : ∀ j, aI S_2696 q_524 j = 0 := fun j9 => (hf_2698.ai (mem_old hm_2611) (fun h9 => h9) j9).trans (hz_2614 j9)
  have hz_2703 : ∀ j, aI S_2696 q_565 j = 0 := fun j9 => (hf_2698.ai (mem_old hm_2615) (fun h9 => h9) j9).trans (hz_2618 j9)
  have hz_2704 : ∀ j, aI S_2696 q_610 j = 0 := fun j9 => (hf_2698.ai (mem_old hm_2619) (fun h9 => h9) j9).trans (hz_2622 j9)
  have hm_2705 : h ∈ hL S_2696 := hf_2698.mem (mem_old hm_2595)
  have hk_2706 : Kd S_2696 h 9 := hf_2698.kd (mem_old hm_2595) (kd_nO (k := 1) hq_2645 hm_2595 hk_2596)
  have hm_2707 : q_161 ∈ hL S_2696 := hf_2698.mem (mem_old hm_2597)
  have hk_2708 : Kd S_2696 q_161 20 := hf_2698.kd (mem_old hm_2597) (kd_nO (k := 1) hq_2645 hm_2597 hk_2598)
  have hn_2709 : Ln S_2696 q_161 16 := hf_2698.ln (mem_old hm_2597) hn_2599
  have hm_2710 : q_2644 ∈ hL S_2696 := hf_2698.mem mem_new
  have hk_2711 : Kd S_2696 q_2644 1 := hf_2698.kd mem_new (kd_nO' (k := 1))
  have hm_2712 : q_266 ∈ hL S_2696 := hf_2698.mem (mem_old hm_2603)
  have hk_2713 : Kd S_2696 q_266 13 := hf_2698.kd (mem_old hm_2603) (kd_nO (k := 1) hq_2645 hm_2603 hk_2604)
  have hn_2714 : Ln S_2696 q_266 24000 := hf_2698.ln (mem_old hm_2603) hn_2605
  have hm_2715 : q_295 ∈ hL S_2696 := hf_2698.mem (mem_old hm_2607)
  have hk_2716 : Kd S_2696 q_295 14 := hf_2698.kd (mem_old hm_2607) (kd_nO (k := 1) hq_2645 hm_2607 hk_2608)
  have hn_2717 : Ln S_2696 q_295 16 := hf_2698.ln (mem_old hm_2607) hn_2609
  have hm_2718 : q_524 ∈ hL S_2696 := hf_2698.mem (mem_old hm_2611)
  have hk_2719 : Kd S_2696 q_524 18 := hf_2698.kd (mem_old hm_2611) (kd_nO (k := 1) hq_2645 hm_2611 hk_2612)
  have hn_2720 : Ln S_2696 q_524 3 := hf_2698.ln (mem_old hm_2611) hn_2613
  have hm_2721 : q_565 ∈ hL S_2696 := hf_2698.mem (mem_old hm_2615)
  have hk_2722 : Kd S_2696 q_565 19 := hf_2698.kd (mem_old hm_2615) (kd_nO (k := 1) hq_2645 hm_2615 hk_2616)
  have hn_2723 : Ln S_2696 q_565 4 := hf_2698.ln (mem_old hm_2615) hn_2617
  have hm_2724 : q_610 ∈ hL S_2696 := hf_2698.mem (mem_old hm_2619)
  have hk_2725 : Kd S_2696 q_610 14 := hf_2698.kd (mem_old hm_2619) (kd_nO (k := 1) hq_2645 hm_2619 hk_2620)
  have hn_2726 : Ln S_2696 q_610 12 := hf_2698.ln (mem_old hm_2619) hn_2621
  have hv_2727 : hR S_2696 900 h = (some s0) := hf_2698.fr (mem_old hm_2595) (fun q9 => (fun e9 => absurd (((kd_nO (k := 1) hq_2645 hm_2595 hk_2596)).symm.trans ((congrArg (hK _) e9).trans (kd_nO' (k := 1)))) (by decide)) q9) (rd_nOR (k := 1) hq_2645 hm_2595 hv_2626)
  have hv_2728 : hR S_2696 901 h = (some q_1) := hf_2698.fr (mem_old hm_2595) (fun q9 => (fun e9 => absurd (((kd_nO (k := 1) hq_2645 hm_2595 hk_2596)).symm.trans ((congrArg (hK _) e9).trans (kd_nO' (k := 1)))) (by decide)) q9) (rd_nOR (k := 1) hq_2645 hm_2595 hv_2627)
  have hv_2729 : hR S_2696 902 h = (some q_41) := hf_2698.fr (mem_old hm_2595) (fun q9 => (fun e9 => absurd (((kd_nO (k := 1) hq_2645 hm_2595 hk_2596)).symm.trans ((congrArg (hK _) e9).trans (kd_nO' (k := 1)))) (by decide)) q9) (rd_nOR (k := 1) hq_2645 hm_2595 hv_2628)
  have hv_2730 : hR S_2696 903 h = (some q_126) := hf_2698.fr (mem_old hm_2595) (fun q9 => (fun e9 => absurd (((kd_nO (k := 1) hq_2645 hm_2595 hk_2596)).symm.trans ((congrArg (hK _) e9).trans (kd_nO' (k := 1)))) (by decide)) q9) (rd_nOR (k := 1) hq_2645 hm_2595 hv_2629)
  have hv_2731 : hR S_2696 904 h = (some q_161) := hf_2698.fr (mem_old hm_2595) (fun q9 => (fun e9 => absurd (((kd_nO (k := 1) hq_2645 hm_2595 hk_2596)).symm.trans ((congrArg (hK _) e9).trans (kd_nO' (k := 1)))) (by decide)) q9) (rd_nOR (k := 1) hq_2645 hm_2595 hv_2630)
  have hv_2732 : hR S_2696 905 h = (some q_183) := hf_2698.fr (mem_old hm_2595) (fun q9 => (fun e9 => absurd (((kd_nO (k := 1) hq_2645 hm_2595 hk_2596)).symm.trans ((congrArg (hK _) e9).trans (kd_nO' (k := 1)))) (by decide)) q9) (rd_nOR (k := 1) hq_2645 hm_2595 hv_2631)
  have hv_2733 : hR S_2696 906 h = (some q_224) := hf_2698.fr (mem_old hm_2595) (fun q9 => (fun e9 => absurd (((kd_nO (k := 1) hq_2645 hm_2595 hk_2596)).symm.trans ((congrArg (hK _) e9).trans (kd_nO' (k := 1)))) (by decide)) q9) (rd_nOR (k := 1) hq_2645 hm_2595 hv_2632)
  have hv_2734 : hR S_2696 907 h = (some q_266) := hf_2698.fr (mem_old hm_2595) (fun q9 => (fun e9 => absurd (((kd_nO (k := 1) hq_2645 hm_2595 hk_2596)).symm.trans ((congrArg (hK _) e9).trans (kd_nO' (k := 1)))) (by decide)) q9) (rd_nOR (k := 1) hq_2645 hm_2595 hv_2633)
  have hv_2735 : hR S_2696 908 h = (some q_295) := hf_2698.fr (mem_old hm_2595) (fun q9 => (fun e9 => absurd (((kd_nO (k := 1) hq_2645 hm_2595 hk_2596)).symm.trans ((congrArg (hK _) e9).trans (kd_nO' (k := 1)))) (by decide)) q9) (rd_nOR (k := 1) hq_2645 hm_2595 hv_2634)
  have hv_2736 : hR S_2696 909 h = (some q_328) := hf_2698.fr (mem_old hm_2595) (fun q9 => (fun e9 => absurd (((kd_nO (k := 1) hq_2645 hm_2595 hk_2596)).symm.trans ((congrArg (hK _) e9).trans (kd_nO' (k := 1)))) (by decide)) q9) (rd_nOR (k := 1) hq_2645 hm_2595 hv_2635)
  have hv_2737 : hR S_2696 910 h = (some q_425) := hf_2698.fr (mem_old hm_2595) (fun q9 => (fun e9 => absurd (((kd_nO (k := 1) hq_2645 hm_2595 hk_2596)).symm.trans ((congrArg (hK _) e9).trans (kd_nO' (k := 1)))) (by decide)) q9) (rd_nOR (k := 1) hq_2645 hm_2595 hv_2636)
  have hv_2738 : hR S_2696 911 h = (some q_524) := hf_2698.fr (mem_old hm_2595) (fun q9 => (fun e9 => absurd (((kd_nO (k := 1) hq_2645 hm_2595 hk_2596)).symm.trans ((congrArg (hK _) e9).trans (kd_nO' (k := 1)))) (by decide)) q9) (rd_nOR (k := 1) hq_2645 hm_2595 hv_2637)
  have hv_2739 : hR S_2696 912 h = (some q_565) := hf_2698.fr (mem_old hm_2595) (fun q9 => (fun e9 => absurd (((kd_nO (k := 1) hq_2645 hm_2595 hk_2596)).symm.trans ((congrArg (hK _) e9).trans (kd_nO' (k := 1)))) (by decide)) q9) (rd_nOR (k := 1) hq_2645 hm_2595 hv_2638)
  have hv_2740 : hR S_2696 917 h = (some q_610) := hf_2698.fr (mem_old hm_2595) (fun q9 => (fun e9 => absurd (((kd_nO (k := 1) hq_2645 hm_2595 hk_2596)).symm.trans ((congrArg (hK _) e9).trans (kd_nO' (k := 1)))) (by decide)) q9) (rd_nOR (k := 1) hq_2645 hm_2595 hv_2639)
  have hf_2741 : Fm (fun _ _ => False) (fun f9 b9 => b9 = h) (fun _ => False) S S_2696 := hf_2648.then hf_2698 (fun a9 ha9 => ⟨(fun f9 h9 => h9.elim), (fun f9 h9 => (fun h8 => absurd (h8 ▸ ha9) hz_2646) h9), (fun h9 => h9.elim)⟩)
  have hN_2742 : NL S (L_2586 ++ [q_2644]) S_2696 := NL.mono (show NL S (L_2586 ++ [q_2644]) (nO S_2592 q_2644 1) from NL.nO hN_2641 hq_2645 hz_2646) (fun a9 h9 => hf_2698.mem h9)
  have hG_2743 : Gs h gs_2590 S_2696 := Gs.fm (show Gs h gs_2590 (nO S_2592 q_2644 1) from Gs.nO hG_2642 hq_2645) hf_2698 (fun g9 hg9 p9 hp9 => gn_2647 g9 hg9 p9 hp9)
  have hE_2744 : ELs S_2696 q_161 [q_661, q_784, q_908, q_1032, q_1156, q_1280, q_1404, q_1528, q_1652, q_1776, q_1900, q_2024, q_2148, q_2272, q_2396, q_2520] := ELs.fm (ELs.nO (S := S_2592) hE_2643) hf_2698 (mem_old hm_2597) (fun h9 => h9)
  have hz_2745 : q_2649 ∉ hL S := fun h9 => e_2657 (hf_2648.mem h9)
  have hz_2746 : q_2650 ∉ hL S := fun h9 => e_2661 (hf_2648.mem h9)
  have hz_2747 : q_2651 ∉ hL S := fun h9 => e_2666 (hf_2648.mem h9)
  have hz_2748 : q_2652 ∉ hL S := fun h9 => e_2670 (hf_2648.mem h9)
  have hz_2749 : q_2653 ∉ hL S := fun h9 => e_2675 (hf_2648.mem h9)
  have hz_2750 : q_2654 ∉ hL S := fun h9 => e_2679 (hf_2648.mem h9)
  have hz_2751 : q_2655 ∉ hL S := fun h9 => e_2684 (hf_2648.mem h9)
  have hz_2752 : q_2656 ∉ hL S := fun h9 => e_2689 (hf_2648.mem h9)
  have hN_2753 : NL S ((L_2586 ++ [q_2644]) ++ [q_2649, q_2650, q_2651, q_2652, q_2653, q_2654, q_2655, q_2656]) S_2696 := NL.app (show NL S (L_2586 ++ [q_2644]) (nO S_2592 q_2644 1) from NL.nO hN_2641 hq_2645 hz_2646) hNl_2694 (fun a9 h9 => hf_2698.mem h9) (fun a9 h9 => hf_2648.mem h9)
  obtain ⟨L_2754, eL_2755⟩ : ∃ L9 : List Nat, L9 = ((L_2586 ++ [q_2644]) ++ [q_2649, q_2650, q_2651, q_2652, q_2653, q_2654, q_2655, q_2656]) := ⟨_, rfl⟩
  rw [← eL_2755] at hN_2753
  have hGt_2756 : Gt 2 [q_2644, q_2649, q_2650, q_2651, q_2652, q_2653, q_2654, q_2655, q_2656] S_2696 := ⟨fun i9 k9 h9 => (match i9, h9 with | 0, h9 => (by have e9 : (1 : Nat) = k9 := Option.some.inj h9; subst e9; exact ⟨hm_2710, hk_2711⟩) | 1, h9 => (by have e9 : (7 : Nat) = k9 := Option.some.inj h9; subst e9; exact ⟨e_2658, e_2659⟩) | 2, h9 => (by have e9 : (14 : Nat) = k9 := Option.some.inj h9; subst e9; exact ⟨e_2662, e_2663⟩) | 3, h9 => (by have e9 : (4 : Nat) = k9 := Option.some.inj h9; subst e9; exact ⟨e_2667, e_2668⟩) | 4, h9 => (by have e9 : (14 : Nat) = k9 := Option.some.inj h9; subst e9; exact ⟨e_2671, e_2672⟩) | 5, h9 => (by have e9 : (10 : Nat) = k9 := Option.some.inj h9; subst e9; exact ⟨e_2676, e_2677⟩) | 6, h9 => (by have e9 : (15 : Nat) = k9 := Option.some.inj h9; subst e9; exact ⟨e_2680, e_2681⟩) | 7, h9 => (by have e9 : (14 : Nat) = k9 := Option.some.inj h9; subst e9; exact ⟨e_2685, e_2686⟩) | 8, h9 => (by have e9 : (14 : Nat) = k9 := Option.some.inj h9; subst e9; exact ⟨e_2690, e_2691⟩) | i9 + 9, h9 => absurd h9 (by simp [gT])), (List.forall_mem_cons.mpr ⟨e_2664, (List.forall_mem_cons.mpr ⟨e_2673, (List.forall_mem_cons.mpr ⟨e_2682, (List.forall_mem_cons.mpr ⟨e_2687, (List.forall_mem_cons.mpr ⟨e_2692, (fun _ h9 => absurd h9 List.not_mem_nil)⟩)⟩)⟩)⟩)⟩), (List.forall_mem_cons.mpr ⟨e_2660, (List.forall_mem_cons.mpr ⟨e_2665, (List.forall_mem_cons.mpr ⟨e_2669, (List.forall_mem_cons.mpr ⟨e_2674, (List.forall_mem_cons.mpr ⟨e_2678, (List.forall_mem_cons.mpr ⟨e_2683, (List.forall_mem_cons.mpr ⟨e_2688, (List.forall_mem_cons.mpr ⟨e_2693, (fun _ h9 => absurd h9 List.not_mem_nil)⟩)⟩)⟩)⟩)⟩)⟩)⟩)⟩), (fun _ h9 => absurd h9 List.not_mem_nil)⟩
  have hG_2757 : Gs h (gs_2590 ++ [(2, [q_2644, q_2649, q_2650, q_2651, q_2652, q_2653, q_2654, q_2655, q_2656])]) S_2696 := Gs.snoc hG_2743 (by decide) hGt_2756 (List.forall_mem_cons.mpr ⟨(own_ne hz_2646 hm), (List.forall_mem_cons.mpr ⟨(own_ne hz_2745 hm), (List.forall_mem_cons.mpr ⟨(own_ne hz_2646 hm), (List.forall_mem_cons.mpr ⟨(own_ne hz_2747 hm), (List.forall_mem_cons.mpr ⟨(own_ne hz_2646 hm), (List.forall_mem_cons.mpr ⟨(own_ne hz_2749 hm), (List.forall_mem_cons.mpr ⟨(own_ne hz_2646 hm), (List.forall_mem_cons.mpr ⟨(own_ne hz_2646 hm), (fun _ h9 => absurd h9 List.not_mem_nil)⟩)⟩)⟩)⟩)⟩)⟩)⟩)⟩)
  obtain ⟨gs_2758, eG_2759⟩ : ∃ G9 : List (Nat × List Nat), G9 = gs_2590 ++ [(2, [q_2644, q_2649, q_2650, q_2651, q_2652, q_2653, q_2654, q_2655, q_2656])] := ⟨_, rfl⟩
  rw [← eG_2759] at hG_2757
  refine j_aast (j := 0) (ci := 1) C 18  (by decide) rfl dX9_init_189 hm_2718 hk_2719 (inr_of (n := 3) hn_2720 (vp_lit (by decide))) (by decide) hm_2710 hk_2711 rfl ?_
  have hf_2762 : Fm (fun _ _ => False) (fun f9 b9 => b9 = h) (fun _ => False) S (tR S_2696 q_524 0 (some q_2644)) := (hf_2741.tR _ _ (fun h9 => absurd h9 hz_527))
  obtain ⟨S_2760, eS_2761⟩ : ∃ S9 : Hp, S9 = (tR S_2696 q_524 0 (some q_2644)) := ⟨_, rfl⟩
  refine J.eq (S' := S_2760) eS_2761.symm rfl rfl ?_
  have hm_2763 : h ∈ hL S_2760 := by rw [eS_2761]; exact hm_2705
  have hk_2764 : Kd S_2760 h 9 := by rw [eS_2761]; exact hk_2706
  have hm_2765 : q_161 ∈ hL S_2760 := by rw [eS_2761]; exact hm_2707
  have hk_2766 : Kd S_2760 q_161 20 := by rw [eS_2761]; exact hk_2708
  have hn_2767 : Ln S_2760 q_161 16 := by rw [eS_2761]; exact hn_2709
  have hz_2768 : ∀ j, aI S_2760 q_161 j = 0 := by rw [eS_2761]; exact hz_2699
  have hm_2769 : q_2644 ∈ hL S_2760 := by rw [eS_2761]; exact hm_2710
  have hk_2770 : Kd S_2760 q_2644 1 := by rw [eS_2761]; exact hk_2711
  have hm_2771 : q_266 ∈ hL S_2760 := by rw [eS_2761]; exact hm_2712
  have hk_2772 : Kd S_2760 q_266 13 := by rw [eS_2761]; exact hk_2713
  have hn_2773 : Ln S_2760 q_266 24000 := by rw [eS_2761]; exact hn_2714
  have hz_2774 : ∀ j, aI S_2760 q_266 j = 0 := by rw [eS_2761]; exact hz_2700
  have hm_2775 : q_295 ∈ hL S_2760 := by rw [eS_2761]; exact hm_2715
  have hk_2776 : Kd S_2760 q_295 14 := by rw [eS_2761]; exact hk_2716
  have hn_2777 : Ln S_2760 q_295 16 := by rw [eS_2761]; exact hn_2717
  have hz_2778 : ∀ j, aI S_2760 q_295 j = 0 := by rw [eS_2761]; exact hz_2701
  have hm_2779 : q_524 ∈ hL S_2760 := by rw [eS_2761]; exact hm_2718
  have hk_2780 : Kd S_2760 q_524 18 := by rw [eS_2761]; exact hk_2719
  have hn_2781 : Ln S_2760 q_524 3 := by rw [eS_2761]; exact hn_2720
  have hz_2782 : ∀ j, aI S_2760 q_524 j = 0 := by rw [eS_2761]; exact hz_2702
  have hm_2783 : q_565 ∈ hL S_2760 := by rw [eS_2761]; exact hm_2721
  have hk_2784 : Kd S_2760 q_565 19 := by rw [eS_2761]; exact hk_2722
  have hn_2785 : Ln S_2760 q_565 4 := by rw [eS_2761]; exact hn_2723
  have hz_2786 : ∀ j, aI S_2760 q_565 j = 0 := by rw [eS_2761]; exact hz_2703
  have hm_2787 : q_610 ∈ hL S_2760 := by rw [eS_2761]; exact hm_2724
  have hk_2788 : Kd S_2760 q_610 14 := by rw [eS_2761]; exact hk_2725
  have hn_2789 : Ln S_2760 q_610 12 := by rw [eS_2761]; exact hn_2726
  have hz_2790 : ∀ j, aI S_2760 q_610 j = 0 := by rw [eS_2761]; exact hz_2704
  have hv_2791 : hR S_2760 100 q_2644 = (some q_2649) := by rw [eS_2761]; exact e_2660
  have hv_2792 : hR S_2760 101 q_2644 = (some q_2651) := by rw [eS_2761]; exact e_2669
  have hv_2793 : hR S_2760 102 q_2644 = (some q_2653) := by rw [eS_2761]; exact e_2678
  have hv_2794 : hR S_2760 103 q_2644 = (some q_2655) := by rw [eS_2761]; exact e_2688
  have hv_2795 : hR S_2760 104 q_2644 = (some q_2656) := by rw [eS_2761]; exact e_2693
  have hv_2796 : hR S_2760 900 h = (some s0) := by rw [eS_2761]; exact hv_2727
  have hv_2797 : hR S_2760 901 h = (some q_1) := by rw [eS_2761]; exact hv_2728
  have hv_2798 : hR S_2760 902 h = (some q_41) := by rw [eS_2761]; exact hv_2729
  have hv_2799 : hR S_2760 903 h = (some q_126) := by rw [eS_2761]; exact hv_2730
  have hv_2800 : hR S_2760 904 h = (some q_161) := by rw [eS_2761]; exact hv_2731
  have hv_2801 : hR S_2760 905 h = (some q_183) := by rw [eS_2761]; exact hv_2732
  have hv_2802 : hR S_2760 906 h = (some q_224) := by rw [eS_2761]; exact hv_2733
  have hv_2803 : hR S_2760 907 h = (some q_266) := by rw [eS_2761]; exact hv_2734
  have hv_2804 : hR S_2760 908 h = (some q_295) := by rw [eS_2761]; exact hv_2735
  have hv_2805 : hR S_2760 909 h = (some q_328) := by rw [eS_2761]; exact hv_2736
  have hv_2806 : hR S_2760 910 h = (some q_425) := by rw [eS_2761]; exact hv_2737
  have hv_2807 : hR S_2760 911 h = (some q_524) := by rw [eS_2761]; exact hv_2738
  have hv_2808 : hR S_2760 912 h = (some q_565) := by rw [eS_2761]; exact hv_2739
  have hv_2809 : hR S_2760 917 h = (some q_610) := by rw [eS_2761]; exact hv_2740
  have hf_2810 : Fm (fun _ _ => False) (fun f9 b9 => b9 = h) (fun _ => False) S S_2760 := by rw [eS_2761]; exact hf_2762
  have hN_2811 : NL S L_2754 S_2760 := by rw [eS_2761]; exact (NL.tR (S := S_2696) hN_2753)
  have hG_2812 : Gs h gs_2758 S_2760 := by rw [eS_2761]; exact (Gs.tR (S := S_2696) hG_2757)
  have hE_2813 : ELs S_2760 q_161 [q_661, q_784, q_908, q_1032, q_1156, q_1280, q_1404, q_1528, q_1652, q_1776, q_1900, q_2024, q_2148, q_2272, q_2396, q_2520] := by rw [eS_2761]; exact (ELs.tRx (S := S_2696) (fun e9 => absurd ((hk_2708).symm.trans ((congrArg (hK _) e9).trans hk_2719)) (by decide)) hE_2744)
  have hE_2814 : ELs S_2760 q_524 [q_2644] := by rw [eS_2761]; exact (show ELs (tR S_2696 q_524 0 (some q_2644)) q_524 [q_2644] from ELs.snoc (ELs.nil (S := S_2696) (a := q_524)) rfl)
  refine j_iinc (q := 0) (v := 1) (lv' := [(2, .int 1), (0, .ref h), (1, .ref s0)]) C dX9_init_190 rfl (by decide) (by rw [hn9]; decide) rfl ?_
  refine j_goto (tgt := 168) C dX9_init_193 (by decide) ?_
  refine j_iload_n C dX9_init_168 rfl 0 rfl ?_
  show J _ _ _ _ _ 169 _
  refine j_aload_n C dX9_init_169 rfl 1 rfl ?_
  refine j_getr (f := 911) (v := q_524) C flX9_64 dX9_init_170 hm_2763 hk_2764 (by decide) rfl hv_2807 ?_
  refine j_alen (v := 3) C dX9_init_173 hm_2779 hk_2780 (by decide) (by decide) (len_of (n := 3) hn_2781 (by decide)) ?_
  refine j_ic_ge (tgt := 196) C dX9_init_174 (by decide) (fun c9 => absurd c9 (by decide)) (fun c9 => ?_)
  refine j_aload_n C dX9_init_177 rfl 1 rfl ?_
  refine j_getr (f := 911) (v := q_524) C flX9_64 dX9_init_178 hm_2763 hk_2764 (by decide) rfl hv_2807 ?_
  refine j_iload_n C dX9_init_181 rfl 0 rfl ?_
  refine j_new (N := 21) C (ci := 1) rfl rfl klX9_54 knX1 kiX1 (M.cells (by decide)) (M.slots (by decide)) dX9_init_182 (fun q_2815 hq_2816 => ?_)
  have hz_2817 : q_2815 ∉ hL S := fun h9 => hq_2816 (hf_2810.mem h9)
  have gn_2818 : ∀ g9 ∈ gs_2758, ∀ p9 ∈ (gT g9.1).2.2, g9.2.getD p9.2.1 0 ≠ q_2815 := Gs.ne hG_2812 hq_2816
  show J _ _ _ _ _ 185 _
  refine j_dup C dX9_init_185 rfl ?_
  have hf_2819 : Fm (fun _ _ => False) (fun f9 b9 => b9 = h) (fun _ => False) S (nO S_2760 q_2815 1) := (hf_2810.nO _ hq_2816)
  refine j_callI C [] [.ref q_2815, .int 1, .ref q_524] mlX9_56 mcX1_init (c_X1_init (nO S_2760 q_2815 1) q_2815 mem_new (kd_nO' (k := 1))) (M.rm (by decide) (by decide) (Nat.le_of_ble_eq_true rfl) (Nat.le_of_ble_eq_true rfl)) rfl rfl (Nat.le_of_ble_eq_true rfl) dX9_init_186 (fun r_2866 S_2867 hp_2868 => ?_)
  obtain ⟨rfl, hf_2869, q_2820, q_2821, q_2822, q_2823, q_2824, q_2825, q_2826, q_2827, e_2828, e_2829, e_2830, e_2831, e_2832, e_2833, e_2834, e_2835, e_2836, e_2837, e_2838, e_2839, e_2840, e_2841, e_2842, e_2843, e_2844, e_2845, e_2846, e_2847, e_2848, e_2849, e_2850, e_2851, e_2852, e_2853, e_2854, e_2855, e_2856, e_2857, e_2858, e_2859, e_2860, e_2861, e_2862, e_2863, e_2864, hNl_2865⟩ := hp_2868
  refine J.eq (st' := [.ref q_2815, .int 1, .ref q_524]) rfl rfl rfl ?_
  have hz_2870 : ∀ j, aI S_2867 q_161 j = 0 := fun j9 => (hf_2869.ai (mem_old hm_2765) (fun h9 => h9) j9).trans (hz_2768 j9)
  have hz_2871 : ∀ j, aI S_2867 q_266 j = 0 := fun j9 => (hf_2869.ai (mem_old hm_2771) (fun h9 => h9) j9).trans (hz_2774 j9)
  have hz_2872 : ∀ j, aI S_2867 q_295 j = 0 := fun j9 => (hf_2869.ai (mem_old hm_2775) (fun h9 => h9) j9).trans (hz_2778 j9)
  have hz_2873 : ∀ j, aI S_2867 q_524 j = 0 := fun j9 => (hf_2869.ai (mem_old hm_2779) (fun h9 => h9) j9).trans (hz_2782 j9)
  have hz_2874 : ∀ j, aI S_2867 q_565 j = 0 := fun j9 => (hf_2869.ai (mem_old hm_2783) (fun h9 => h9) j9).trans (hz_2786 j9)
  have hz_2875 : ∀ j, aI S_2867 q_610 j = 0 := fun j9 => (hf_2869.ai (mem_old hm_2787) (fun h9 => h9) j9).trans (hz_2790 j9)
  have hm_2876 : h ∈ hL S_2867 := hf_2869.mem (mem_old hm_2763)
  have hk_2877 : Kd S_2867 h 9 := hf_2869.kd (mem_old hm_2763) (kd_nO (k := 1) hq_2816 hm_2763 hk_2764)
  have hm_2878 : q_161 ∈ hL S_2867 := hf_2869.mem (mem_old hm_2765)
  have hk_2879 : Kd S_2867 q_161 20 := hf_2869.kd (mem_old hm_2765) (kd_nO (k := 1) hq_2816 hm_2765 hk_2766)
  have hn_2880 : Ln S_2867 q_161 16 := hf_2869.ln (mem_old hm_2765) hn_2767
  have hm_2881 : q_266 ∈ hL S_2867 := hf_2869.mem (mem_old hm_2771)
  have hk_2882 : Kd S_2867 q_266 13 := hf_2869.kd (mem_old hm_2771) (kd_nO (k := 1) hq_2816 hm_2771 hk_2772)
  have hn_2883 : Ln S_2867 q_266 24000 := hf_2869.ln (mem_old hm_2771) hn_2773
  have hm_2884 : q_2815 ∈ hL S_2867 := hf_2869.mem mem_new
  have hk_2885 : Kd S_2867 q_2815 1 := hf_2869.kd mem_new (kd_nO' (k := 1))
  have hm_2886 : q_295 ∈ hL S_2867 := hf_2869.mem (mem_old hm_2775)
  have hk_2887 : Kd S_2867 q_295 14 := hf_2869.kd (mem_old hm_2775) (kd_nO (k := 1) hq_2816 hm_2775 hk_2776)
  have hn_2888 : Ln S_2867 q_295 16 := hf_2869.ln (mem_old hm_2775) hn_2777
  have hm_2889 : q_524 ∈ hL S_2867 := hf_2869.mem (mem_old hm_2779)
  have hk_2890 : Kd S_2867 q_524 18 := hf_2869.kd (mem_old hm_2779) (kd_nO (k := 1) hq_2816 hm_2779 hk_2780)
  have hn_2891 : Ln S_2867 q_524 3 := hf_2869.ln (mem_old hm_2779) hn_2781
  have hm_2892 : q_565 ∈ hL S_2867 := hf_2869.mem (mem_old hm_2783)
  have hk_2893 : Kd S_2867 q_565 19 := hf_2869.kd (mem_old hm_2783) (kd_nO (k := 1) hq_2816 hm_2783 hk_2784)
  have hn_2894 : Ln S_2867 q_565 4 := hf_2869.ln (mem_old hm_2783) hn_2785
  have hm_2895 : q_610 ∈ hL S_2867 := hf_2869.mem (mem_old hm_2787)
  have hk_2896 : Kd S_2867 q_610 14 := hf_2869.kd (mem_old hm_2787) (kd_nO (k := 1) hq_2816 hm_2787 hk_2788)
  have hn_2897 : Ln S_2867 q_610 12 := hf_2869.ln (mem_old hm_2787) hn_2789
  have hv_2898 : hR S_2867 900 h = (some s0) := hf_2869.fr (mem_old hm_2763) (fun q9 => (fun e9 => absurd (((kd_nO (k := 1) hq_2816 hm_2763 hk_2764)).symm.trans ((congrArg (hK _) e9).trans (kd_nO' (k := 1)))) (by decide)) q9) (rd_nOR (k := 1) hq_2816 hm_2763 hv_2796)
  have hv_2899 : hR S_2867 901 h = (some q_1) := hf_2869.fr (mem_old hm_2763) (fun q9 => (fun e9 => absurd (((kd_nO (k := 1) hq_2816 hm_2763 hk_2764)).symm.trans ((congrArg (hK _) e9).trans (kd_nO' (k := 1)))) (by decide)) q9) (rd_nOR (k := 1) hq_2816 hm_2763 hv_2797)
  have hv_2900 : hR S_2867 902 h = (some q_41) := hf_2869.fr (mem_old hm_2763) (fun q9 => (fun e9 => absurd (((kd_nO (k := 1) hq_2816 hm_2763 hk_2764)).symm.trans ((congrArg (hK _) e9).trans (kd_nO' (k := 1)))) (by decide)) q9) (rd_nOR (k := 1) hq_2816 hm_2763 hv_2798)
  have hv_2901 : hR S_2867 903 h = (some q_126) := hf_2869.fr (mem_old hm_2763) (fun q9 => (fun e9 => absurd (((kd_nO (k := 1) hq_2816 hm_2763 hk_2764)).symm.trans ((congrArg (hK _) e9).trans (kd_nO' (k := 1)))) (by decide)) q9) (rd_nOR (k := 1) hq_2816 hm_2763 hv_2799)
  have hv_2902 : hR S_2867 904 h = (some q_161) := hf_2869.fr (mem_old hm_2763) (fun q9 => (fun e9 => absurd (((kd_nO (k := 1) hq_2816 hm_2763 hk_2764)).symm.trans ((congrArg (hK _) e9).trans (kd_nO' (k := 1)))) (by decide)) q9) (rd_nOR (k := 1) hq_2816 hm_2763 hv_2800)
  have hv_2903 : hR S_2867 905 h = (some q_183) := hf_2869.fr (mem_old hm_2763) (fun q9 => (fun e9 => absurd (((kd_nO (k := 1) hq_2816 hm_2763 hk_2764)).symm.trans ((congrArg (hK _) e9).trans (kd_nO' (k := 1)))) (by decide)) q9) (rd_nOR (k := 1) hq_2816 hm_2763 hv_2801)
  have hv_2904 : hR S_2867 906 h = (some q_224) := hf_2869.fr (mem_old hm_2763) (fun q9 => (fun e9 => absurd (((kd_nO (k := 1) hq_2816 hm_2763 hk_2764)).symm.trans ((congrArg (hK _) e9).trans (kd_nO' (k := 1)))) (by decide)) q9) (rd_nOR (k := 1) hq_2816 hm_2763 hv_2802)
  have hv_2905 : hR S_2867 907 h = (some q_266) := hf_2869.fr (mem_old hm_2763) (fun q9 => (fun e9 => absurd (((kd_nO (k := 1) hq_2816 hm_2763 hk_2764)).symm.trans ((congrArg (hK _) e9).trans (kd_nO' (k := 1)))) (by decide)) q9) (rd_nOR (k := 1) hq_2816 hm_2763 hv_2803)
  have hv_2906 : hR S_2867 908 h = (some q_295) := hf_2869.fr (mem_old hm_2763) (fun q9 => (fun e9 => absurd (((kd_nO (k := 1) hq_2816 hm_2763 hk_2764)).symm.trans ((congrArg (hK _) e9).trans (kd_nO' (k := 1)))) (by decide)) q9) (rd_nOR (k := 1) hq_2816 hm_2763 hv_2804)
  have hv_2907 : hR S_2867 909 h = (some q_328) := hf_2869.fr (mem_old hm_2763) (fun q9 => (fun e9 => absurd (((kd_nO (k := 1) hq_2816 hm_2763 hk_2764)).symm.trans ((congrArg (hK _) e9).trans (kd_nO' (k := 1)))) (by decide)) q9) (rd_nOR (k := 1) hq_2816 hm_2763 hv_2805)
  have hv_2908 : hR S_2867 910 h = (some q_425) := hf_2869.fr (mem_old hm_2763) (fun q9 => (fun e9 => absurd (((kd_nO (k := 1) hq_2816 hm_2763 hk_2764)).symm.trans ((congrArg (hK _) e9).trans (kd_nO' (k := 1)))) (by decide)) q9) (rd_nOR (k := 1) hq_2816 hm_2763 hv_2806)
  have hv_2909 : hR S_2867 911 h = (some q_524) := hf_2869.fr (mem_old hm_2763) (fun q9 => (fun e9 => absurd (((kd_nO (k := 1) hq_2816 hm_2763 hk_2764)).symm.trans ((congrArg (hK _) e9).trans (kd_nO' (k := 1)))) (by decide)) q9) (rd_nOR (k := 1) hq_2816 hm_2763 hv_2807)
  have hv_2910 : hR S_2867 912 h = (some q_565) := hf_2869.fr (mem_old hm_2763) (fun q9 => (fun e9 => absurd (((kd_nO (k := 1) hq_2816 hm_2763 hk_2764)).symm.trans ((congrArg (hK _) e9).trans (kd_nO' (k := 1)))) (by decide)) q9) (rd_nOR (k := 1) hq_2816 hm_2763 hv_2808)
  have hv_2911 : hR S_2867 917 h = (some q_610) := hf_2869.fr (mem_old hm_2763) (fun q9 => (fun e9 => absurd (((kd_nO (k := 1) hq_2816 hm_2763 hk_2764)).symm.trans ((congrArg (hK _) e9).trans (kd_nO' (k := 1)))) (by decide)) q9) (rd_nOR (k := 1) hq_2816 hm_2763 hv_2809)
  have hf_2912 : Fm (fun _ _ => False) (fun f9 b9 => b9 = h) (fun _ => False) S S_2867 := hf_2819.then hf_2869 (fun a9 ha9 => ⟨(fun f9 h9 => h9.elim), (fun f9 h9 => (fun h8 => absurd (h8 ▸ ha9) hz_2817) h9), (fun h9 => h9.elim)⟩)
  have hN_2913 : NL S (L_2754 ++ [q_2815]) S_2867 := NL.mono (show NL S (L_2754 ++ [q_2815]) (nO S_2760 q_2815 1) from NL.nO hN_2811 hq_2816 hz_2817) (fun a9 h9 => hf_2869.mem h9)
  have hG_2914 : Gs h gs_2758 S_2867 := Gs.fm (show Gs h gs_2758 (nO S_2760 q_2815 1) from Gs.nO hG_2812 hq_2816) hf_2869 (fun g9 hg9 p9 hp9 => gn_2818 g9 hg9 p9 hp9)
  have hE_2915 : ELs S_2867 q_161 [q_661, q_784, q_908, q_1032, q_1156, q_1280, q_1404, q_1528, q_1652, q_1776, q_1900, q_2024, q_2148, q_2272, q_2396, q_2520] := ELs.fm (ELs.nO (S := S_2760) hE_2813) hf_2869 (mem_old hm_2765) (fun h9 => h9)
  have hE_2916 : ELs S_2867 q_524 [q_2644] := ELs.fm (ELs.nO (S := S_2760) hE_2814) hf_2869 (mem_old hm_2779) (fun h9 => h9)
  have hz_2917 : q_2820 ∉ hL S := fun h9 => e_2828 (hf_2819.mem h9)
  have hz_2918 : q_2821 ∉ hL S := fun h9 => e_2832 (hf_2819.mem h9)
  have hz_2919 : q_2822 ∉ hL S := fun h9 => e_2837 (hf_2819.mem h9)
  have hz_2920 : q_2823 ∉ hL S := fun h9 => e_2841 (hf_2819.mem h9)
  have hz_2921 : q_2824 ∉ hL S := fun h9 => e_2846 (hf_2819.mem h9)
  have hz_2922 : q_2825 ∉ hL S := fun h9 => e_2850 (hf_2819.mem h9)
  have hz_2923 : q_2826 ∉ hL S := fun h9 => e_2855 (hf_2819.mem h9)
  have hz_2924 : q_2827 ∉ hL S := fun h9 => e_2860 (hf_2819.mem h9)
  have hN_2925 : NL S ((L_2754 ++ [q_2815]) ++ [q_2820, q_2821, q_2822, q_2823, q_2824, q_2825, q_2826, q_2827]) S_2867 := NL.app (show NL S (L_2754 ++ [q_2815]) (nO S_2760 q_2815 1) from NL.nO hN_2811 hq_2816 hz_2817) hNl_2865 (fun a9 h9 => hf_2869.mem h9) (fun a9 h9 => hf_2819.mem h9)
  obtain ⟨L_2926, eL_2927⟩ : ∃ L9 : List Nat, L9 = ((L_2754 ++ [q_2815]) ++ [q_2820, q_2821, q_2822, q_2823, q_2824, q_2825, q_2826, q_2827]) := ⟨_, rfl⟩
  rw [← eL_2927] at hN_2925
  have hGt_2928 : Gt 2 [q_2815, q_2820, q_2821, q_2822, q_2823, q_2824, q_2825, q_2826, q_2827] S_2867 := ⟨fun i9 k9 h9 => (match i9, h9 with | 0, h9 => (by have e9 : (1 : Nat) = k9 := Option.some.inj h9; subst e9; exact ⟨hm_2884, hk_2885⟩) | 1, h9 => (by have e9 : (7 : Nat) = k9 := Option.some.inj h9; subst e9; exact ⟨e_2829, e_2830⟩) | 2, h9 => (by have e9 : (14 : Nat) = k9 := Option.some.inj h9; subst e9; exact ⟨e_2833, e_2834⟩) | 3, h9 => (by have e9 : (4 : Nat) = k9 := Option.some.inj h9; subst e9; exact ⟨e_2838, e_2839⟩) | 4, h9 => (by have e9 : (14 : Nat) = k9 := Option.some.inj h9; subst e9; exact ⟨e_2842, e_2843⟩) | 5, h9 => (by have e9 : (10 : Nat) = k9 := Option.some.inj h9; subst e9; exact ⟨e_2847, e_2848⟩) | 6, h9 => (by have e9 : (15 : Nat) = k9 := Option.some.inj h9; subst e9; exact ⟨e_2851, e_2852⟩) | 7, h9 => (by have e9 : (14 : Nat) = k9 := Option.some.inj h9; subst e9; exact ⟨e_2856, e_2857⟩) | 8, h9 => (by have e9 : (14 : Nat) = k9 := Option.some.inj h9; subst e9; exact ⟨e_2861, e_2862⟩) | i9 + 9, h9 => absurd h9 (by simp [gT])), (List.forall_mem_cons.mpr ⟨e_2835, (List.forall_mem_cons.mpr ⟨e_2844, (List.forall_mem_cons.mpr ⟨e_2853, (List.forall_mem_cons.mpr ⟨e_2858, (List.forall_mem_cons.mpr ⟨e_2863, (fun _ h9 => absurd h9 List.not_mem_nil)⟩)⟩)⟩)⟩)⟩), (List.forall_mem_cons.mpr ⟨e_2831, (List.forall_mem_cons.mpr ⟨e_2836, (List.forall_mem_cons.mpr ⟨e_2840, (List.forall_mem_cons.mpr ⟨e_2845, (List.forall_mem_cons.mpr ⟨e_2849, (List.forall_mem_cons.mpr ⟨e_2854, (List.forall_mem_cons.mpr ⟨e_2859, (List.forall_mem_cons.mpr ⟨e_2864, (fun _ h9 => absurd h9 List.not_mem_nil)⟩)⟩)⟩)⟩)⟩)⟩)⟩)⟩), (fun _ h9 => absurd h9 List.not_mem_nil)⟩
  have hG_2929 : Gs h (gs_2758 ++ [(2, [q_2815, q_2820, q_2821, q_2822, q_2823, q_2824, q_2825, q_2826, q_2827])]) S_2867 := Gs.snoc hG_2914 (by decide) hGt_2928 (List.forall_mem_cons.mpr ⟨(own_ne hz_2817 hm), (List.forall_mem_cons.mpr ⟨(own_ne hz_2917 hm), (List.forall_mem_cons.mpr ⟨(own_ne hz_2817 hm), (List.forall_mem_cons.mpr ⟨(own_ne hz_2919 hm), (List.forall_mem_cons.mpr ⟨(own_ne hz_2817 hm), (List.forall_mem_cons.mpr ⟨(own_ne hz_2921 hm), (List.forall_mem_cons.mpr ⟨(own_ne hz_2817 hm), (List.forall_mem_cons.mpr ⟨(own_ne hz_2817 hm), (fun _ h9 => absurd h9 List.not_mem_nil)⟩)⟩)⟩)⟩)⟩)⟩)⟩)⟩)
  obtain ⟨gs_2930, eG_2931⟩ : ∃ G9 : List (Nat × List Nat), G9 = gs_2758 ++ [(2, [q_2815, q_2820, q_2821, q_2822, q_2823, q_2824, q_2825, q_2826, q_2827])] := ⟨_, rfl⟩
  rw [← eG_2931] at hG_2929
  refine j_aast (j := 1) (ci := 1) C 18  (by decide) rfl dX9_init_189 hm_2889 hk_2890 (inr_of (n := 3) hn_2891 (vp_lit (by decide))) (by decide) hm_2884 hk_2885 rfl ?_
  have hf_2934 : Fm (fun _ _ => False) (fun f9 b9 => b9 = h) (fun _ => False) S (tR S_2867 q_524 1 (some q_2815)) := (hf_2912.tR _ _ (fun h9 => absurd h9 hz_527))
  obtain ⟨S_2932, eS_2933⟩ : ∃ S9 : Hp, S9 = (tR S_2867 q_524 1 (some q_2815)) := ⟨_, rfl⟩
  refine J.eq (S' := S_2932) eS_2933.symm rfl rfl ?_
  have hm_2935 : h ∈ hL S_2932 := by rw [eS_2933]; exact hm_2876
  have hk_2936 : Kd S_2932 h 9 := by rw [eS_2933]; exact hk_2877
  have hm_2937 : q_161 ∈ hL S_2932 := by rw [eS_2933]; exact hm_2878
  have hk_2938 : Kd S_2932 q_161 20 := by rw [eS_2933]; exact hk_2879
  have hn_2939 : Ln S_2932 q_161 16 := by rw [eS_2933]; exact hn_2880
  have hz_2940 : ∀ j, aI S_2932 q_161 j = 0 := by rw [eS_2933]; exact hz_2870
  have hm_2941 : q_266 ∈ hL S_2932 := by rw [eS_2933]; exact hm_2881
  have hk_2942 : Kd S_2932 q_266 13 := by rw [eS_2933]; exact hk_2882
  have hn_2943 : Ln S_2932 q_266 24000 := by rw [eS_2933]; exact hn_2883
  have hz_2944 : ∀ j, aI S_2932 q_266 j = 0 := by rw [eS_2933]; exact hz_2871
  have hm_2945 : q_2815 ∈ hL S_2932 := by rw [eS_2933]; exact hm_2884
  have hk_2946 : Kd S_2932 q_2815 1 := by rw [eS_2933]; exact hk_2885
  have hm_2947 : q_295 ∈ hL S_2932 := by rw [eS_2933]; exact hm_2886
  have hk_2948 : Kd S_2932 q_295 14 := by rw [eS_2933]; exact hk_2887
  have hn_2949 : Ln S_2932 q_295 16 := by rw [eS_2933]; exact hn_2888
  have hz_2950 : ∀ j, aI S_2932 q_295 j = 0 := by rw [eS_2933]; exact hz_2872
  have hm_2951 : q_524 ∈ hL S_2932 := by rw [eS_2933]; exact hm_2889
  have hk_2952 : Kd S_2932 q_524 18 := by rw [eS_2933]; exact hk_2890
  have hn_2953 : Ln S_2932 q_524 3 := by rw [eS_2933]; exact hn_2891
  have hz_2954 : ∀ j, aI S_2932 q_524 j = 0 := by rw [eS_2933]; exact hz_2873
  have hm_2955 : q_565 ∈ hL S_2932 := by rw [eS_2933]; exact hm_2892
  have hk_2956 : Kd S_2932 q_565 19 := by rw [eS_2933]; exact hk_2893
  have hn_2957 : Ln S_2932 q_565 4 := by rw [eS_2933]; exact hn_2894
  have hz_2958 : ∀ j, aI S_2932 q_565 j = 0 := by rw [eS_2933]; exact hz_2874
  have hm_2959 : q_610 ∈ hL S_2932 := by rw [eS_2933]; exact hm_2895
  have hk_2960 : Kd S_2932 q_610 14 := by rw [eS_2933]; exact hk_2896
  have hn_2961 : Ln S_2932 q_610 12 := by rw [eS_2933]; exact hn_2897
  have hz_2962 : ∀ j, aI S_2932 q_610 j = 0 := by rw [eS_2933]; exact hz_2875
  have hv_2963 : hR S_2932 100 q_2815 = (some q_2820) := by rw [eS_2933]; exact e_2831
  have hv_2964 : hR S_2932 101 q_2815 = (some q_2822) := by rw [eS_2933]; exact e_2840
  have hv_2965 : hR S_2932 102 q_2815 = (some q_2824) := by rw [eS_2933]; exact e_2849
  have hv_2966 : hR S_2932 103 q_2815 = (some q_2826) := by rw [eS_2933]; exact e_2859
  have hv_2967 : hR S_2932 104 q_2815 = (some q_2827) := by rw [eS_2933]; exact e_2864
  have hv_2968 : hR S_2932 900 h = (some s0) := by rw [eS_2933]; exact hv_2898
  have hv_2969 : hR S_2932 901 h = (some q_1) := by rw [eS_2933]; exact hv_2899
  have hv_2970 : hR S_2932 902 h = (some q_41) := by rw [eS_2933]; exact hv_2900
  have hv_2971 : hR S_2932 903 h = (some q_126) := by rw [eS_2933]; exact hv_2901
  have hv_2972 : hR S_2932 904 h = (some q_161) := by rw [eS_2933]; exact hv_2902
  have hv_2973 : hR S_2932 905 h = (some q_183) := by rw [eS_2933]; exact hv_2903
  have hv_2974 : hR S_2932 906 h = (some q_224) := by rw [eS_2933]; exact hv_2904
  have hv_2975 : hR S_2932 907 h = (some q_266) := by rw [eS_2933]; exact hv_2905
  have hv_2976 : hR S_2932 908 h = (some q_295) := by rw [eS_2933]; exact hv_2906
  have hv_2977 : hR S_2932 909 h = (some q_328) := by rw [eS_2933]; exact hv_2907
  have hv_2978 : hR S_2932 910 h = (some q_425) := by rw [eS_2933]; exact hv_2908
  have hv_2979 : hR S_2932 911 h = (some q_524) := by rw [eS_2933]; exact hv_2909
  have hv_2980 : hR S_2932 912 h = (some q_565) := by rw [eS_2933]; exact hv_2910
  have hv_2981 : hR S_2932 917 h = (some q_610) := by rw [eS_2933]; exact hv_2911
  have hf_2982 : Fm (fun _ _ => False) (fun f9 b9 => b9 = h) (fun _ => False) S S_2932 := by rw [eS_2933]; exact hf_2934
  have hN_2983 : NL S L_2926 S_2932 := by rw [eS_2933]; exact (NL.tR (S := S_2867) hN_2925)
  have hG_2984 : Gs h gs_2930 S_2932 := by rw [eS_2933]; exact (Gs.tR (S := S_2867) hG_2929)
  have hE_2985 : ELs S_2932 q_161 [q_661, q_784, q_908, q_1032, q_1156, q_1280, q_1404, q_1528, q_1652, q_1776, q_1900, q_2024, q_2148, q_2272, q_2396, q_2520] := by rw [eS_2933]; exact (ELs.tRx (S := S_2867) (fun e9 => absurd ((hk_2879).symm.trans ((congrArg (hK _) e9).trans hk_2890)) (by decide)) hE_2915)
  have hE_2986 : ELs S_2932 q_524 [q_2644, q_2815] := by rw [eS_2933]; exact (show ELs (tR S_2867 q_524 1 (some q_2815)) q_524 [q_2644, q_2815] from ELs.snoc hE_2916 rfl)
  refine j_iinc (q := 0) (v := 2) (lv' := [(2, .int 2), (0, .ref h), (1, .ref s0)]) C dX9_init_190 rfl (by decide) (by rw [hn9]; decide) rfl ?_
  refine j_goto (tgt := 168) C dX9_init_193 (by decide) ?_
  refine j_iload_n C dX9_init_168 rfl 0 rfl ?_
  refine j_aload_n C dX9_init_169 rfl 1 rfl ?_
  refine j_getr (f := 911) (v := q_524) C flX9_64 dX9_init_170 hm_2935 hk_2936 (by decide) rfl hv_2979 ?_
  show J _ _ _ _ _ 173 _
  refine j_alen (v := 3) C dX9_init_173 hm_2951 hk_2952 (by decide) (by decide) (len_of (n := 3) hn_2953 (by decide)) ?_
  refine j_ic_ge (tgt := 196) C dX9_init_174 (by decide) (fun c9 => absurd c9 (by decide)) (fun c9 => ?_)
  refine j_aload_n C dX9_init_177 rfl 1 rfl ?_
  refine j_getr (f := 911) (v := q_524) C flX9_64 dX9_init_178 hm_2935 hk_2936 (by decide) rfl hv_2979 ?_
  refine j_iload_n C dX9_init_181 rfl 0 rfl ?_
  refine j_new (N := 21) C (ci := 1) rfl rfl klX9_54 knX1 kiX1 (M.cells (by decide)) (M.slots (by decide)) dX9_init_182 (fun q_2987 hq_2988 => ?_)
  have hz_2989 : q_2987 ∉ hL S := fun h9 => hq_2988 (hf_2982.mem h9)
  have gn_2990 : ∀ g9 ∈ gs_2930, ∀ p9 ∈ (gT g9.1).2.2, g9.2.getD p9.2.1 0 ≠ q_2987 := Gs.ne hG_2984 hq_2988
  refine j_dup C dX9_init_185 rfl ?_
  have hf_2991 : Fm (fun _ _ => False) (fun f9 b9 => b9 = h) (fun _ => False) S (nO S_2932 q_2987 1) := (hf_2982.nO _ hq_2988)
  refine j_callI C [] [.ref q_2987, .int 2, .ref q_524] mlX9_56 mcX1_init (c_X1_init (nO S_2932 q_2987 1) q_2987 mem_new (kd_nO' (k := 1))) (M.rm (by decide) (by decide) (Nat.le_of_ble_eq_true rfl) (Nat.le_of_ble_eq_true rfl)) rfl rfl (Nat.le_of_ble_eq_true rfl) dX9_init_186 (fun r_3038 S_3039 hp_3040 => ?_)
  obtain ⟨rfl, hf_3041, q_2992, q_2993, q_2994, q_2995, q_2996, q_2997, q_2998, q_2999, e_3000, e_3001, e_3002, e_3003, e_3004, e_3005, e_3006, e_3007, e_3008, e_3009, e_3010, e_3011, e_3012, e_3013, e_3014, e_3015, e_3016, e_3017, e_3018, e_3019, e_3020, e_3021, e_3022, e_3023, e_3024, e_3025, e_3026, e_3027, e_3028, e_3029, e_3030, e_3031, e_3032, e_3033, e_3034, e_3035, e_3036, hNl_3037⟩ := hp_3040
  refine J.eq (st' := [.ref q_2987, .int 2, .ref q_524]) rfl rfl rfl ?_
  have hz_3042 : ∀ j, aI S_3039 q_161 j = 0 := fun j9 => (hf_3041.ai (mem_old hm_2937) (fun h9 => h9) j9).trans (hz_2940 j9)
  have hz_3043 : ∀ j, aI S_3039 q_266 j = 0 := fun j9 => (hf_3041.ai (mem_old hm_2941) (fun h9 => h9) j9).trans (hz_2944 j9)
  have hz_3044 : ∀ j, aI S_3039 q_295 j = 0 := fun j9 => (hf_3041.ai (mem_old hm_2947) (fun h9 => h9) j9).trans (hz_2950 j9)
  have hz_3045 : ∀ j, aI S_3039 q_524 j = 0 := fun j9 => (hf_3041.ai (mem_old hm_2951) (fun h9 => h9) j9).trans (hz_2954 j9)
  have hz_3046 : ∀ j, aI S_3039 q_565 j = 0 := fun j9 => (hf_3041.ai (mem_old hm_2955) (fun h9 => h9) j9).trans (hz_2958 j9)
  have hz_3047 : ∀ j, aI S_3039 q_610 j = 0 := fun j9 => (hf_3041.ai (mem_old hm_2959) (fun h9 => h9) j9).trans (hz_2962 j9)
  have hm_3048 : h ∈ hL S_3039 := hf_3041.mem (mem_old hm_2935)
  have hk_3049 : Kd S_3039 h 9 := hf_3041.kd (mem_old hm_2935) (kd_nO (k := 1) hq_2988 hm_2935 hk_2936)
  have hm_3050 : q_161 ∈ hL S_3039 := hf_3041.mem (mem_old hm_2937)
  have hk_3051 : Kd S_3039 q_161 20 := hf_3041.kd (mem_old hm_2937) (kd_nO (k := 1) hq_2988 hm_2937 hk_2938)
  have hn_3052 : Ln S_3039 q_161 16 := hf_3041.ln (mem_old hm_2937) hn_2939
  have hm_3053 : q_266 ∈ hL S_3039 := hf_3041.mem (mem_old hm_2941)
  have hk_3054 : Kd S_3039 q_266 13 := hf_3041.kd (mem_old hm_2941) (kd_nO (k := 1) hq_2988 hm_2941 hk_2942)
  have hn_3055 : Ln S_3039 q_266 24000 := hf_3041.ln (mem_old hm_2941) hn_2943
  have hm_3056 : q_295 ∈ hL S_3039 := hf_3041.mem (mem_old hm_2947)
  have hk_3057 : Kd S_3039 q_295 14 := hf_3041.kd (mem_old hm_2947) (kd_nO (k := 1) hq_2988 hm_2947 hk_2948)
  have hn_3058 : Ln S_3039 q_295 16 := hf_3041.ln (mem_old hm_2947) hn_2949
  have hm_3059 : q_2987 ∈ hL S_3039 := hf_3041.mem mem_new
  have hk_3060 : Kd S_3039 q_2987 1 := hf_3041.kd mem_new (kd_nO' (k := 1))
  have hm_3061 : q_524 ∈ hL S_3039 := hf_3041.mem (mem_old hm_2951)
  have hk_3062 : Kd S_3039 q_524 18 := hf_3041.kd (mem_old hm_2951) (kd_nO (k := 1) hq_2988 hm_2951 hk_2952)
  have hn_3063 : Ln S_3039 q_524 3 := hf_3041.ln (mem_old hm_2951) hn_2953
  have hm_3064 : q_565 ∈ hL S_3039 := hf_3041.mem (mem_old hm_2955)
  have hk_3065 : Kd S_3039 q_565 19 := hf_3041.kd (mem_old hm_2955) (kd_nO (k := 1) hq_2988 hm_2955 hk_2956)
  have hn_3066 : Ln S_3039 q_565 4 := hf_3041.ln (mem_old hm_2955) hn_2957
  have hm_3067 : q_610 ∈ hL S_3039 := hf_3041.mem (mem_old hm_2959)
  have hk_3068 : Kd S_3039 q_610 14 := hf_3041.kd (mem_old hm_2959) (kd_nO (k := 1) hq_2988 hm_2959 hk_2960)
  have hn_3069 : Ln S_3039 q_610 12 := hf_3041.ln (mem_old hm_2959) hn_2961
  have hv_3070 : hR S_3039 900 h = (some s0) := hf_3041.fr (mem_old hm_2935) (fun q9 => (fun e9 => absurd (((kd_nO (k := 1) hq_2988 hm_2935 hk_2936)).symm.trans ((congrArg (hK _) e9).trans (kd_nO' (k := 1)))) (by decide)) q9) (rd_nOR (k := 1) hq_2988 hm_2935 hv_2968)
  have hv_3071 : hR S_3039 901 h = (some q_1) := hf_3041.fr (mem_old hm_2935) (fun q9 => (fun e9 => absurd (((kd_nO (k := 1) hq_2988 hm_2935 hk_2936)).symm.trans ((congrArg (hK _) e9).trans (kd_nO' (k := 1)))) (by decide)) q9) (rd_nOR (k := 1) hq_2988 hm_2935 hv_2969)
  have hv_3072 : hR S_3039 902 h = (some q_41) := hf_3041.fr (mem_old hm_2935) (fun q9 => (fun e9 => absurd (((kd_nO (k := 1) hq_2988 hm_2935 hk_2936)).symm.trans ((congrArg (hK _) e9).trans (kd_nO' (k := 1)))) (by decide)) q9) (rd_nOR (k := 1) hq_2988 hm_2935 hv_2970)
  have hv_3073 : hR S_3039 903 h = (some q_126) := hf_3041.fr (mem_old hm_2935) (fun q9 => (fun e9 => absurd (((kd_nO (k := 1) hq_2988 hm_2935 hk_2936)).symm.trans ((congrArg (hK _) e9).trans (kd_nO' (k := 1)))) (by decide)) q9) (rd_nOR (k := 1) hq_2988 hm_2935 hv_2971)
  have hv_3074 : hR S_3039 904 h = (some q_161) := hf_3041.fr (mem_old hm_2935) (fun q9 => (fun e9 => absurd (((kd_nO (k := 1) hq_2988 hm_2935 hk_2936)).symm.trans ((congrArg (hK _) e9).trans (kd_nO' (k := 1)))) (by decide)) q9) (rd_nOR (k := 1) hq_2988 hm_2935 hv_2972)
  have hv_3075 : hR S_3039 905 h = (some q_183) := hf_3041.fr (mem_old hm_2935) (fun q9 => (fun e9 => absurd (((kd_nO (k := 1) hq_2988 hm_2935 hk_2936)).symm.trans ((congrArg (hK _) e9).trans (kd_nO' (k := 1)))) (by decide)) q9) (rd_nOR (k := 1) hq_2988 hm_2935 hv_2973)
  have hv_3076 : hR S_3039 906 h = (some q_224) := hf_3041.fr (mem_old hm_2935) (fun q9 => (fun e9 => absurd (((kd_nO (k := 1) hq_2988 hm_2935 hk_2936)).symm.trans ((congrArg (hK _) e9).trans (kd_nO' (k := 1)))) (by decide)) q9) (rd_nOR (k := 1) hq_2988 hm_2935 hv_2974)
  have hv_3077 : hR S_3039 907 h = (some q_266) := hf_3041.fr (mem_old hm_2935) (fun q9 => (fun e9 => absurd (((kd_nO (k := 1) hq_2988 hm_2935 hk_2936)).symm.trans ((congrArg (hK _) e9).trans (kd_nO' (k := 1)))) (by decide)) q9) (rd_nOR (k := 1) hq_2988 hm_2935 hv_2975)
  have hv_3078 : hR S_3039 908 h = (some q_295) := hf_3041.fr (mem_old hm_2935) (fun q9 => (fun e9 => absurd (((kd_nO (k := 1) hq_2988 hm_2935 hk_2936)).symm.trans ((congrArg (hK _) e9).trans (kd_nO' (k := 1)))) (by decide)) q9) (rd_nOR (k := 1) hq_2988 hm_2935 hv_2976)
  have hv_3079 : hR S_3039 909 h = (some q_328) := hf_3041.fr (mem_old hm_2935) (fun q9 => (fun e9 => absurd (((kd_nO (k := 1) hq_2988 hm_2935 hk_2936)).symm.trans ((congrArg (hK _) e9).trans (kd_nO' (k := 1)))) (by decide)) q9) (rd_nOR (k := 1) hq_2988 hm_2935 hv_2977)
  have hv_3080 : hR S_3039 910 h = (some q_425) := hf_3041.fr (mem_old hm_2935) (fun q9 => (fun e9 => absurd (((kd_nO (k := 1) hq_2988 hm_2935 hk_2936)).symm.trans ((congrArg (hK _) e9).trans (kd_nO' (k := 1)))) (by decide)) q9) (rd_nOR (k := 1) hq_2988 hm_2935 hv_2978)
  have hv_3081 : hR S_3039 911 h = (some q_524) := hf_3041.fr (mem_old hm_2935) (fun q9 => (fun e9 => absurd (((kd_nO (k := 1) hq_2988 hm_2935 hk_2936)).symm.trans ((congrArg (hK _) e9).trans (kd_nO' (k := 1)))) (by decide)) q9) (rd_nOR (k := 1) hq_2988 hm_2935 hv_2979)
  have hv_3082 : hR S_3039 912 h = (some q_565) := hf_3041.fr (mem_old hm_2935) (fun q9 => (fun e9 => absurd (((kd_nO (k := 1) hq_2988 hm_2935 hk_2936)).symm.trans ((congrArg (hK _) e9).trans (kd_nO' (k := 1)))) (by decide)) q9) (rd_nOR (k := 1) hq_2988 hm_2935 hv_2980)
  have hv_3083 : hR S_3039 917 h = (some q_610) := hf_3041.fr (mem_old hm_2935) (fun q9 => (fun e9 => absurd (((kd_nO (k := 1) hq_2988 hm_2935 hk_2936)).symm.trans ((congrArg (hK _) e9).trans (kd_nO' (k := 1)))) (by decide)) q9) (rd_nOR (k := 1) hq_2988 hm_2935 hv_2981)
  have hf_3084 : Fm (fun _ _ => False) (fun f9 b9 => b9 = h) (fun _ => False) S S_3039 := hf_2991.then hf_3041 (fun a9 ha9 => ⟨(fun f9 h9 => h9.elim), (fun f9 h9 => (fun h8 => absurd (h8 ▸ ha9) hz_2989) h9), (fun h9 => h9.elim)⟩)
  have hN_3085 : NL S (L_2926 ++ [q_2987]) S_3039 := NL.mono (show NL S (L_2926 ++ [q_2987]) (nO S_2932 q_2987 1) from NL.nO hN_2983 hq_2988 hz_2989) (fun a9 h9 => hf_3041.mem h9)
  have hG_3086 : Gs h gs_2930 S_3039 := Gs.fm (show Gs h gs_2930 (nO S_2932 q_2987 1) from Gs.nO hG_2984 hq_2988) hf_3041 (fun g9 hg9 p9 hp9 => gn_2990 g9 hg9 p9 hp9)
  have hE_3087 : ELs S_3039 q_161 [q_661, q_784, q_908, q_1032, q_1156, q_1280, q_1404, q_1528, q_1652, q_1776, q_1900, q_2024, q_2148, q_2272, q_2396, q_2520] := ELs.fm (ELs.nO (S := S_2932) hE_2985) hf_3041 (mem_old hm_2937) (fun h9 => h9)
  have hE_3088 : ELs S_3039 q_524 [q_2644, q_2815] := ELs.fm (ELs.nO (S := S_2932) hE_2986) hf_3041 (mem_old hm_2951) (fun h9 => h9)
  have hz_3089 : q_2992 ∉ hL S := fun h9 => e_3000 (hf_2991.mem h9)
  have hz_3090 : q_2993 ∉ hL S := fun h9 => e_3004 (hf_2991.mem h9)
  have hz_3091 : q_2994 ∉ hL S := fun h9 => e_3009 (hf_2991.mem h9)
  have hz_3092 : q_2995 ∉ hL S := fun h9 => e_3013 (hf_2991.mem h9)
  have hz_3093 : q_2996 ∉ hL S := fun h9 => e_3018 (hf_2991.mem h9)
  have hz_3094 : q_2997 ∉ hL S := fun h9 => e_3022 (hf_2991.mem h9)
  have hz_3095 : q_2998 ∉ hL S := fun h9 => e_3027 (hf_2991.mem h9)
  have hz_3096 : q_2999 ∉ hL S := fun h9 => e_3032 (hf_2991.mem h9)
  have hN_3097 : NL S ((L_2926 ++ [q_2987]) ++ [q_2992, q_2993, q_2994, q_2995, q_2996, q_2997, q_2998, q_2999]) S_3039 := NL.app (show NL S (L_2926 ++ [q_2987]) (nO S_2932 q_2987 1) from NL.nO hN_2983 hq_2988 hz_2989) hNl_3037 (fun a9 h9 => hf_3041.mem h9) (fun a9 h9 => hf_2991.mem h9)
  obtain ⟨L_3098, eL_3099⟩ : ∃ L9 : List Nat, L9 = ((L_2926 ++ [q_2987]) ++ [q_2992, q_2993, q_2994, q_2995, q_2996, q_2997, q_2998, q_2999]) := ⟨_, rfl⟩
  rw [← eL_3099] at hN_3097
  have hGt_3100 : Gt 2 [q_2987, q_2992, q_2993, q_2994, q_2995, q_2996, q_2997, q_2998, q_2999] S_3039 := ⟨fun i9 k9 h9 => (match i9, h9 with | 0, h9 => (by have e9 : (1 : Nat) = k9 := Option.some.inj h9; subst e9; exact ⟨hm_3059, hk_3060⟩) | 1, h9 => (by have e9 : (7 : Nat) = k9 := Option.some.inj h9; subst e9; exact ⟨e_3001, e_3002⟩) | 2, h9 => (by have e9 : (14 : Nat) = k9 := Option.some.inj h9; subst e9; exact ⟨e_3005, e_3006⟩) | 3, h9 => (by have e9 : (4 : Nat) = k9 := Option.some.inj h9; subst e9; exact ⟨e_3010, e_3011⟩) | 4, h9 => (by have e9 : (14 : Nat) = k9 := Option.some.inj h9; subst e9; exact ⟨e_3014, e_3015⟩) | 5, h9 => (by have e9 : (10 : Nat) = k9 := Option.some.inj h9; subst e9; exact ⟨e_3019, e_3020⟩) | 6, h9 => (by have e9 : (15 : Nat) = k9 := Option.some.inj h9; subst e9; exact ⟨e_3023, e_3024⟩) | 7, h9 => (by have e9 : (14 : Nat) = k9 := Option.some.inj h9; subst e9; exact ⟨e_3028, e_3029⟩) | 8, h9 => (by have e9 : (14 : Nat) = k9 := Option.some.inj h9; subst e9; exact ⟨e_3033, e_3034⟩) | i9 + 9, h9 => absurd h9 (by simp [gT])), (List.forall_mem_cons.mpr ⟨e_3007, (List.forall_mem_cons.mpr ⟨e_3016, (List.forall_mem_cons.mpr ⟨e_3025, (List.forall_mem_cons.mpr ⟨e_3030, (List.forall_mem_cons.mpr ⟨e_3035, (fun _ h9 => absurd h9 List.not_mem_nil)⟩)⟩)⟩)⟩)⟩), (List.forall_mem_cons.mpr ⟨e_3003, (List.forall_mem_cons.mpr ⟨e_3008, (List.forall_mem_cons.mpr ⟨e_3012, (List.forall_mem_cons.mpr ⟨e_3017, (List.forall_mem_cons.mpr ⟨e_3021, (List.forall_mem_cons.mpr ⟨e_3026, (List.forall_mem_cons.mpr ⟨e_3031, (List.forall_mem_cons.mpr ⟨e_3036, (fun _ h9 => absurd h9 List.not_mem_nil)⟩)⟩)⟩)⟩)⟩)⟩)⟩)⟩), (fun _ h9 => absurd h9 List.not_mem_nil)⟩
  have hG_3101 : Gs h (gs_2930 ++ [(2, [q_2987, q_2992, q_2993, q_2994, q_2995, q_2996, q_2997, q_2998, q_2999])]) S_3039 := Gs.snoc hG_3086 (by decide) hGt_3100 (List.forall_mem_cons.mpr ⟨(own_ne hz_2989 hm), (List.forall_mem_cons.mpr ⟨(own_ne hz_3089 hm), (List.forall_mem_cons.mpr ⟨(own_ne hz_2989 hm), (List.forall_mem_cons.mpr ⟨(own_ne hz_3091 hm), (List.forall_mem_cons.mpr ⟨(own_ne hz_2989 hm), (List.forall_mem_cons.mpr ⟨(own_ne hz_3093 hm), (List.forall_mem_cons.mpr ⟨(own_ne hz_2989 hm), (List.forall_mem_cons.mpr ⟨(own_ne hz_2989 hm), (fun _ h9 => absurd h9 List.not_mem_nil)⟩)⟩)⟩)⟩)⟩)⟩)⟩)⟩)
  obtain ⟨gs_3102, eG_3103⟩ : ∃ G9 : List (Nat × List Nat), G9 = gs_2930 ++ [(2, [q_2987, q_2992, q_2993, q_2994, q_2995, q_2996, q_2997, q_2998, q_2999])] := ⟨_, rfl⟩
  rw [← eG_3103] at hG_3101
  show J _ _ _ _ _ 189 _
  refine j_aast (j := 2) (ci := 1) C 18  (by decide) rfl dX9_init_189 hm_3061 hk_3062 (inr_of (n := 3) hn_3063 (vp_lit (by decide))) (by decide) hm_3059 hk_3060 rfl ?_
  have hf_3106 : Fm (fun _ _ => False) (fun f9 b9 => b9 = h) (fun _ => False) S (tR S_3039 q_524 2 (some q_2987)) := (hf_3084.tR _ _ (fun h9 => absurd h9 hz_527))
  obtain ⟨S_3104, eS_3105⟩ : ∃ S9 : Hp, S9 = (tR S_3039 q_524 2 (some q_2987)) := ⟨_, rfl⟩
  refine J.eq (S' := S_3104) eS_3105.symm rfl rfl ?_
  have hm_3107 : h ∈ hL S_3104 := by rw [eS_3105]; exact hm_3048
  have hk_3108 : Kd S_3104 h 9 := by rw [eS_3105]; exact hk_3049
  have hm_3109 : q_161 ∈ hL S_3104 := by rw [eS_3105]; exact hm_3050
  have hk_3110 : Kd S_3104 q_161 20 := by rw [eS_3105]; exact hk_3051
  have hn_3111 : Ln S_3104 q_161 16 := by rw [eS_3105]; exact hn_3052
  have hz_3112 : ∀ j, aI S_3104 q_161 j = 0 := by rw [eS_3105]; exact hz_3042
  have hm_3113 : q_266 ∈ hL S_3104 := by rw [eS_3105]; exact hm_3053
  have hk_3114 : Kd S_3104 q_266 13 := by rw [eS_3105]; exact hk_3054
  have hn_3115 : Ln S_3104 q_266 24000 := by rw [eS_3105]; exact hn_3055
  have hz_3116 : ∀ j, aI S_3104 q_266 j = 0 := by rw [eS_3105]; exact hz_3043
  have hm_3117 : q_295 ∈ hL S_3104 := by rw [eS_3105]; exact hm_3056
  have hk_3118 : Kd S_3104 q_295 14 := by rw [eS_3105]; exact hk_3057
  have hn_3119 : Ln S_3104 q_295 16 := by rw [eS_3105]; exact hn_3058
  have hz_3120 : ∀ j, aI S_3104 q_295 j = 0 := by rw [eS_3105]; exact hz_3044
  have hm_3121 : q_2987 ∈ hL S_3104 := by rw [eS_3105]; exact hm_3059
  have hk_3122 : Kd S_3104 q_2987 1 := by rw [eS_3105]; exact hk_3060
  have hm_3123 : q_524 ∈ hL S_3104 := by rw [eS_3105]; exact hm_3061
  have hk_3124 : Kd S_3104 q_524 18 := by rw [eS_3105]; exact hk_3062
  have hn_3125 : Ln S_3104 q_524 3 := by rw [eS_3105]; exact hn_3063
  have hz_3126 : ∀ j, aI S_3104 q_524 j = 0 := by rw [eS_3105]; exact hz_3045
  have hm_3127 : q_565 ∈ hL S_3104 := by rw [eS_3105]; exact hm_3064
  have hk_3128 : Kd S_3104 q_565 19 := by rw [eS_3105]; exact hk_3065
  have hn_3129 : Ln S_3104 q_565 4 := by rw [eS_3105]; exact hn_3066
  have hz_3130 : ∀ j, aI S_3104 q_565 j = 0 := by rw [eS_3105]; exact hz_3046
  have hm_3131 : q_610 ∈ hL S_3104 := by rw [eS_3105]; exact hm_3067
  have hk_3132 : Kd S_3104 q_610 14 := by rw [eS_3105]; exact hk_3068
  have hn_3133 : Ln S_3104 q_610 12 := by rw [eS_3105]; exact hn_3069
  have hz_3134 : ∀ j, aI S_3104 q_610 j = 0 := by rw [eS_3105]; exact hz_3047
  have hv_3135 : hR S_3104 100 q_2987 = (some q_2992) := by rw [eS_3105]; exact e_3003
  have hv_3136 : hR S_3104 101 q_2987 = (some q_2994) := by rw [eS_3105]; exact e_3012
  have hv_3137 : hR S_3104 102 q_2987 = (some q_2996) := by rw [eS_3105]; exact e_3021
  have hv_3138 : hR S_3104 103 q_2987 = (some q_2998) := by rw [eS_3105]; exact e_3031
  have hv_3139 : hR S_3104 104 q_2987 = (some q_2999) := by rw [eS_3105]; exact e_3036
  have hv_3140 : hR S_3104 900 h = (some s0) := by rw [eS_3105]; exact hv_3070
  have hv_3141 : hR S_3104 901 h = (some q_1) := by rw [eS_3105]; exact hv_3071
  have hv_3142 : hR S_3104 902 h = (some q_41) := by rw [eS_3105]; exact hv_3072
  have hv_3143 : hR S_3104 903 h = (some q_126) := by rw [eS_3105]; exact hv_3073
  have hv_3144 : hR S_3104 904 h = (some q_161) := by rw [eS_3105]; exact hv_3074
  have hv_3145 : hR S_3104 905 h = (some q_183) := by rw [eS_3105]; exact hv_3075
  have hv_3146 : hR S_3104 906 h = (some q_224) := by rw [eS_3105]; exact hv_3076
  have hv_3147 : hR S_3104 907 h = (some q_266) := by rw [eS_3105]; exact hv_3077
  have hv_3148 : hR S_3104 908 h = (some q_295) := by rw [eS_3105]; exact hv_3078
  have hv_3149 : hR S_3104 909 h = (some q_328) := by rw [eS_3105]; exact hv_3079
  have hv_3150 : hR S_3104 910 h = (some q_425) := by rw [eS_3105]; exact hv_3080
  have hv_3151 : hR S_3104 911 h = (some q_524) := by rw [eS_3105]; exact hv_3081
  have hv_3152 : hR S_3104 912 h = (some q_565) := by rw [eS_3105]; exact hv_3082
  have hv_3153 : hR S_3104 917 h = (some q_610) := by rw [eS_3105]; exact hv_3083
  have hf_3154 : Fm (fun _ _ => False) (fun f9 b9 => b9 = h) (fun _ => False) S S_3104 := by rw [eS_3105]; exact hf_3106
  have hN_3155 : NL S L_3098 S_3104 := by rw [eS_3105]; exact (NL.tR (S := S_3039) hN_3097)
  have hG_3156 : Gs h gs_3102 S_3104 := by rw [eS_3105]; exact (Gs.tR (S := S_3039) hG_3101)
  have hE_3157 : ELs S_3104 q_161 [q_661, q_784, q_908, q_1032, q_1156, q_1280, q_1404, q_1528, q_1652, q_1776, q_1900, q_2024, q_2148, q_2272, q_2396, q_2520] := by rw [eS_3105]; exact (ELs.tRx (S := S_3039) (fun e9 => absurd ((hk_3051).symm.trans ((congrArg (hK _) e9).trans hk_3062)) (by decide)) hE_3087)
  have hE_3158 : ELs S_3104 q_524 [q_2644, q_2815, q_2987] := by rw [eS_3105]; exact (show ELs (tR S_3039 q_524 2 (some q_2987)) q_524 [q_2644, q_2815, q_2987] from ELs.snoc hE_3088 rfl)
  refine j_iinc (q := 0) (v := 3) (lv' := [(2, .int 3), (0, .ref h), (1, .ref s0)]) C dX9_init_190 rfl (by decide) (by rw [hn9]; decide) rfl ?_
  refine j_goto (tgt := 168) C dX9_init_193 (by decide) ?_
  refine j_iload_n C dX9_init_168 rfl 0 rfl ?_
  refine j_aload_n C dX9_init_169 rfl 1 rfl ?_
  refine j_getr (f := 911) (v := q_524) C flX9_64 dX9_init_170 hm_3107 hk_3108 (by decide) rfl hv_3151 ?_
  refine j_alen (v := 3) C dX9_init_173 hm_3123 hk_3124 (by decide) (by decide) (len_of (n := 3) hn_3125 (by decide)) ?_
  refine j_ic_ge (tgt := 196) C dX9_init_174 (by decide) (fun c9 => ?_) (fun c9 => absurd (by decide) c9)
  show J _ _ _ _ _ 196 _
  refine j_iconst (v := 0) C dX9_init_196 (by decide) ?_
  refine j_istore_n (lv' := [(2, .int 0), (0, .ref h), (1, .ref s0)]) C dX9_init_197 rfl (by rw [hn9]; decide) rfl ?_
  refine j_iload_n C dX9_init_198 rfl 0 rfl ?_
  refine j_aload_n C dX9_init_199 rfl 1 rfl ?_
  refine j_getr (f := 912) (v := q_565) C flX9_70 dX9_init_200 hm_3107 hk_3108 (by decide) rfl hv_3152 ?_
  refine j_alen (v := 4) C dX9_init_203 hm_3127 hk_3128 (by decide) (by decide) (len_of (n := 4) hn_3129 (by decide)) ?_
  refine j_ic_ge (tgt := 226) C dX9_init_204 (by decide) (fun c9 => absurd c9 (by decide)) (fun c9 => ?_)
  refine j_aload_n C dX9_init_207 rfl 1 rfl ?_
  show J _ _ _ _ _ 208 _
  refine j_getr (f := 912) (v := q_565) C flX9_70 dX9_init_208 hm_3107 hk_3108 (by decide) rfl hv_3152 ?_
  refine j_iload_n C dX9_init_211 rfl 0 rfl ?_
  refine j_new (N := 13) C (ci := 5) rfl rfl klX9_68 knX5 kiX5 (M.cells (by decide)) (M.slots (by decide)) dX9_init_212 (fun q_3159 hq_3160 => ?_)
  have hz_3161 : q_3159 ∉ hL S := fun h9 => hq_3160 (hf_3154.mem h9)
  have gn_3162 : ∀ g9 ∈ gs_3102, ∀ p9 ∈ (gT g9.1).2.2, g9.2.getD p9.2.1 0 ≠ q_3159 := Gs.ne hG_3156 hq_3160
  refine j_dup C dX9_init_215 rfl ?_
  have hf_3163 : Fm (fun _ _ => False) (fun f9 b9 => b9 = h) (fun _ => False) S (nO S_3104 q_3159 5) := (hf_3154.nO _ hq_3160)
  refine j_callI C [] [.ref q_3159, .int 0, .ref q_565] mlX9_81 mcX5_init (c_X5_init (nO S_3104 q_3159 5) q_3159 mem_new (kd_nO' (k := 5))) (M.rm (by decide) (by decide) (Nat.le_of_ble_eq_true rfl) (Nat.le_of_ble_eq_true rfl)) rfl rfl (Nat.le_of_ble_eq_true rfl) dX9_init_216 (fun r_3164 S_3165 hp_3166 => ?_)
  obtain ⟨rfl, hf_3167⟩ := hp_3166
  refine J.eq (st' := [.ref q_3159, .int 0, .ref q_565]) rfl rfl rfl ?_
  have hz_3168 : ∀ j, aI S_3165 q_161 j = 0 := fun j9 => (hf_3167.ai (mem_old hm_3109) (fun h9 => h9) j9).trans (hz_3112 j9)
  have hz_3169 : ∀ j, aI S_3165 q_266 j = 0 := fun j9 => (hf_3167.ai (mem_old hm_3113) (fun h9 => h9) j9).trans (hz_3116 j9)
  have hz_3170 : ∀ j, aI S_3165 q_295 j = 0 := fun j9 => (hf_3167.ai (mem_old hm_3117) (fun h9 => h9) j9).trans (hz_3120 j9)
  have hz_3171 : ∀ j, aI S_3165 q_524 j = 0 := fun j9 => (hf_3167.ai (mem_old hm_3123) (fun h9 => h9) j9).trans (hz_3126 j9)
  have hz_3172 : ∀ j, aI S_3165 q_565 j = 0 := fun j9 => (hf_3167.ai (mem_old hm_3127) (fun h9 => h9) j9).trans (hz_3130 j9)
  have hz_3173 : ∀ j, aI S_3165 q_610 j = 0 := fun j9 => (hf_3167.ai (mem_old hm_3131) (fun h9 => h9) j9).trans (hz_3134 j9)
  have hm_3174 : h ∈ hL S_3165 := hf_3167.mem (mem_old hm_3107)
  have hk_3175 : Kd S_3165 h 9 := hf_3167.kd (mem_old hm_3107) (kd_nO (k := 5) hq_3160 hm_3107 hk_3108)
  have hm_3176 : q_161 ∈ hL S_3165 := hf_3167.mem (mem_old hm_3109)
  have hk_3177 : Kd S_3165 q_161 20 := hf_3167.kd (mem_old hm_3109) (kd_nO (k := 5) hq_3160 hm_3109 hk_3110)
  have hn_3178 : Ln S_3165 q_161 16 := hf_3167.ln (mem_old hm_3109) hn_3111
  have hm_3179 : q_266 ∈ hL S_3165 := hf_3167.mem (mem_old hm_3113)
  have hk_3180 : Kd S_3165 q_266 13 := hf_3167.kd (mem_old hm_3113) (kd_nO (k := 5) hq_3160 hm_3113 hk_3114)
  have hn_3181 : Ln S_3165 q_266 24000 := hf_3167.ln (mem_old hm_3113) hn_3115
  have hm_3182 : q_295 ∈ hL S_3165 := hf_3167.mem (mem_old hm_3117)
  have hk_3183 : Kd S_3165 q_295 14 := hf_3167.kd (mem_old hm_3117) (kd_nO (k := 5) hq_3160 hm_3117 hk_3118)
  have hn_3184 : Ln S_3165 q_295 16 := hf_3167.ln (mem_old hm_3117) hn_3119
  have hm_3185 : q_3159 ∈ hL S_3165 := hf_3167.mem mem_new
  have hk_3186 : Kd S_3165 q_3159 5 := hf_3167.kd mem_new (kd_nO' (k := 5))
  have hm_3187 : q_524 ∈ hL S_3165 := hf_3167.mem (mem_old hm_3123)
  have hk_3188 : Kd S_3165 q_524 18 := hf_3167.kd (mem_old hm_3123) (kd_nO (k := 5) hq_3160 hm_3123 hk_3124)
  have hn_3189 : Ln S_3165 q_524 3 := hf_3167.ln (mem_old hm_3123) hn_3125
  have hm_3190 : q_565 ∈ hL S_3165 := hf_3167.mem (mem_old hm_3127)
  have hk_3191 : Kd S_3165 q_565 19 := hf_3167.kd (mem_old hm_3127) (kd_nO (k := 5) hq_3160 hm_3127 hk_3128)
  have hn_3192 : Ln S_3165 q_565 4 := hf_3167.ln (mem_old hm_3127) hn_3129
  have hm_3193 : q_610 ∈ hL S_3165 := hf_3167.mem (mem_old hm_3131)
  have hk_3194 : Kd S_3165 q_610 14 := hf_3167.kd (mem_old hm_3131) (kd_nO (k := 5) hq_3160 hm_3131 hk_3132)
  have hn_3195 : Ln S_3165 q_610 12 := hf_3167.ln (mem_old hm_3131) hn_3133
  have hv_3196 : hR S_3165 900 h = (some s0) := hf_3167.fr (mem_old hm_3107) (fun q9 => (fun e9 => absurd (((kd_nO (k := 5) hq_3160 hm_3107 hk_3108)).symm.trans ((congrArg (hK _) e9).trans (kd_nO' (k := 5)))) (by decide)) q9) (rd_nOR (k := 5) hq_3160 hm_3107 hv_3140)
  have hv_3197 : hR S_3165 901 h = (some q_1) := hf_3167.fr (mem_old hm_3107) (fun q9 => (fun e9 => absurd (((kd_nO (k := 5) hq_3160 hm_3107 hk_3108)).symm.trans ((congrArg (hK _) e9).trans (kd_nO' (k := 5)))) (by decide)) q9) (rd_nOR (k := 5) hq_3160 hm_3107 hv_3141)
  have hv_3198 : hR S_3165 902 h = (some q_41) := hf_3167.fr (mem_old hm_3107) (fun q9 => (fun e9 => absurd (((kd_nO (k := 5) hq_3160 hm_3107 hk_3108)).symm.trans ((congrArg (hK _) e9).trans (kd_nO' (k := 5)))) (by decide)) q9) (rd_nOR (k := 5) hq_3160 hm_3107 hv_3142)
  have hv_3199 : hR S_3165 903 h = (some q_126) := hf_3167.fr (mem_old hm_3107) (fun q9 => (fun e9 => absurd (((kd_nO (k := 5) hq_3160 hm_3107 hk_3108)).symm.trans ((congrArg (hK _) e9).trans (kd_nO' (k := 5)))) (by decide)) q9) (rd_nOR (k := 5) hq_3160 hm_3107 hv_3143)
  have hv_3200 : hR S_3165 904 h = (some q_161) := hf_3167.fr (mem_old hm_3107) (fun q9 => (fun e9 => absurd (((kd_nO (k := 5) hq_3160 hm_3107 hk_3108)).symm.trans ((congrArg (hK _) e9).trans (kd_nO' (k := 5)))) (by decide)) q9) (rd_nOR (k := 5) hq_3160 hm_3107 hv_3144)
  have hv_3201 : hR S_3165 905 h = (some q_183) := hf_3167.fr (mem_old hm_3107) (fun q9 => (fun e9 => absurd (((kd_nO (k := 5) hq_3160 hm_3107 hk_3108)).symm.trans ((congrArg (hK _) e9).trans (kd_nO' (k := 5)))) (by decide)) q9) (rd_nOR (k := 5) hq_3160 hm_3107 hv_3145)
  have hv_3202 : hR S_3165 906 h = (some q_224) := hf_3167.fr (mem_old hm_3107) (fun q9 => (fun e9 => absurd (((kd_nO (k := 5) hq_3160 hm_3107 hk_3108)).symm.trans ((congrArg (hK _) e9).trans (kd_nO' (k := 5)))) (by decide)) q9) (rd_nOR (k := 5) hq_3160 hm_3107 hv_3146)
  have hv_3203 : hR S_3165 907 h = (some q_266) := hf_3167.fr (mem_old hm_3107) (fun q9 => (fun e9 => absurd (((kd_nO (k := 5) hq_3160 hm_3107 hk_3108)).symm.trans ((congrArg (hK _) e9).trans (kd_nO' (k := 5)))) (by decide)) q9) (rd_nOR (k := 5) hq_3160 hm_3107 hv_3147)
  have hv_3204 : hR S_3165 908 h = (some q_295) := hf_3167.fr (mem_old hm_3107) (fun q9 => (fun e9 => absurd (((kd_nO (k := 5) hq_3160 hm_3107 hk_3108)).symm.trans ((congrArg (hK _) e9).trans (kd_nO' (k := 5)))) (by decide)) q9) (rd_nOR (k := 5) hq_3160 hm_3107 hv_3148)
  have hv_3205 : hR S_3165 909 h = (some q_328) := hf_3167.fr (mem_old hm_3107) (fun q9 => (fun e9 => absurd (((kd_nO (k := 5) hq_3160 hm_3107 hk_3108)).symm.trans ((congrArg (hK _) e9).trans (kd_nO' (k := 5)))) (by decide)) q9) (rd_nOR (k := 5) hq_3160 hm_3107 hv_3149)
  have hv_3206 : hR S_3165 910 h = (some q_425) := hf_3167.fr (mem_old hm_3107) (fun q9 => (fun e9 => absurd (((kd_nO (k := 5) hq_3160 hm_3107 hk_3108)).symm.trans ((congrArg (hK _) e9).trans (kd_nO' (k := 5)))) (by decide)) q9) (rd_nOR (k := 5) hq_3160 hm_3107 hv_3150)
  have hv_3207 : hR S_3165 911 h = (some q_524) := hf_3167.fr (mem_old hm_3107) (fun q9 => (fun e9 => absurd (((kd_nO (k := 5) hq_3160 hm_3107 hk_3108)).symm.trans ((congrArg (hK _) e9).trans (kd_nO' (k := 5)))) (by decide)) q9) (rd_nOR (k := 5) hq_3160 hm_3107 hv_3151)
  have hv_3208 : hR S_3165 912 h = (some q_565) := hf_3167.fr (mem_old hm_3107) (fun q9 => (fun e9 => absurd (((kd_nO (k := 5) hq_3160 hm_3107 hk_3108)).symm.trans ((congrArg (hK _) e9).trans (kd_nO' (k := 5)))) (by decide)) q9) (rd_nOR (k := 5) hq_3160 hm_3107 hv_3152)
  have hv_3209 : hR S_3165 917 h = (some q_610) := hf_3167.fr (mem_old hm_3107) (fun q9 => (fun e9 => absurd (((kd_nO (k := 5) hq_3160 hm_3107 hk_3108)).symm.trans ((congrArg (hK _) e9).trans (kd_nO' (k := 5)))) (by decide)) q9) (rd_nOR (k := 5) hq_3160 hm_3107 hv_3153)
  have hf_3210 : Fm (fun _ _ => False) (fun f9 b9 => b9 = h) (fun _ => False) S S_3165 := hf_3163.then hf_3167 (fun a9 ha9 => ⟨(fun f9 h9 => h9.elim), (fun f9 h9 => (fun h8 => absurd (h8 ▸ ha9) hz_3161) h9), (fun h9 => h9.elim)⟩)
  have hN_3211 : NL S (L_3098 ++ [q_3159]) S_3165 := NL.mono (show NL S (L_3098 ++ [q_3159]) (nO S_3104 q_3159 5) from NL.nO hN_3155 hq_3160 hz_3161) (fun a9 h9 => hf_3167.mem h9)
  have hG_3212 : Gs h gs_3102 S_3165 := Gs.fm (show Gs h gs_3102 (nO S_3104 q_3159 5) from Gs.nO hG_3156 hq_3160) hf_3167 (fun g9 hg9 p9 hp9 => gn_3162 g9 hg9 p9 hp9)
  have hE_3213 : ELs S_3165 q_161 [q_661, q_784, q_908, q_1032, q_1156, q_1280, q_1404, q_1528, q_1652, q_1776, q_1900, q_2024, q_2148, q_2272, q_2396, q_2520] := ELs.fm (ELs.nO (S := S_3104) hE_3157) hf_3167 (mem_old hm_3109) (fun h9 => h9)
  have hE_3214 : ELs S_3165 q_524 [q_2644, q_2815, q_2987] := ELs.fm (ELs.nO (S := S_3104) hE_3158) hf_3167 (mem_old hm_3123) (fun h9 => h9)
  obtain ⟨L_3215, eL_3216⟩ : ∃ L9 : List Nat, L9 = (L_3098 ++ [q_3159]) := ⟨_, rfl⟩
  rw [← eL_3216] at hN_3211
  have hGt_3217 : Gt 5 [q_3159] S_3165 := ⟨fun i9 k9 h9 => (match i9, h9 with | 0, h9 => (by have e9 : (5 : Nat) = k9 := Option.some.inj h9; subst e9; exact ⟨hm_3185, hk_3186⟩) | i9 + 1, h9 => absurd h9 (by simp [gT])), (fun _ h9 => absurd h9 List.not_mem_nil), (fun _ h9 => absurd h9 List.not_mem_nil), (fun _ h9 => absurd h9 List.not_mem_nil)⟩
  have hG_3218 : Gs h (gs_3102 ++ [(5, [q_3159])]) S_3165 := Gs.snoc hG_3212 (by decide) hGt_3217 (fun _ h9 => absurd h9 List.not_mem_nil)
  obtain ⟨gs_3219, eG_3220⟩ : ∃ G9 : List (Nat × List Nat), G9 = gs_3102 ++ [(5, [q_3159])] := ⟨_, rfl⟩
  rw [← eG_3220] at hG_3218
  refine j_aast (j := 0) (ci := 5) C 19  (by decide) rfl dX9_init_219 hm_3190 hk_3191 (inr_of (n := 4) hn_3192 (vp_lit (by decide))) (by decide) hm_3185 hk_3186 rfl ?_
  have hf_3223 : Fm (fun _ _ => False) (fun f9 b9 => b9 = h) (fun _ => False) S (tR S_3165 q_565 0 (some q_3159)) := (hf_3210.tR _ _ (fun h9 => absurd h9 hz_567))
  obtain ⟨S_3221, eS_3222⟩ : ∃ S9 : Hp, S9 = (tR S_3165 q_565 0 (some q_3159)) := ⟨_, rfl⟩
  refine J.eq (S' := S_3221) eS_3222.symm rfl rfl ?_
  have hm_3224 : h ∈ hL S_3221 := by rw [eS_3222]; exact hm_3174
  have hk_3225 : Kd S_3221 h 9 := by rw [eS_3222]; exact hk_3175
  have hm_3226 : q_161 ∈ hL S_3221 := by rw [eS_3222]; exact hm_3176
  have hk_3227 : Kd S_3221 q_161 20 := by rw [eS_3222]; exact hk_3177
  have hn_3228 : Ln S_3221 q_161 16 := by rw [eS_3222]; exact hn_3178
  have hz_3229 : ∀ j, aI S_3221 q_161 j = 0 := by rw [eS_3222]; exact hz_3168
  have hm_3230 : q_266 ∈ hL S_3221 := by rw [eS_3222]; exact hm_3179
  have hk_3231 : Kd S_3221 q_266 13 := by rw [eS_3222]; exact hk_3180
  have hn_3232 : Ln S_3221 q_266 24000 := by rw [eS_3222]; exact hn_3181
  have hz_3233 : ∀ j, aI S_3221 q_266 j = 0 := by rw [eS_3222]; exact hz_3169
  have hm_3234 : q_295 ∈ hL S_3221 := by rw [eS_3222]; exact hm_3182
  have hk_3235 : Kd S_3221 q_295 14 := by rw [eS_3222]; exact hk_3183
  have hn_3236 : Ln S_3221 q_295 16 := by rw [eS_3222]; exact hn_3184
  have hz_3237 : ∀ j, aI S_3221 q_295 j = 0 := by rw [eS_3222]; exact hz_3170
  have hm_3238 : q_3159 ∈ hL S_3221 := by rw [eS_3222]; exact hm_3185
  have hk_3239 : Kd S_3221 q_3159 5 := by rw [eS_3222]; exact hk_3186
  have hm_3240 : q_524 ∈ hL S_3221 := by rw [eS_3222]; exact hm_3187
  have hk_3241 : Kd S_3221 q_524 18 := by rw [eS_3222]; exact hk_3188
  have hn_3242 : Ln S_3221 q_524 3 := by rw [eS_3222]; exact hn_3189
  have hz_3243 : ∀ j, aI S_3221 q_524 j = 0 := by rw [eS_3222]; exact hz_3171
  have hm_3244 : q_565 ∈ hL S_3221 := by rw [eS_3222]; exact hm_3190
  have hk_3245 : Kd S_3221 q_565 19 := by rw [eS_3222]; exact hk_3191
  have hn_3246 : Ln S_3221 q_565 4 := by rw [eS_3222]; exact hn_3192
  have hz_3247 : ∀ j, aI S_3221 q_565 j = 0 := by rw [eS_3222]; exact hz_3172
  have hm_3248 : q_610 ∈ hL S_3221 := by rw [eS_3222]; exact hm_3193
  have hk_3249 : Kd S_3221 q_610 14 := by rw [eS_3222]; exact hk_3194
  have hn_3250 : Ln S_3221 q_610 12 := by rw [eS_3222]; exact hn_3195
  have hz_3251 : ∀ j, aI S_3221 q_610 j = 0 := by rw [eS_3222]; exact hz_3173
  have hv_3252 : hR S_3221 900 h = (some s0) := by rw [eS_3222]; exact hv_3196
  have hv_3253 : hR S_3221 901 h = (some q_1) := by rw [eS_3222]; exact hv_3197
  have hv_3254 : hR S_3221 902 h = (some q_41) := by rw [eS_3222]; exact hv_3198
  have hv_3255 : hR S_3221 903 h = (some q_126) := by rw [eS_3222]; exact hv_3199
  have hv_3256 : hR S_3221 904 h = (some q_161) := by rw [eS_3222]; exact hv_3200
  have hv_3257 : hR S_3221 905 h = (some q_183) := by rw [eS_3222]; exact hv_3201
  have hv_3258 : hR S_3221 906 h = (some q_224) := by rw [eS_3222]; exact hv_3202
  have hv_3259 : hR S_3221 907 h = (some q_266) := by rw [eS_3222]; exact hv_3203
  have hv_3260 : hR S_3221 908 h = (some q_295) := by rw [eS_3222]; exact hv_3204
  have hv_3261 : hR S_3221 909 h = (some q_328) := by rw [eS_3222]; exact hv_3205
  have hv_3262 : hR S_3221 910 h = (some q_425) := by rw [eS_3222]; exact hv_3206
  have hv_3263 : hR S_3221 911 h = (some q_524) := by rw [eS_3222]; exact hv_3207
  have hv_3264 : hR S_3221 912 h = (some q_565) := by rw [eS_3222]; exact hv_3208
  have hv_3265 : hR S_3221 917 h = (some q_610) := by rw [eS_3222]; exact hv_3209
  have hf_3266 : Fm (fun _ _ => False) (fun f9 b9 => b9 = h) (fun _ => False) S S_3221 := by rw [eS_3222]; exact hf_3223
  have hN_3267 : NL S L_3215 S_3221 := by rw [eS_3222]; exact (NL.tR (S := S_3165) hN_3211)
  have hG_3268 : Gs h gs_3219 S_3221 := by rw [eS_3222]; exact (Gs.tR (S := S_3165) hG_3218)
  have hE_3269 : ELs S_3221 q_161 [q_661, q_784, q_908, q_1032, q_1156, q_1280, q_1404, q_1528, q_1652, q_1776, q_1900, q_2024, q_2148, q_2272, q_2396, q_2520] := by rw [eS_3222]; exact (ELs.tRx (S := S_3165) (fun e9 => absurd ((hk_3177).symm.trans ((congrArg (hK _) e9).trans hk_3191)) (by decide)) hE_3213)
  have hE_3270 : ELs S_3221 q_524 [q_2644, q_2815, q_2987] := by rw [eS_3222]; exact (ELs.tRx (S := S_3165) (fun e9 => absurd ((hk_3188).symm.trans ((congrArg (hK _) e9).trans hk_3191)) (by decide)) hE_3214)
  have hE_3271 : ELs S_3221 q_565 [q_3159] := by rw [eS_3222]; exact (show ELs (tR S_3165 q_565 0 (some q_3159)) q_565 [q_3159] from ELs.snoc (ELs.nil (S := S_3165) (a := q_565)) rfl)
  refine j_iinc (q := 0) (v := 1) (lv' := [(2, .int 1), (0, .ref h), (1, .ref s0)]) C dX9_init_220 rfl (by decide) (by rw [hn9]; decide) rfl ?_
  refine j_goto (tgt := 198) C dX9_init_223 (by decide) ?_
  show J _ _ _ _ _ 198 _
  refine j_iload_n C dX9_init_198 rfl 0 rfl ?_
  refine j_aload_n C dX9_init_199 rfl 1 rfl ?_
  refine j_getr (f := 912) (v := q_565) C flX9_70 dX9_init_200 hm_3224 hk_3225 (by decide) rfl hv_3264 ?_
  refine j_alen (v := 4) C dX9_init_203 hm_3244 hk_3245 (by decide) (by decide) (len_of (n := 4) hn_3246 (by decide)) ?_
  refine j_ic_ge (tgt := 226) C dX9_init_204 (by decide) (fun c9 => absurd c9 (by decide)) (fun c9 => ?_)
  refine j_aload_n C dX9_init_207 rfl 1 rfl ?_
  refine j_getr (f := 912) (v := q_565) C flX9_70 dX9_init_208 hm_3224 hk_3225 (by decide) rfl hv_3264 ?_
  refine j_iload_n C dX9_init_211 rfl 0 rfl ?_
  show J _ _ _ _ _ 212 _
  refine j_new (N := 13) C (ci := 5) rfl rfl klX9_68 knX5 kiX5 (M.cells (by decide)) (M.slots (by decide)) dX9_init_212 (fun q_3272 hq_3273 => ?_)
  have hz_3274 : q_3272 ∉ hL S := fun h9 => hq_3273 (hf_3266.mem h9)
  have gn_3275 : ∀ g9 ∈ gs_3219, ∀ p9 ∈ (gT g9.1).2.2, g9.2.getD p9.2.1 0 ≠ q_3272 := Gs.ne hG_3268 hq_3273
  refine j_dup C dX9_init_215 rfl ?_
  have hf_3276 : Fm (fun _ _ => False) (fun f9 b9 => b9 = h) (fun _ => False) S (nO S_3221 q_3272 5) := (hf_3266.nO _ hq_3273)
  refine j_callI C [] [.ref q_3272, .int 1, .ref q_565] mlX9_81 mcX5_init (c_X5_init (nO S_3221 q_3272 5) q_3272 mem_new (kd_nO' (k := 5))) (M.rm (by decide) (by decide) (Nat.le_of_ble_eq_true rfl) (Nat.le_of_ble_eq_true rfl)) rfl rfl (Nat.le_of_ble_eq_true rfl) dX9_init_216 (fun r_3277 S_3278 hp_3279 => ?_)
  obtain ⟨rfl, hf_3280⟩ := hp_3279
  refine J.eq (st' := [.ref q_3272, .int 1, .ref q_565]) rfl rfl rfl ?_
  have hz_3281 : ∀ j, aI S_3278 q_161 j = 0 := fun j9 => (hf_3280.ai (mem_old hm_3226) (fun h9 => h9) j9).trans (hz_3229 j9)
  have hz_3282 : ∀ j, aI S_3278 q_266 j = 0 := fun j9 => (hf_3280.ai (mem_old hm_3230) (fun h9 => h9) j9).trans (hz_3233 j9)
  have hz_3283 : ∀ j, aI S_3278 q_295 j = 0 := fun j9 => (hf_3280.ai (mem_old hm_3234) (fun h9 => h9) j9).trans (hz_3237 j9)
  have hz_3284 : ∀ j, aI S_3278 q_524 j = 0 := fun j9 => (hf_3280.ai (mem_old hm_3240) (fun h9 => h9) j9).trans (hz_3243 j9)
  have hz_3285 : ∀ j, aI S_3278 q_565 j = 0 := fun j9 => (hf_3280.ai (mem_old hm_3244) (fun h9 => h9) j9).trans (hz_3247 j9)
  have hz_3286 : ∀ j, aI S_3278 q_610 j = 0 := fun j9 => (hf_3280.ai (mem_old hm_3248) (fun h9 => h9) j9).trans (hz_3251 j9)
  have hm_3287 : h ∈ hL S_3278 := hf_3280.mem (mem_old hm_3224)
  have hk_3288 : Kd S_3278 h 9 := hf_3280.kd (mem_old hm_3224) (kd_nO (k := 5) hq_3273 hm_3224 hk_3225)
  have hm_3289 : q_161 ∈ hL S_3278 := hf_3280.mem (mem_old hm_3226)
  have hk_3290 : Kd S_3278 q_161 20 := hf_3280.kd (mem_old hm_3226) (kd_nO (k := 5) hq_3273 hm_3226 hk_3227)
  have hn_3291 : Ln S_3278 q_161 16 := hf_3280.ln (mem_old hm_3226) hn_3228
  have hm_3292 : q_266 ∈ hL S_3278 := hf_3280.mem (mem_old hm_3230)
  have hk_3293 : Kd S_3278 q_266 13 := hf_3280.kd (mem_old hm_3230) (kd_nO (k := 5) hq_3273 hm_3230 hk_3231)
  have hn_3294 : Ln S_3278 q_266 24000 := hf_3280.ln (mem_old hm_3230) hn_3232
  have hm_3295 : q_295 ∈ hL S_3278 := hf_3280.mem (mem_old hm_3234)
  have hk_3296 : Kd S_3278 q_295 14 := hf_3280.kd (mem_old hm_3234) (kd_nO (k := 5) hq_3273 hm_3234 hk_3235)
  have hn_3297 : Ln S_3278 q_295 16 := hf_3280.ln (mem_old hm_3234) hn_3236
  have hm_3298 : q_3272 ∈ hL S_3278 := hf_3280.mem mem_new
  have hk_3299 : Kd S_3278 q_3272 5 := hf_3280.kd mem_new (kd_nO' (k := 5))
  have hm_3300 : q_524 ∈ hL S_3278 := hf_3280.mem (mem_old hm_3240)
  have hk_3301 : Kd S_3278 q_524 18 := hf_3280.kd (mem_old hm_3240) (kd_nO (k := 5) hq_3273 hm_3240 hk_3241)
  have hn_3302 : Ln S_3278 q_524 3 := hf_3280.ln (mem_old hm_3240) hn_3242
  have hm_3303 : q_565 ∈ hL S_3278 := hf_3280.mem (mem_old hm_3244)
  have hk_3304 : Kd S_3278 q_565 19 := hf_3280.kd (mem_old hm_3244) (kd_nO (k := 5) hq_3273 hm_3244 hk_3245)
  have hn_3305 : Ln S_3278 q_565 4 := hf_3280.ln (mem_old hm_3244) hn_3246
  have hm_3306 : q_610 ∈ hL S_3278 := hf_3280.mem (mem_old hm_3248)
  have hk_3307 : Kd S_3278 q_610 14 := hf_3280.kd (mem_old hm_3248) (kd_nO (k := 5) hq_3273 hm_3248 hk_3249)
  have hn_3308 : Ln S_3278 q_610 12 := hf_3280.ln (mem_old hm_3248) hn_3250
  have hv_3309 : hR S_3278 900 h = (some s0) := hf_3280.fr (mem_old hm_3224) (fun q9 => (fun e9 => absurd (((kd_nO (k := 5) hq_3273 hm_3224 hk_3225)).symm.trans ((congrArg (hK _) e9).trans (kd_nO' (k := 5)))) (by decide)) q9) (rd_nOR (k := 5) hq_3273 hm_3224 hv_3252)
  have hv_3310 : hR S_3278 901 h = (some q_1) := hf_3280.fr (mem_old hm_3224) (fun q9 => (fun e9 => absurd (((kd_nO (k := 5) hq_3273 hm_3224 hk_3225)).symm.trans ((congrArg (hK _) e9).trans (kd_nO' (k := 5)))) (by decide)) q9) (rd_nOR (k := 5) hq_3273 hm_3224 hv_3253)
  have hv_3311 : hR S_3278 902 h = (some q_41) := hf_3280.fr (mem_old hm_3224) (fun q9 => (fun e9 => absurd (((kd_nO (k := 5) hq_3273 hm_3224 hk_3225)).symm.trans ((congrArg (hK _) e9).trans (kd_nO' (k := 5)))) (by decide)) q9) (rd_nOR (k := 5) hq_3273 hm_3224 hv_3254)
  have hv_3312 : hR S_3278 903 h = (some q_126) := hf_3280.fr (mem_old hm_3224) (fun q9 => (fun e9 => absurd (((kd_nO (k := 5) hq_3273 hm_3224 hk_3225)).symm.trans ((congrArg (hK _) e9).trans (kd_nO' (k := 5)))) (by decide)) q9) (rd_nOR (k := 5) hq_3273 hm_3224 hv_3255)
  have hv_3313 : hR S_3278 904 h = (some q_161) := hf_3280.fr (mem_old hm_3224) (fun q9 => (fun e9 => absurd (((kd_nO (k := 5) hq_3273 hm_3224 hk_3225)).symm.trans ((congrArg (hK _) e9).trans (kd_nO' (k := 5)))) (by decide)) q9) (rd_nOR (k := 5) hq_3273 hm_3224 hv_3256)
  have hv_3314 : hR S_3278 905 h = (some q_183) := hf_3280.fr (mem_old hm_3224) (fun q9 => (fun e9 => absurd (((kd_nO (k := 5) hq_3273 hm_3224 hk_3225)).symm.trans ((congrArg (hK _) e9).trans (kd_nO' (k := 5)))) (by decide)) q9) (rd_nOR (k := 5) hq_3273 hm_3224 hv_3257)
  have hv_3315 : hR S_3278 906 h = (some q_224) := hf_3280.fr (mem_old hm_3224) (fun q9 => (fun e9 => absurd (((kd_nO (k := 5) hq_3273 hm_3224 hk_3225)).symm.trans ((congrArg (hK _) e9).trans (kd_nO' (k := 5)))) (by decide)) q9) (rd_nOR (k := 5) hq_3273 hm_3224 hv_3258)
  have hv_3316 : hR S_3278 907 h = (some q_266) := hf_3280.fr (mem_old hm_3224) (fun q9 => (fun e9 => absurd (((kd_nO (k := 5) hq_3273 hm_3224 hk_3225)).symm.trans ((congrArg (hK _) e9).trans (kd_nO' (k := 5)))) (by decide)) q9) (rd_nOR (k := 5) hq_3273 hm_3224 hv_3259)
  have hv_3317 : hR S_3278 908 h = (some q_295) := hf_3280.fr (mem_old hm_3224) (fun q9 => (fun e9 => absurd (((kd_nO (k := 5) hq_3273 hm_3224 hk_3225)).symm.trans ((congrArg (hK _) e9).trans (kd_nO' (k := 5)))) (by decide)) q9) (rd_nOR (k := 5) hq_3273 hm_3224 hv_3260)
  have hv_3318 : hR S_3278 909 h = (some q_328) := hf_3280.fr (mem_old hm_3224) (fun q9 => (fun e9 => absurd (((kd_nO (k := 5) hq_3273 hm_3224 hk_3225)).symm.trans ((congrArg (hK _) e9).trans (kd_nO' (k := 5)))) (by decide)) q9) (rd_nOR (k := 5) hq_3273 hm_3224 hv_3261)
  have hv_3319 : hR S_3278 910 h = (some q_425) := hf_3280.fr (mem_old hm_3224) (fun q9 => (fun e9 => absurd (((kd_nO (k := 5) hq_3273 hm_3224 hk_3225)).symm.trans ((congrArg (hK _) e9).trans (kd_nO' (k := 5)))) (by decide)) q9) (rd_nOR (k := 5) hq_3273 hm_3224 hv_3262)
  have hv_3320 : hR S_3278 911 h = (some q_524) := hf_3280.fr (mem_old hm_3224) (fun q9 => (fun e9 => absurd (((kd_nO (k := 5) hq_3273 hm_3224 hk_3225)).symm.trans ((congrArg (hK _) e9).trans (kd_nO' (k := 5)))) (by decide)) q9) (rd_nOR (k := 5) hq_3273 hm_3224 hv_3263)
  have hv_3321 : hR S_3278 912 h = (some q_565) := hf_3280.fr (mem_old hm_3224) (fun q9 => (fun e9 => absurd (((kd_nO (k := 5) hq_3273 hm_3224 hk_3225)).symm.trans ((congrArg (hK _) e9).trans (kd_nO' (k := 5)))) (by decide)) q9) (rd_nOR (k := 5) hq_3273 hm_3224 hv_3264)
  have hv_3322 : hR S_3278 917 h = (some q_610) := hf_3280.fr (mem_old hm_3224) (fun q9 => (fun e9 => absurd (((kd_nO (k := 5) hq_3273 hm_3224 hk_3225)).symm.trans ((congrArg (hK _) e9).trans (kd_nO' (k := 5)))) (by decide)) q9) (rd_nOR (k := 5) hq_3273 hm_3224 hv_3265)
  have hf_3323 : Fm (fun _ _ => False) (fun f9 b9 => b9 = h) (fun _ => False) S S_3278 := hf_3276.then hf_3280 (fun a9 ha9 => ⟨(fun f9 h9 => h9.elim), (fun f9 h9 => (fun h8 => absurd (h8 ▸ ha9) hz_3274) h9), (fun h9 => h9.elim)⟩)
  have hN_3324 : NL S (L_3215 ++ [q_3272]) S_3278 := NL.mono (show NL S (L_3215 ++ [q_3272]) (nO S_3221 q_3272 5) from NL.nO hN_3267 hq_3273 hz_3274) (fun a9 h9 => hf_3280.mem h9)
  have hG_3325 : Gs h gs_3219 S_3278 := Gs.fm (show Gs h gs_3219 (nO S_3221 q_3272 5) from Gs.nO hG_3268 hq_3273) hf_3280 (fun g9 hg9 p9 hp9 => gn_3275 g9 hg9 p9 hp9)
  have hE_3326 : ELs S_3278 q_161 [q_661, q_784, q_908, q_1032, q_1156, q_1280, q_1404, q_1528, q_1652, q_1776, q_1900, q_2024, q_2148, q_2272, q_2396, q_2520] := ELs.fm (ELs.nO (S := S_3221) hE_3269) hf_3280 (mem_old hm_3226) (fun h9 => h9)
  have hE_3327 : ELs S_3278 q_524 [q_2644, q_2815, q_2987] := ELs.fm (ELs.nO (S := S_3221) hE_3270) hf_3280 (mem_old hm_3240) (fun h9 => h9)
  have hE_3328 : ELs S_3278 q_565 [q_3159] := ELs.fm (ELs.nO (S := S_3221) hE_3271) hf_3280 (mem_old hm_3244) (fun h9 => h9)
  obtain ⟨L_3329, eL_3330⟩ : ∃ L9 : List Nat, L9 = (L_3215 ++ [q_3272]) := ⟨_, rfl⟩
  rw [← eL_3330] at hN_3324
  have hGt_3331 : Gt 5 [q_3272] S_3278 := ⟨fun i9 k9 h9 => (match i9, h9 with | 0, h9 => (by have e9 : (5 : Nat) = k9 := Option.some.inj h9; subst e9; exact ⟨hm_3298, hk_3299⟩) | i9 + 1, h9 => absurd h9 (by simp [gT])), (fun _ h9 => absurd h9 List.not_mem_nil), (fun _ h9 => absurd h9 List.not_mem_nil), (fun _ h9 => absurd h9 List.not_mem_nil)⟩
  have hG_3332 : Gs h (gs_3219 ++ [(5, [q_3272])]) S_3278 := Gs.snoc hG_3325 (by decide) hGt_3331 (fun _ h9 => absurd h9 List.not_mem_nil)
  obtain ⟨gs_3333, eG_3334⟩ : ∃ G9 : List (Nat × List Nat), G9 = gs_3219 ++ [(5, [q_3272])] := ⟨_, rfl⟩
  rw [← eG_3334] at hG_3332
  refine j_aast (j := 1) (ci := 5) C 19  (by decide) rfl dX9_init_219 hm_3303 hk_3304 (inr_of (n := 4) hn_3305 (vp_lit (by decide))) (by decide) hm_3298 hk_3299 rfl ?_
  have hf_3337 : Fm (fun _ _ => False) (fun f9 b9 => b9 = h) (fun _ => False) S (tR S_3278 q_565 1 (some q_3272)) := (hf_3323.tR _ _ (fun h9 => absurd h9 hz_567))
  obtain ⟨S_3335, eS_3336⟩ : ∃ S9 : Hp, S9 = (tR S_3278 q_565 1 (some q_3272)) := ⟨_, rfl⟩
  refine J.eq (S' := S_3335) eS_3336.symm rfl rfl ?_
  have hm_3338 : h ∈ hL S_3335 := by rw [eS_3336]; exact hm_3287
  have hk_3339 : Kd S_3335 h 9 := by rw [eS_3336]; exact hk_3288
  have hm_3340 : q_161 ∈ hL S_3335 := by rw [eS_3336]; exact hm_3289
  have hk_3341 : Kd S_3335 q_161 20 := by rw [eS_3336]; exact hk_3290
  have hn_3342 : Ln S_3335 q_161 16 := by rw [eS_3336]; exact hn_3291
  have hz_3343 : ∀ j, aI S_3335 q_161 j = 0 := by rw [eS_3336]; exact hz_3281
  have hm_3344 : q_266 ∈ hL S_3335 := by rw [eS_3336]; exact hm_3292
  have hk_3345 : Kd S_3335 q_266 13 := by rw [eS_3336]; exact hk_3293
  have hn_3346 : Ln S_3335 q_266 24000 := by rw [eS_3336]; exact hn_3294
  have hz_3347 : ∀ j, aI S_3335 q_266 j = 0 := by rw [eS_3336]; exact hz_3282
  have hm_3348 : q_295 ∈ hL S_3335 := by rw [eS_3336]; exact hm_3295
  have hk_3349 : Kd S_3335 q_295 14 := by rw [eS_3336]; exact hk_3296
  have hn_3350 : Ln S_3335 q_295 16 := by rw [eS_3336]; exact hn_3297
  have hz_3351 : ∀ j, aI S_3335 q_295 j = 0 := by rw [eS_3336]; exact hz_3283
  have hm_3352 : q_3272 ∈ hL S_3335 := by rw [eS_3336]; exact hm_3298
  have hk_3353 : Kd S_3335 q_3272 5 := by rw [eS_3336]; exact hk_3299
  have hm_3354 : q_524 ∈ hL S_3335 := by rw [eS_3336]; exact hm_3300
  have hk_3355 : Kd S_3335 q_524 18 := by rw [eS_3336]; exact hk_3301
  have hn_3356 : Ln S_3335 q_524 3 := by rw [eS_3336]; exact hn_3302
  have hz_3357 : ∀ j, aI S_3335 q_524 j = 0 := by rw [eS_3336]; exact hz_3284
  have hm_3358 : q_565 ∈ hL S_3335 := by rw [eS_3336]; exact hm_3303
  have hk_3359 : Kd S_3335 q_565 19 := by rw [eS_3336]; exact hk_3304
  have hn_3360 : Ln S_3335 q_565 4 := by rw [eS_3336]; exact hn_3305
  have hz_3361 : ∀ j, aI S_3335 q_565 j = 0 := by rw [eS_3336]; exact hz_3285
  have hm_3362 : q_610 ∈ hL S_3335 := by rw [eS_3336]; exact hm_3306
  have hk_3363 : Kd S_3335 q_610 14 := by rw [eS_3336]; exact hk_3307
  have hn_3364 : Ln S_3335 q_610 12 := by rw [eS_3336]; exact hn_3308
  have hz_3365 : ∀ j, aI S_3335 q_610 j = 0 := by rw [eS_3336]; exact hz_3286
  have hv_3366 : hR S_3335 900 h = (some s0) := by rw [eS_3336]; exact hv_3309
  have hv_3367 : hR S_3335 901 h = (some q_1) := by rw [eS_3336]; exact hv_3310
  have hv_3368 : hR S_3335 902 h = (some q_41) := by rw [eS_3336]; exact hv_3311
  have hv_3369 : hR S_3335 903 h = (some q_126) := by rw [eS_3336]; exact hv_3312
  have hv_3370 : hR S_3335 904 h = (some q_161) := by rw [eS_3336]; exact hv_3313
  have hv_3371 : hR S_3335 905 h = (some q_183) := by rw [eS_3336]; exact hv_3314
  have hv_3372 : hR S_3335 906 h = (some q_224) := by rw [eS_3336]; exact hv_3315
  have hv_3373 : hR S_3335 907 h = (some q_266) := by rw [eS_3336]; exact hv_3316
  have hv_3374 : hR S_3335 908 h = (some q_295) := by rw [eS_3336]; exact hv_3317
  have hv_3375 : hR S_3335 909 h = (some q_328) := by rw [eS_3336]; exact hv_3318
  have hv_3376 : hR S_3335 910 h = (some q_425) := by rw [eS_3336]; exact hv_3319
  have hv_3377 : hR S_3335 911 h = (some q_524) := by rw [eS_3336]; exact hv_3320
  have hv_3378 : hR S_3335 912 h = (some q_565) := by rw [eS_3336]; exact hv_3321
  have hv_3379 : hR S_3335 917 h = (some q_610) := by rw [eS_3336]; exact hv_3322
  have hf_3380 : Fm (fun _ _ => False) (fun f9 b9 => b9 = h) (fun _ => False) S S_3335 := by rw [eS_3336]; exact hf_3337
  have hN_3381 : NL S L_3329 S_3335 := by rw [eS_3336]; exact (NL.tR (S := S_3278) hN_3324)
  have hG_3382 : Gs h gs_3333 S_3335 := by rw [eS_3336]; exact (Gs.tR (S := S_3278) hG_3332)
  have hE_3383 : ELs S_3335 q_161 [q_661, q_784, q_908, q_1032, q_1156, q_1280, q_1404, q_1528, q_1652, q_1776, q_1900, q_2024, q_2148, q_2272, q_2396, q_2520] := by rw [eS_3336]; exact (ELs.tRx (S := S_3278) (fun e9 => absurd ((hk_3290).symm.trans ((congrArg (hK _) e9).trans hk_3304)) (by decide)) hE_3326)
  have hE_3384 : ELs S_3335 q_524 [q_2644, q_2815, q_2987] := by rw [eS_3336]; exact (ELs.tRx (S := S_3278) (fun e9 => absurd ((hk_3301).symm.trans ((congrArg (hK _) e9).trans hk_3304)) (by decide)) hE_3327)
  have hE_3385 : ELs S_3335 q_565 [q_3159, q_3272] := by rw [eS_3336]; exact (show ELs (tR S_3278 q_565 1 (some q_3272)) q_565 [q_3159, q_3272] from ELs.snoc hE_3328 rfl)
  refine j_iinc (q := 0) (v := 2) (lv' := [(2, .int 2), (0, .ref h), (1, .ref s0)]) C dX9_init_220 rfl (by decide) (by rw [hn9]; decide) rfl ?_
  refine j_goto (tgt := 198) C dX9_init_223 (by decide) ?_
  refine j_iload_n C dX9_init_198 rfl 0 rfl ?_
  refine j_aload_n C dX9_init_199 rfl 1 rfl ?_
  show J _ _ _ _ _ 200 _
  refine j_getr (f := 912) (v := q_565) C flX9_70 dX9_init_200 hm_3338 hk_3339 (by decide) rfl hv_3378 ?_
  refine j_alen (v := 4) C dX9_init_203 hm_3358 hk_3359 (by decide) (by decide) (len_of (n := 4) hn_3360 (by decide)) ?_
  refine j_ic_ge (tgt := 226) C dX9_init_204 (by decide) (fun c9 => absurd c9 (by decide)) (fun c9 => ?_)
  refine j_aload_n C dX9_init_207 rfl 1 rfl ?_
  refine j_getr (f := 912) (v := q_565) C flX9_70 dX9_init_208 hm_3338 hk_3339 (by decide) rfl hv_3378 ?_
  refine j_iload_n C dX9_init_211 rfl 0 rfl ?_
  refine j_new (N := 13) C (ci := 5) rfl rfl klX9_68 knX5 kiX5 (M.cells (by decide)) (M.slots (by decide)) dX9_init_212 (fun q_3386 hq_3387 => ?_)
  have hz_3388 : q_3386 ∉ hL S := fun h9 => hq_3387 (hf_3380.mem h9)
  have gn_3389 : ∀ g9 ∈ gs_3333, ∀ p9 ∈ (gT g9.1).2.2, g9.2.getD p9.2.1 0 ≠ q_3386 := Gs.ne hG_3382 hq_3387
  refine j_dup C dX9_init_215 rfl ?_
  show J _ _ _ _ _ 216 _
  have hf_3390 : Fm (fun _ _ => False) (fun f9 b9 => b9 = h) (fun _ => False) S (nO S_3335 q_3386 5) := (hf_3380.nO _ hq_3387)
  refine j_callI C [] [.ref q_3386, .int 2, .ref q_565] mlX9_81 mcX5_init (c_X5_init (nO S_3335 q_3386 5) q_3386 mem_new (kd_nO' (k := 5))) (M.rm (by decide) (by decide) (Nat.le_of_ble_eq_true rfl) (Nat.le_of_ble_eq_true rfl)) rfl rfl (Nat.le_of_ble_eq_true rfl) dX9_init_216 (fun r_3391 S_3392 hp_3393 => ?_)
  obtain ⟨rfl, hf_3394⟩ := hp_3393
  refine J.eq (st' := [.ref q_3386, .int 2, .ref q_565]) rfl rfl rfl ?_
  have hz_3395 : ∀ j, aI S_3392 q_161 j = 0 := fun j9 => (hf_3394.ai (mem_old hm_3340) (fun h9 => h9) j9).trans (hz_3343 j9)
  have hz_3396 : ∀ j, aI S_3392 q_266 j = 0 := fun j9 => (hf_3394.ai (mem_old hm_3344) (fun h9 => h9) j9).trans (hz_3347 j9)
  have hz_3397 : ∀ j, aI S_3392 q_295 j = 0 := fun j9 => (hf_3394.ai (mem_old hm_3348) (fun h9 => h9) j9).trans (hz_3351 j9)
  have hz_3398 : ∀ j, aI S_3392 q_524 j = 0 := fun j9 => (hf_3394.ai (mem_old hm_3354) (fun h9 => h9) j9).trans (hz_3357 j9)
  have hz_3399 : ∀ j, aI S_3392 q_565 j = 0 := fun j9 => (hf_3394.ai (mem_old hm_3358) (fun h9 => h9) j9).trans (hz_3361 j9)
  have hz_3400 : ∀ j, aI S_3392 q_610 j = 0 := fun j9 => (hf_3394.ai (mem_old hm_3362) (fun h9 => h9) j9).trans (hz_3365 j9)
  have hm_3401 : h ∈ hL S_3392 := hf_3394.mem (mem_old hm_3338)
  have hk_3402 : Kd S_3392 h 9 := hf_3394.kd (mem_old hm_3338) (kd_nO (k := 5) hq_3387 hm_3338 hk_3339)
  have hm_3403 : q_161 ∈ hL S_3392 := hf_3394.mem (mem_old hm_3340)
  have hk_3404 : Kd S_3392 q_161 20 := hf_3394.kd (mem_old hm_3340) (kd_nO (k := 5) hq_3387 hm_3340 hk_3341)
  have hn_3405 : Ln S_3392 q_161 16 := hf_3394.ln (mem_old hm_3340) hn_3342
  have hm_3406 : q_266 ∈ hL S_3392 := hf_3394.mem (mem_old hm_3344)
  have hk_3407 : Kd S_3392 q_266 13 := hf_3394.kd (mem_old hm_3344) (kd_nO (k := 5) hq_3387 hm_3344 hk_3345)
  have hn_3408 : Ln S_3392 q_266 24000 := hf_3394.ln (mem_old hm_3344) hn_3346
  have hm_3409 : q_295 ∈ hL S_3392 := hf_3394.mem (mem_old hm_3348)
  have hk_3410 : Kd S_3392 q_295 14 := hf_3394.kd (mem_old hm_3348) (kd_nO (k := 5) hq_3387 hm_3348 hk_3349)
  have hn_3411 : Ln S_3392 q_295 16 := hf_3394.ln (mem_old hm_3348) hn_3350
  have hm_3412 : q_3386 ∈ hL S_3392 := hf_3394.mem mem_new
  have hk_3413 : Kd S_3392 q_3386 5 := hf_3394.kd mem_new (kd_nO' (k := 5))
  have hm_3414 : q_524 ∈ hL S_3392 := hf_3394.mem (mem_old hm_3354)
  have hk_3415 : Kd S_3392 q_524 18 := hf_3394.kd (mem_old hm_3354) (kd_nO (k := 5) hq_3387 hm_3354 hk_3355)
  have hn_3416 : Ln S_3392 q_524 3 := hf_3394.ln (mem_old hm_3354) hn_3356
  have hm_3417 : q_565 ∈ hL S_3392 := hf_3394.mem (mem_old hm_3358)
  have hk_3418 : Kd S_3392 q_565 19 := hf_3394.kd (mem_old hm_3358) (kd_nO (k := 5) hq_3387 hm_3358 hk_3359)
  have hn_3419 : Ln S_3392 q_565 4 := hf_3394.ln (mem_old hm_3358) hn_3360
  have hm_3420 : q_610 ∈ hL S_3392 := hf_3394.mem (mem_old hm_3362)
  have hk_3421 : Kd S_3392 q_610 14 := hf_3394.kd (mem_old hm_3362) (kd_nO (k := 5) hq_3387 hm_3362 hk_3363)
  have hn_3422 : Ln S_3392 q_610 12 := hf_3394.ln (mem_old hm_3362) hn_3364
  have hv_3423 : hR S_3392 900 h = (some s0) := hf_3394.fr (mem_old hm_3338) (fun q9 => (fun e9 => absurd (((kd_nO (k := 5) hq_3387 hm_3338 hk_3339)).symm.trans ((congrArg (hK _) e9).trans (kd_nO' (k := 5)))) (by decide)) q9) (rd_nOR (k := 5) hq_3387 hm_3338 hv_3366)
  have hv_3424 : hR S_3392 901 h = (some q_1) := hf_3394.fr (mem_old hm_3338) (fun q9 => (fun e9 => absurd (((kd_nO (k := 5) hq_3387 hm_3338 hk_3339)).symm.trans ((congrArg (hK _) e9).trans (kd_nO' (k := 5)))) (by decide)) q9) (rd_nOR (k := 5) hq_3387 hm_3338 hv_3367)
  have hv_3425 : hR S_3392 902 h = (some q_41) := hf_3394.fr (mem_old hm_3338) (fun q9 => (fun e9 => absurd (((kd_nO (k := 5) hq_3387 hm_3338 hk_3339)).symm.trans ((congrArg (hK _) e9).trans (kd_nO' (k := 5)))) (by decide)) q9) (rd_nOR (k := 5) hq_3387 hm_3338 hv_3368)
  have hv_3426 : hR S_3392 903 h = (some q_126) := hf_3394.fr (mem_old hm_3338) (fun q9 => (fun e9 => absurd (((kd_nO (k := 5) hq_3387 hm_3338 hk_3339)).symm.trans ((congrArg (hK _) e9).trans (kd_nO' (k := 5)))) (by decide)) q9) (rd_nOR (k := 5) hq_3387 hm_3338 hv_3369)
  have hv_3427 : hR S_3392 904 h = (some q_161) := hf_3394.fr (mem_old hm_3338) (fun q9 => (fun e9 => absurd (((kd_nO (k := 5) hq_3387 hm_3338 hk_3339)).symm.trans ((congrArg (hK _) e9).trans (kd_nO' (k := 5)))) (by decide)) q9) (rd_nOR (k := 5) hq_3387 hm_3338 hv_3370)
  have hv_3428 : hR S_3392 905 h = (some q_183) := hf_3394.fr (mem_old hm_3338) (fun q9 => (fun e9 => absurd (((kd_nO (k := 5) hq_3387 hm_3338 hk_3339)).symm.trans ((congrArg (hK _) e9).trans (kd_nO' (k := 5)))) (by decide)) q9) (rd_nOR (k := 5) hq_3387 hm_3338 hv_3371)
  have hv_3429 : hR S_3392 906 h = (some q_224) := hf_3394.fr (mem_old hm_3338) (fun q9 => (fun e9 => absurd (((kd_nO (k := 5) hq_3387 hm_3338 hk_3339)).symm.trans ((congrArg (hK _) e9).trans (kd_nO' (k := 5)))) (by decide)) q9) (rd_nOR (k := 5) hq_3387 hm_3338 hv_3372)
  have hv_3430 : hR S_3392 907 h = (some q_266) := hf_3394.fr (mem_old hm_3338) (fun q9 => (fun e9 => absurd (((kd_nO (k := 5) hq_3387 hm_3338 hk_3339)).symm.trans ((congrArg (hK _) e9).trans (kd_nO' (k := 5)))) (by decide)) q9) (rd_nOR (k := 5) hq_3387 hm_3338 hv_3373)
  have hv_3431 : hR S_3392 908 h = (some q_295) := hf_3394.fr (mem_old hm_3338) (fun q9 => (fun e9 => absurd (((kd_nO (k := 5) hq_3387 hm_3338 hk_3339)).symm.trans ((congrArg (hK _) e9).trans (kd_nO' (k := 5)))) (by decide)) q9) (rd_nOR (k := 5) hq_3387 hm_3338 hv_3374)
  have hv_3432 : hR S_3392 909 h = (some q_328) := hf_3394.fr (mem_old hm_3338) (fun q9 => (fun e9 => absurd (((kd_nO (k := 5) hq_3387 hm_3338 hk_3339)).symm.trans ((congrArg (hK _) e9).trans (kd_nO' (k := 5)))) (by decide)) q9) (rd_nOR (k := 5) hq_3387 hm_3338 hv_3375)
  have hv_3433 : hR S_3392 910 h = (some q_425) := hf_3394.fr (mem_old hm_3338) (fun q9 => (fun e9 => absurd (((kd_nO (k := 5) hq_3387 hm_3338 hk_3339)).symm.trans ((congrArg (hK _) e9).trans (kd_nO' (k := 5)))) (by decide)) q9) (rd_nOR (k := 5) hq_3387 hm_3338 hv_3376)
  have hv_3434 : hR S_3392 911 h = (some q_524) := hf_3394.fr (mem_old hm_3338) (fun q9 => (fun e9 => absurd (((kd_nO (k := 5) hq_3387 hm_3338 hk_3339)).symm.trans ((congrArg (hK _) e9).trans (kd_nO' (k := 5)))) (by decide)) q9) (rd_nOR (k := 5) hq_3387 hm_3338 hv_3377)
  have hv_3435 : hR S_3392 912 h = (some q_565) := hf_3394.fr (mem_old hm_3338) (fun q9 => (fun e9 => absurd (((kd_nO (k := 5) hq_3387 hm_3338 hk_3339)).symm.trans ((congrArg (hK _) e9).trans (kd_nO' (k := 5)))) (by decide)) q9) (rd_nOR (k := 5) hq_3387 hm_3338 hv_3378)
  have hv_3436 : hR S_3392 917 h = (some q_610) := hf_3394.fr (mem_old hm_3338) (fun q9 => (fun e9 => absurd (((kd_nO (k := 5) hq_3387 hm_3338 hk_3339)).symm.trans ((congrArg (hK _) e9).trans (kd_nO' (k := 5)))) (by decide)) q9) (rd_nOR (k := 5) hq_3387 hm_3338 hv_3379)
  have hf_3437 : Fm (fun _ _ => False) (fun f9 b9 => b9 = h) (fun _ => False) S S_3392 := hf_3390.then hf_3394 (fun a9 ha9 => ⟨(fun f9 h9 => h9.elim), (fun f9 h9 => (fun h8 => absurd (h8 ▸ ha9) hz_3388) h9), (fun h9 => h9.elim)⟩)
  have hN_3438 : NL S (L_3329 ++ [q_3386]) S_3392 := NL.mono (show NL S (L_3329 ++ [q_3386]) (nO S_3335 q_3386 5) from NL.nO hN_3381 hq_3387 hz_3388) (fun a9 h9 => hf_3394.mem h9)
  have hG_3439 : Gs h gs_3333 S_3392 := Gs.fm (show Gs h gs_3333 (nO S_3335 q_3386 5) from Gs.nO hG_3382 hq_3387) hf_3394 (fun g9 hg9 p9 hp9 => gn_3389 g9 hg9 p9 hp9)
  have hE_3440 : ELs S_3392 q_161 [q_661, q_784, q_908, q_1032, q_1156, q_1280, q_1404, q_1528, q_1652, q_1776, q_1900, q_2024, q_2148, q_2272, q_2396, q_2520] := ELs.fm (ELs.nO (S := S_3335) hE_3383) hf_3394 (mem_old hm_3340) (fun h9 => h9)
  have hE_3441 : ELs S_3392 q_524 [q_2644, q_2815, q_2987] := ELs.fm (ELs.nO (S := S_3335) hE_3384) hf_3394 (mem_old hm_3354) (fun h9 => h9)
  have hE_3442 : ELs S_3392 q_565 [q_3159, q_3272] := ELs.fm (ELs.nO (S := S_3335) hE_3385) hf_3394 (mem_old hm_3358) (fun h9 => h9)
  obtain ⟨L_3443, eL_3444⟩ : ∃ L9 : List Nat, L9 = (L_3329 ++ [q_3386]) := ⟨_, rfl⟩
  rw [← eL_3444] at hN_3438
  have hGt_3445 : Gt 5 [q_3386] S_3392 := ⟨fun i9 k9 h9 => (match i9, h9 with | 0, h9 => (by have e9 : (5 : Nat) = k9 := Option.some.inj h9; subst e9; exact ⟨hm_3412, hk_3413⟩) | i9 + 1, h9 => absurd h9 (by simp [gT])), (fun _ h9 => absurd h9 List.not_mem_nil), (fun _ h9 => absurd h9 List.not_mem_nil), (fun _ h9 => absurd h9 List.not_mem_nil)⟩
  have hG_3446 : Gs h (gs_3333 ++ [(5, [q_3386])]) S_3392 := Gs.snoc hG_3439 (by decide) hGt_3445 (fun _ h9 => absurd h9 List.not_mem_nil)
  obtain ⟨gs_3447, eG_3448⟩ : ∃ G9 : List (Nat × List Nat), G9 = gs_3333 ++ [(5, [q_3386])] := ⟨_, rfl⟩
  rw [← eG_3448] at hG_3446
  refine j_aast (j := 2) (ci := 5) C 19  (by decide) rfl dX9_init_219 hm_3417 hk_3418 (inr_of (n := 4) hn_3419 (vp_lit (by decide))) (by decide) hm_3412 hk_3413 rfl ?_
  have hf_3451 : Fm (fun _ _ => False) (fun f9 b9 => b9 = h) (fun _ => False) S (tR S_3392 q_565 2 (some q_3386)) := (hf_3437.tR _ _ (fun h9 => absurd h9 hz_567))
  obtain ⟨S_3449, eS_3450⟩ : ∃ S9 : Hp, S9 = (tR S_3392 q_565 2 (some q_3386)) := ⟨_, rfl⟩
  refine J.eq (S' := S_3449) eS_3450.symm rfl rfl ?_
  have hm_3452 : h ∈ hL S_3449 := by rw [eS_3450]; exact hm_3401
  have hk_3453 : Kd S_3449 h 9 := by rw [eS_3450]; exact hk_3402
  have hm_3454 : q_161 ∈ hL S_3449 := by rw [eS_3450]; exact hm_3403
  have hk_3455 : Kd S_3449 q_161 20 := by rw [eS_3450]; exact hk_3404
  have hn_3456 : Ln S_3449 q_161 16 := by rw [eS_3450]; exact hn_3405
  have hz_3457 : ∀ j, aI S_3449 q_161 j = 0 := by rw [eS_3450]; exact hz_3395
  have hm_3458 : q_266 ∈ hL S_3449 := by rw [eS_3450]; exact hm_3406
  have hk_3459 : Kd S_3449 q_266 13 := by rw [eS_3450]; exact hk_3407
  have hn_3460 : Ln S_3449 q_266 24000 := by rw [eS_3450]; exact hn_3408
  have hz_3461 : ∀ j, aI S_3449 q_266 j = 0 := by rw [eS_3450]; exact hz_3396
  have hm_3462 : q_295 ∈ hL S_3449 := by rw [eS_3450]; exact hm_3409
  have hk_3463 : Kd S_3449 q_295 14 := by rw [eS_3450]; exact hk_3410
  have hn_3464 : Ln S_3449 q_295 16 := by rw [eS_3450]; exact hn_3411
  have hz_3465 : ∀ j, aI S_3449 q_295 j = 0 := by rw [eS_3450]; exact hz_3397
  have hm_3466 : q_3386 ∈ hL S_3449 := by rw [eS_3450]; exact hm_3412
  have hk_3467 : Kd S_3449 q_3386 5 := by rw [eS_3450]; exact hk_3413
  have hm_3468 : q_524 ∈ hL S_3449 := by rw [eS_3450]; exact hm_3414
  have hk_3469 : Kd S_3449 q_524 18 := by rw [eS_3450]; exact hk_3415
  have hn_3470 : Ln S_3449 q_524 3 := by rw [eS_3450]; exact hn_3416
  have hz_3471 : ∀ j, aI S_3449 q_524 j = 0 := by rw [eS_3450]; exact hz_3398
  have hm_3472 : q_565 ∈ hL S_3449 := by rw [eS_3450]; exact hm_3417
  have hk_3473 : Kd S_3449 q_565 19 := by rw [eS_3450]; exact hk_3418
  have hn_3474 : Ln S_3449 q_565 4 := by rw [eS_3450]; exact hn_3419
  have hz_3475 : ∀ j, aI S_3449 q_565 j = 0 := by rw [eS_3450]; exact hz_3399
  have hm_3476 : q_610 ∈ hL S_3449 := by rw [eS_3450]; exact hm_3420
  have hk_3477 : Kd S_3449 q_610 14 := by rw [eS_3450]; exact hk_3421
  have hn_3478 : Ln S_3449 q_610 12 := by rw [eS_3450]; exact hn_3422
  have hz_3479 : ∀ j, aI S_3449 q_610 j = 0 := by rw [eS_3450]; exact hz_3400
  have hv_3480 : hR S_3449 900 h = (some s0) := by rw [eS_3450]; exact hv_3423
  have hv_3481 : hR S_3449 901 h = (some q_1) := by rw [eS_3450]; exact hv_3424
  have hv_3482 : hR S_3449 902 h = (some q_41) := by rw [eS_3450]; exact hv_3425
  have hv_3483 : hR S_3449 903 h = (some q_126) := by rw [eS_3450]; exact hv_3426
  have hv_3484 : hR S_3449 904 h = (some q_161) := by rw [eS_3450]; exact hv_3427
  have hv_3485 : hR S_3449 905 h = (some q_183) := by rw [eS_3450]; exact hv_3428
  have hv_3486 : hR S_3449 906 h = (some q_224) := by rw [eS_3450]; exact hv_3429
  have hv_3487 : hR S_3449 907 h = (some q_266) := by rw [eS_3450]; exact hv_3430
  have hv_3488 : hR S_3449 908 h = (some q_295) := by rw [eS_3450]; exact hv_3431
  have hv_3489 : hR S_3449 909 h = (some q_328) := by rw [eS_3450]; exact hv_3432
  have hv_3490 : hR S_3449 910 h = (some q_425) := by rw [eS_3450]; exact hv_3433
  have hv_3491 : hR S_3449 911 h = (some q_524) := by rw [eS_3450]; exact hv_3434
  have hv_3492 : hR S_3449 912 h = (some q_565) := by rw [eS_3450]; exact hv_3435
  have hv_3493 : hR S_3449 917 h = (some q_610) := by rw [eS_3450]; exact hv_3436
  have hf_3494 : Fm (fun _ _ => False) (fun f9 b9 => b9 = h) (fun _ => False) S S_3449 := by rw [eS_3450]; exact hf_3451
  have hN_3495 : NL S L_3443 S_3449 := by rw [eS_3450]; exact (NL.tR (S := S_3392) hN_3438)
  have hG_3496 : Gs h gs_3447 S_3449 := by rw [eS_3450]; exact (Gs.tR (S := S_3392) hG_3446)
  have hE_3497 : ELs S_3449 q_161 [q_661, q_784, q_908, q_1032, q_1156, q_1280, q_1404, q_1528, q_1652, q_1776, q_1900, q_2024, q_2148, q_2272, q_2396, q_2520] := by rw [eS_3450]; exact (ELs.tRx (S := S_3392) (fun e9 => absurd ((hk_3404).symm.trans ((congrArg (hK _) e9).trans hk_3418)) (by decide)) hE_3440)
  have hE_3498 : ELs S_3449 q_524 [q_2644, q_2815, q_2987] := by rw [eS_3450]; exact (ELs.tRx (S := S_3392) (fun e9 => absurd ((hk_3415).symm.trans ((congrArg (hK _) e9).trans hk_3418)) (by decide)) hE_3441)
  have hE_3499 : ELs S_3449 q_565 [q_3159, q_3272, q_3386] := by rw [eS_3450]; exact (show ELs (tR S_3392 q_565 2 (some q_3386)) q_565 [q_3159, q_3272, q_3386] from ELs.snoc hE_3442 rfl)
  refine j_iinc (q := 0) (v := 3) (lv' := [(2, .int 3), (0, .ref h), (1, .ref s0)]) C dX9_init_220 rfl (by decide) (by rw [hn9]; decide) rfl ?_
  refine j_goto (tgt := 198) C dX9_init_223 (by decide) ?_
  refine j_iload_n C dX9_init_198 rfl 0 rfl ?_
  refine j_aload_n C dX9_init_199 rfl 1 rfl ?_
  refine j_getr (f := 912) (v := q_565) C flX9_70 dX9_init_200 hm_3452 hk_3453 (by decide) rfl hv_3492 ?_
  refine j_alen (v := 4) C dX9_init_203 hm_3472 hk_3473 (by decide) (by decide) (len_of (n := 4) hn_3474 (by decide)) ?_
  show J _ _ _ _ _ 204 _
  refine j_ic_ge (tgt := 226) C dX9_init_204 (by decide) (fun c9 => absurd c9 (by decide)) (fun c9 => ?_)
  refine j_aload_n C dX9_init_207 rfl 1 rfl ?_
  refine j_getr (f := 912) (v := q_565) C flX9_70 dX9_init_208 hm_3452 hk_3453 (by decide) rfl hv_3492 ?_
  refine j_iload_n C dX9_init_211 rfl 0 rfl ?_
  refine j_new (N := 13) C (ci := 5) rfl rfl klX9_68 knX5 kiX5 (M.cells (by decide)) (M.slots (by decide)) dX9_init_212 (fun q_3500 hq_3501 => ?_)
  have hz_3502 : q_3500 ∉ hL S := fun h9 => hq_3501 (hf_3494.mem h9)
  have gn_3503 : ∀ g9 ∈ gs_3447, ∀ p9 ∈ (gT g9.1).2.2, g9.2.getD p9.2.1 0 ≠ q_3500 := Gs.ne hG_3496 hq_3501
  refine j_dup C dX9_init_215 rfl ?_
  have hf_3504 : Fm (fun _ _ => False) (fun f9 b9 => b9 = h) (fun _ => False) S (nO S_3449 q_3500 5) := (hf_3494.nO _ hq_3501)
  refine j_callI C [] [.ref q_3500, .int 3, .ref q_565] mlX9_81 mcX5_init (c_X5_init (nO S_3449 q_3500 5) q_3500 mem_new (kd_nO' (k := 5))) (M.rm (by decide) (by decide) (Nat.le_of_ble_eq_true rfl) (Nat.le_of_ble_eq_true rfl)) rfl rfl (Nat.le_of_ble_eq_true rfl) dX9_init_216 (fun r_3505 S_3506 hp_3507 => ?_)
  obtain ⟨rfl, hf_3508⟩ := hp_3507
  refine J.eq (st' := [.ref q_3500, .int 3, .ref q_565]) rfl rfl rfl ?_
  have hz_3509 : ∀ j, aI S_3506 q_161 j = 0 := fun j9 => (hf_3508.ai (mem_old hm_3454) (fun h9 => h9) j9).trans (hz_3457 j9)
  have hz_3510 : ∀ j, aI S_3506 q_266 j = 0 := fun j9 => (hf_3508.ai (mem_old hm_3458) (fun h9 => h9) j9).trans (hz_3461 j9)
  have hz_3511 : ∀ j, aI S_3506 q_295 j = 0 := fun j9 => (hf_3508.ai (mem_old hm_3462) (fun h9 => h9) j9).trans (hz_3465 j9)
  have hz_3512 : ∀ j, aI S_3506 q_524 j = 0 := fun j9 => (hf_3508.ai (mem_old hm_3468) (fun h9 => h9) j9).trans (hz_3471 j9)
  have hz_3513 : ∀ j, aI S_3506 q_565 j = 0 := fun j9 => (hf_3508.ai (mem_old hm_3472) (fun h9 => h9) j9).trans (hz_3475 j9)
  have hz_3514 : ∀ j, aI S_3506 q_610 j = 0 := fun j9 => (hf_3508.ai (mem_old hm_3476) (fun h9 => h9) j9).trans (hz_3479 j9)
  have hm_3515 : h ∈ hL S_3506 := hf_3508.mem (mem_old hm_3452)
  have hk_3516 : Kd S_3506 h 9 := hf_3508.kd (mem_old hm_3452) (kd_nO (k := 5) hq_3501 hm_3452 hk_3453)
  have hm_3517 : q_161 ∈ hL S_3506 := hf_3508.mem (mem_old hm_3454)
  have hk_3518 : Kd S_3506 q_161 20 := hf_3508.kd (mem_old hm_3454) (kd_nO (k := 5) hq_3501 hm_3454 hk_3455)
  have hn_3519 : Ln S_3506 q_161 16 := hf_3508.ln (mem_old hm_3454) hn_3456
  have hm_3520 : q_266 ∈ hL S_3506 := hf_3508.mem (mem_old hm_3458)
  have hk_3521 : Kd S_3506 q_266 13 := hf_3508.kd (mem_old hm_3458) (kd_nO (k := 5) hq_3501 hm_3458 hk_3459)
  have hn_3522 : Ln S_3506 q_266 24000 := hf_3508.ln (mem_old hm_3458) hn_3460
  have hm_3523 : q_295 ∈ hL S_3506 := hf_3508.mem (mem_old hm_3462)
  have hk_3524 : Kd S_3506 q_295 14 := hf_3508.kd (mem_old hm_3462) (kd_nO (k := 5) hq_3501 hm_3462 hk_3463)
  have hn_3525 : Ln S_3506 q_295 16 := hf_3508.ln (mem_old hm_3462) hn_3464
  have hm_3526 : q_3500 ∈ hL S_3506 := hf_3508.mem mem_new
  have hk_3527 : Kd S_3506 q_3500 5 := hf_3508.kd mem_new (kd_nO' (k := 5))
  have hm_3528 : q_524 ∈ hL S_3506 := hf_3508.mem (mem_old hm_3468)
  have hk_3529 : Kd S_3506 q_524 18 := hf_3508.kd (mem_old hm_3468) (kd_nO (k := 5) hq_3501 hm_3468 hk_3469)
  have hn_3530 : Ln S_3506 q_524 3 := hf_3508.ln (mem_old hm_3468) hn_3470
  have hm_3531 : q_565 ∈ hL S_3506 := hf_3508.mem (mem_old hm_3472)
  have hk_3532 : Kd S_3506 q_565 19 := hf_3508.kd (mem_old hm_3472) (kd_nO (k := 5) hq_3501 hm_3472 hk_3473)
  have hn_3533 : Ln S_3506 q_565 4 := hf_3508.ln (mem_old hm_3472) hn_3474
  have hm_3534 : q_610 ∈ hL S_3506 := hf_3508.mem (mem_old hm_3476)
  have hk_3535 : Kd S_3506 q_610 14 := hf_3508.kd (mem_old hm_3476) (kd_nO (k := 5) hq_3501 hm_3476 hk_3477)
  have hn_3536 : Ln S_3506 q_610 12 := hf_3508.ln (mem_old hm_3476) hn_3478
  have hv_3537 : hR S_3506 900 h = (some s0) := hf_3508.fr (mem_old hm_3452) (fun q9 => (fun e9 => absurd (((kd_nO (k := 5) hq_3501 hm_3452 hk_3453)).symm.trans ((congrArg (hK _) e9).trans (kd_nO' (k := 5)))) (by decide)) q9) (rd_nOR (k := 5) hq_3501 hm_3452 hv_3480)
  have hv_3538 : hR S_3506 901 h = (some q_1) := hf_3508.fr (mem_old hm_3452) (fun q9 => (fun e9 => absurd (((kd_nO (k := 5) hq_3501 hm_3452 hk_3453)).symm.trans ((congrArg (hK _) e9).trans (kd_nO' (k := 5)))) (by decide)) q9) (rd_nOR (k := 5) hq_3501 hm_3452 hv_3481)
  have hv_3539 : hR S_3506 902 h = (some q_41) := hf_3508.fr (mem_old hm_3452) (fun q9 => (fun e9 => absurd (((kd_nO (k := 5) hq_3501 hm_3452 hk_3453)).symm.trans ((congrArg (hK _) e9).trans (kd_nO' (k := 5)))) (by decide)) q9) (rd_nOR (k := 5) hq_3501 hm_3452 hv_3482)
  have hv_3540 : hR S_3506 903 h = (some q_126) := hf_3508.fr (mem_old hm_3452) (fun q9 => (fun e9 => absurd (((kd_nO (k := 5) hq_3501 hm_3452 hk_3453)).symm.trans ((congrArg (hK _) e9).trans (kd_nO' (k := 5)))) (by decide)) q9) (rd_nOR (k := 5) hq_3501 hm_3452 hv_3483)
  have hv_3541 : hR S_3506 904 h = (some q_161) := hf_3508.fr (mem_old hm_3452) (fun q9 => (fun e9 => absurd (((kd_nO (k := 5) hq_3501 hm_3452 hk_3453)).symm.trans ((congrArg (hK _) e9).trans (kd_nO' (k := 5)))) (by decide)) q9) (rd_nOR (k := 5) hq_3501 hm_3452 hv_3484)
  have hv_3542 : hR S_3506 905 h = (some q_183) := hf_3508.fr (mem_old hm_3452) (fun q9 => (fun e9 => absurd (((kd_nO (k := 5) hq_3501 hm_3452 hk_3453)).symm.trans ((congrArg (hK _) e9).trans (kd_nO' (k := 5)))) (by decide)) q9) (rd_nOR (k := 5) hq_3501 hm_3452 hv_3485)
  have hv_3543 : hR S_3506 906 h = (some q_224) := hf_3508.fr (mem_old hm_3452) (fun q9 => (fun e9 => absurd (((kd_nO (k := 5) hq_3501 hm_3452 hk_3453)).symm.trans ((congrArg (hK _) e9).trans (kd_nO' (k := 5)))) (by decide)) q9) (rd_nOR (k := 5) hq_3501 hm_3452 hv_3486)
  have hv_3544 : hR S_3506 907 h = (some q_266) := hf_3508.fr (mem_old hm_3452) (fun q9 => (fun e9 => absurd (((kd_nO (k := 5) hq_3501 hm_3452 hk_3453)).symm.trans ((congrArg (hK _) e9).trans (kd_nO' (k := 5)))) (by decide)) q9) (rd_nOR (k := 5) hq_3501 hm_3452 hv_3487)
  have hv_3545 : hR S_3506 908 h = (some q_295) := hf_3508.fr (mem_old hm_3452) (fun q9 => (fun e9 => absurd (((kd_nO (k := 5) hq_3501 hm_3452 hk_3453)).symm.trans ((congrArg (hK _) e9).trans (kd_nO' (k := 5)))) (by decide)) q9) (rd_nOR (k := 5) hq_3501 hm_3452 hv_3488)
  have hv_3546 : hR S_3506 909 h = (some q_328) := hf_3508.fr (mem_old hm_3452) (fun q9 => (fun e9 => absurd (((kd_nO (k := 5) hq_3501 hm_3452 hk_3453)).symm.trans ((congrArg (hK _) e9).trans (kd_nO' (k := 5)))) (by decide)) q9) (rd_nOR (k := 5) hq_3501 hm_3452 hv_3489)
  have hv_3547 : hR S_3506 910 h = (some q_425) := hf_3508.fr (mem_old hm_3452) (fun q9 => (fun e9 => absurd (((kd_nO (k := 5) hq_3501 hm_3452 hk_3453)).symm.trans ((congrArg (hK _) e9).trans (kd_nO' (k := 5)))) (by decide)) q9) (rd_nOR (k := 5) hq_3501 hm_3452 hv_3490)
  have hv_3548 : hR S_3506 911 h = (some q_524) := hf_3508.fr (mem_old hm_3452) (fun q9 => (fun e9 => absurd (((kd_nO (k := 5) hq_3501 hm_3452 hk_3453)).symm.trans ((congrArg (hK _) e9).trans (kd_nO' (k := 5)))) (by decide)) q9) (rd_nOR (k := 5) hq_3501 hm_3452 hv_3491)
  have hv_3549 : hR S_3506 912 h = (some q_565) := hf_3508.fr (mem_old hm_3452) (fun q9 => (fun e9 => absurd (((kd_nO (k := 5) hq_3501 hm_3452 hk_3453)).symm.trans ((congrArg (hK _) e9).trans (kd_nO' (k := 5)))) (by decide)) q9) (rd_nOR (k := 5) hq_3501 hm_3452 hv_3492)
  have hv_3550 : hR S_3506 917 h = (some q_610) := hf_3508.fr (mem_old hm_3452) (fun q9 => (fun e9 => absurd (((kd_nO (k := 5) hq_3501 hm_3452 hk_3453)).symm.trans ((congrArg (hK _) e9).trans (kd_nO' (k := 5)))) (by decide)) q9) (rd_nOR (k := 5) hq_3501 hm_3452 hv_3493)
  have hf_3551 : Fm (fun _ _ => False) (fun f9 b9 => b9 = h) (fun _ => False) S S_3506 := hf_3504.then hf_3508 (fun a9 ha9 => ⟨(fun f9 h9 => h9.elim), (fun f9 h9 => (fun h8 => absurd (h8 ▸ ha9) hz_3502) h9), (fun h9 => h9.elim)⟩)
  have hN_3552 : NL S (L_3443 ++ [q_3500]) S_3506 := NL.mono (show NL S (L_3443 ++ [q_3500]) (nO S_3449 q_3500 5) from NL.nO hN_3495 hq_3501 hz_3502) (fun a9 h9 => hf_3508.mem h9)
  have hG_3553 : Gs h gs_3447 S_3506 := Gs.fm (show Gs h gs_3447 (nO S_3449 q_3500 5) from Gs.nO hG_3496 hq_3501) hf_3508 (fun g9 hg9 p9 hp9 => gn_3503 g9 hg9 p9 hp9)
  have hE_3554 : ELs S_3506 q_161 [q_661, q_784, q_908, q_1032, q_1156, q_1280, q_1404, q_1528, q_1652, q_1776, q_1900, q_2024, q_2148, q_2272, q_2396, q_2520] := ELs.fm (ELs.nO (S := S_3449) hE_3497) hf_3508 (mem_old hm_3454) (fun h9 => h9)
  have hE_3555 : ELs S_3506 q_524 [q_2644, q_2815, q_2987] := ELs.fm (ELs.nO (S := S_3449) hE_3498) hf_3508 (mem_old hm_3468) (fun h9 => h9)
  have hE_3556 : ELs S_3506 q_565 [q_3159, q_3272, q_3386] := ELs.fm (ELs.nO (S := S_3449) hE_3499) hf_3508 (mem_old hm_3472) (fun h9 => h9)
  obtain ⟨L_3557, eL_3558⟩ : ∃ L9 : List Nat, L9 = (L_3443 ++ [q_3500]) := ⟨_, rfl⟩
  rw [← eL_3558] at hN_3552
  have hGt_3559 : Gt 5 [q_3500] S_3506 := ⟨fun i9 k9 h9 => (match i9, h9 with | 0, h9 => (by have e9 : (5 : Nat) = k9 := Option.some.inj h9; subst e9; exact ⟨hm_3526, hk_3527⟩) | i9 + 1, h9 => absurd h9 (by simp [gT])), (fun _ h9 => absurd h9 List.not_mem_nil), (fun _ h9 => absurd h9 List.not_mem_nil), (fun _ h9 => absurd h9 List.not_mem_nil)⟩
  have hG_3560 : Gs h (gs_3447 ++ [(5, [q_3500])]) S_3506 := Gs.snoc hG_3553 (by decide) hGt_3559 (fun _ h9 => absurd h9 List.not_mem_nil)
  obtain ⟨gs_3561, eG_3562⟩ : ∃ G9 : List (Nat × List Nat), G9 = gs_3447 ++ [(5, [q_3500])] := ⟨_, rfl⟩
  rw [← eG_3562] at hG_3560
  refine j_aast (j := 3) (ci := 5) C 19  (by decide) rfl dX9_init_219 hm_3531 hk_3532 (inr_of (n := 4) hn_3533 (vp_lit (by decide))) (by decide) hm_3526 hk_3527 rfl ?_
  have hf_3565 : Fm (fun _ _ => False) (fun f9 b9 => b9 = h) (fun _ => False) S (tR S_3506 q_565 3 (some q_3500)) := (hf_3551.tR _ _ (fun h9 => absurd h9 hz_567))
  obtain ⟨S_3563, eS_3564⟩ : ∃ S9 : Hp, S9 = (tR S_3506 q_565 3 (some q_3500)) := ⟨_, rfl⟩
  refine J.eq (S' := S_3563) eS_3564.symm rfl rfl ?_
  have hm_3566 : h ∈ hL S_3563 := by rw [eS_3564]; exact hm_3515
  have hk_3567 : Kd S_3563 h 9 := by rw [eS_3564]; exact hk_3516
  have hm_3568 : q_161 ∈ hL S_3563 := by rw [eS_3564]; exact hm_3517
  have hk_3569 : Kd S_3563 q_161 20 := by rw [eS_3564]; exact hk_3518
  have hn_3570 : Ln S_3563 q_161 16 := by rw [eS_3564]; exact hn_3519
  have hz_3571 : ∀ j, aI S_3563 q_161 j = 0 := by rw [eS_3564]; exact hz_3509
  have hm_3572 : q_266 ∈ hL S_3563 := by rw [eS_3564]; exact hm_3520
  have hk_3573 : Kd S_3563 q_266 13 := by rw [eS_3564]; exact hk_3521
  have hn_3574 : Ln S_3563 q_266 24000 := by rw [eS_3564]; exact hn_3522
  have hz_3575 : ∀ j, aI S_3563 q_266 j = 0 := by rw [eS_3564]; exact hz_3510
  have hm_3576 : q_295 ∈ hL S_3563 := by rw [eS_3564]; exact hm_3523
  have hk_3577 : Kd S_3563 q_295 14 := by rw [eS_3564]; exact hk_3524
  have hn_3578 : Ln S_3563 q_295 16 := by rw [eS_3564]; exact hn_3525
  have hz_3579 : ∀ j, aI S_3563 q_295 j = 0 := by rw [eS_3564]; exact hz_3511
  have hm_3580 : q_3500 ∈ hL S_3563 := by rw [eS_3564]; exact hm_3526
  have hk_3581 : Kd S_3563 q_3500 5 := by rw [eS_3564]; exact hk_3527
  have hm_3582 : q_524 ∈ hL S_3563 := by rw [eS_3564]; exact hm_3528
  have hk_3583 : Kd S_3563 q_524 18 := by rw [eS_3564]; exact hk_3529
  have hn_3584 : Ln S_3563 q_524 3 := by rw [eS_3564]; exact hn_3530
  have hz_3585 : ∀ j, aI S_3563 q_524 j = 0 := by rw [eS_3564]; exact hz_3512
  have hm_3586 : q_565 ∈ hL S_3563 := by rw [eS_3564]; exact hm_3531
  have hk_3587 : Kd S_3563 q_565 19 := by rw [eS_3564]; exact hk_3532
  have hn_3588 : Ln S_3563 q_565 4 := by rw [eS_3564]; exact hn_3533
  have hz_3589 : ∀ j, aI S_3563 q_565 j = 0 := by rw [eS_3564]; exact hz_3513
  have hm_3590 : q_610 ∈ hL S_3563 := by rw [eS_3564]; exact hm_3534
  have hk_3591 : Kd S_3563 q_610 14 := by rw [eS_3564]; exact hk_3535
  have hn_3592 : Ln S_3563 q_610 12 := by rw [eS_3564]; exact hn_3536
  have hz_3593 : ∀ j, aI S_3563 q_610 j = 0 := by rw [eS_3564]; exact hz_3514
  have hv_3594 : hR S_3563 900 h = (some s0) := by rw [eS_3564]; exact hv_3537
  have hv_3595 : hR S_3563 901 h = (some q_1) := by rw [eS_3564]; exact hv_3538
  have hv_3596 : hR S_3563 902 h = (some q_41) := by rw [eS_3564]; exact hv_3539
  have hv_3597 : hR S_3563 903 h = (some q_126) := by rw [eS_3564]; exact hv_3540
  have hv_3598 : hR S_3563 904 h = (some q_161) := by rw [eS_3564]; exact hv_3541
  have hv_3599 : hR S_3563 905 h = (some q_183) := by rw [eS_3564]; exact hv_3542
  have hv_3600 : hR S_3563 906 h = (some q_224) := by rw [eS_3564]; exact hv_3543
  have hv_3601 : hR S_3563 907 h = (some q_266) := by rw [eS_3564]; exact hv_3544
  have hv_3602 : hR S_3563 908 h = (some q_295) := by rw [eS_3564]; exact hv_3545
  have hv_3603 : hR S_3563 909 h = (some q_328) := by rw [eS_3564]; exact hv_3546
  have hv_3604 : hR S_3563 910 h = (some q_425) := by rw [eS_3564]; exact hv_3547
  have hv_3605 : hR S_3563 911 h = (some q_524) := by rw [eS_3564]; exact hv_3548
  have hv_3606 : hR S_3563 912 h = (some q_565) := by rw [eS_3564]; exact hv_3549
  have hv_3607 : hR S_3563 917 h = (some q_610) := by rw [eS_3564]; exact hv_3550
  have hf_3608 : Fm (fun _ _ => False) (fun f9 b9 => b9 = h) (fun _ => False) S S_3563 := by rw [eS_3564]; exact hf_3565
  have hN_3609 : NL S L_3557 S_3563 := by rw [eS_3564]; exact (NL.tR (S := S_3506) hN_3552)
  have hG_3610 : Gs h gs_3561 S_3563 := by rw [eS_3564]; exact (Gs.tR (S := S_3506) hG_3560)
  have hE_3611 : ELs S_3563 q_161 [q_661, q_784, q_908, q_1032, q_1156, q_1280, q_1404, q_1528, q_1652, q_1776, q_1900, q_2024, q_2148, q_2272, q_2396, q_2520] := by rw [eS_3564]; exact (ELs.tRx (S := S_3506) (fun e9 => absurd ((hk_3518).symm.trans ((congrArg (hK _) e9).trans hk_3532)) (by decide)) hE_3554)
  have hE_3612 : ELs S_3563 q_524 [q_2644, q_2815, q_2987] := by rw [eS_3564]; exact (ELs.tRx (S := S_3506) (fun e9 => absurd ((hk_3529).symm.trans ((congrArg (hK _) e9).trans hk_3532)) (by decide)) hE_3555)
  have hE_3613 : ELs S_3563 q_565 [q_3159, q_3272, q_3386, q_3500] := by rw [eS_3564]; exact (show ELs (tR S_3506 q_565 3 (some q_3500)) q_565 [q_3159, q_3272, q_3386, q_3500] from ELs.snoc hE_3556 rfl)
  show J _ _ _ _ _ 220 _
  refine j_iinc (q := 0) (v := 4) (lv' := [(2, .int 4), (0, .ref h), (1, .ref s0)]) C dX9_init_220 rfl (by decide) (by rw [hn9]; decide) rfl ?_
  refine j_goto (tgt := 198) C dX9_init_223 (by decide) ?_
  refine j_iload_n C dX9_init_198 rfl 0 rfl ?_
  refine j_aload_n C dX9_init_199 rfl 1 rfl ?_
  refine j_getr (f := 912) (v := q_565) C flX9_70 dX9_init_200 hm_3566 hk_3567 (by decide) rfl hv_3606 ?_
  refine j_alen (v := 4) C dX9_init_203 hm_3586 hk_3587 (by decide) (by decide) (len_of (n := 4) hn_3588 (by decide)) ?_
  refine j_ic_ge (tgt := 226) C dX9_init_204 (by decide) (fun c9 => ?_) (fun c9 => absurd (by decide) c9)
  refine j_aload_n C dX9_init_226 rfl 1 rfl ?_
  show J _ _ _ _ _ 227 _
  refine j_new (N := 13) C (ci := 5) rfl rfl klX9_68 knX5 kiX5 (M.cells (by decide)) (M.slots (by decide)) dX9_init_227 (fun q_3614 hq_3615 => ?_)
  have hz_3616 : q_3614 ∉ hL S := fun h9 => hq_3615 (hf_3608.mem h9)
  have gn_3617 : ∀ g9 ∈ gs_3561, ∀ p9 ∈ (gT g9.1).2.2, g9.2.getD p9.2.1 0 ≠ q_3614 := Gs.ne hG_3610 hq_3615
  refine j_dup C dX9_init_230 rfl ?_
  have hf_3618 : Fm (fun _ _ => False) (fun f9 b9 => b9 = h) (fun _ => False) S (nO S_3563 q_3614 5) := (hf_3608.nO _ hq_3615)
  refine j_callI C [] [.ref q_3614, .ref h] mlX9_81 mcX5_init (c_X5_init (nO S_3563 q_3614 5) q_3614 mem_new (kd_nO' (k := 5))) (M.rm (by decide) (by decide) (Nat.le_of_ble_eq_true rfl) (Nat.le_of_ble_eq_true rfl)) rfl rfl (Nat.le_of_ble_eq_true rfl) dX9_init_231 (fun r_3619 S_3620 hp_3621 => ?_)
  obtain ⟨rfl, hf_3622⟩ := hp_3621
  refine J.eq (st' := [.ref q_3614, .ref h]) rfl rfl rfl ?_
  have hz_3623 : ∀ j, aI S_3620 q_161 j = 0 := fun j9 => (hf_3622.ai (mem_old hm_3568) (fun h9 => h9) j9).trans (hz_3571 j9)
  have hz_3624 : ∀ j, aI S_3620 q_266 j = 0 := fun j9 => (hf_3622.ai (mem_old hm_3572) (fun h9 => h9) j9).trans (hz_3575 j9)
  have hz_3625 : ∀ j, aI S_3620 q_295 j = 0 := fun j9 => (hf_3622.ai (mem_old hm_3576) (fun h9 => h9) j9).trans (hz_3579 j9)
  have hz_3626 : ∀ j, aI S_3620 q_524 j = 0 := fun j9 => (hf_3622.ai (mem_old hm_3582) (fun h9 => h9) j9).trans (hz_3585 j9)
  have hz_3627 : ∀ j, aI S_3620 q_565 j = 0 := fun j9 => (hf_3622.ai (mem_old hm_3586) (fun h9 => h9) j9).trans (hz_3589 j9)
  have hz_3628 : ∀ j, aI S_3620 q_610 j = 0 := fun j9 => (hf_3622.ai (mem_old hm_3590) (fun h9 => h9) j9).trans (hz_3593 j9)
  have hm_3629 : h ∈ hL S_3620 := hf_3622.mem (mem_old hm_3566)
  have hk_3630 : Kd S_3620 h 9 := hf_3622.kd (mem_old hm_3566) (kd_nO (k := 5) hq_3615 hm_3566 hk_3567)
  have hm_3631 : q_161 ∈ hL S_3620 := hf_3622.mem (mem_old hm_3568)
  have hk_3632 : Kd S_3620 q_161 20 := hf_3622.kd (mem_old hm_3568) (kd_nO (k := 5) hq_3615 hm_3568 hk_3569)
  have hn_3633 : Ln S_3620 q_161 16 := hf_3622.ln (mem_old hm_3568) hn_3570
  have hm_3634 : q_266 ∈ hL S_3620 := hf_3622.mem (mem_old hm_3572)
  have hk_3635 : Kd S_3620 q_266 13 := hf_3622.kd (mem_old hm_3572) (kd_nO (k := 5) hq_3615 hm_3572 hk_3573)
  have hn_3636 : Ln S_3620 q_266 24000 := hf_3622.ln (mem_old hm_3572) hn_3574
  have hm_3637 : q_295 ∈ hL S_3620 := hf_3622.mem (mem_old hm_3576)
  have hk_3638 : Kd S_3620 q_295 14 := hf_3622.kd (mem_old hm_3576) (kd_nO (k := 5) hq_3615 hm_3576 hk_3577)
  have hn_3639 : Ln S_3620 q_295 16 := hf_3622.ln (mem_old hm_3576) hn_3578
  have hm_3640 : q_3614 ∈ hL S_3620 := hf_3622.mem mem_new
  have hk_3641 : Kd S_3620 q_3614 5 := hf_3622.kd mem_new (kd_nO' (k := 5))
  have hm_3642 : q_524 ∈ hL S_3620 := hf_3622.mem (mem_old hm_3582)
  have hk_3643 : Kd S_3620 q_524 18 := hf_3622.kd (mem_old hm_3582) (kd_nO (k := 5) hq_3615 hm_3582 hk_3583)
  have hn_3644 : Ln S_3620 q_524 3 := hf_3622.ln (mem_old hm_3582) hn_3584
  have hm_3645 : q_565 ∈ hL S_3620 := hf_3622.mem (mem_old hm_3586)
  have hk_3646 : Kd S_3620 q_565 19 := hf_3622.kd (mem_old hm_3586) (kd_nO (k := 5) hq_3615 hm_3586 hk_3587)
  have hn_3647 : Ln S_3620 q_565 4 := hf_3622.ln (mem_old hm_3586) hn_3588
  have hm_3648 : q_610 ∈ hL S_3620 := hf_3622.mem (mem_old hm_3590)
  have hk_3649 : Kd S_3620 q_610 14 := hf_3622.kd (mem_old hm_3590) (kd_nO (k := 5) hq_3615 hm_3590 hk_3591)
  have hn_3650 : Ln S_3620 q_610 12 := hf_3622.ln (mem_old hm_3590) hn_3592
  have hv_3651 : hR S_3620 900 h = (some s0) := hf_3622.fr (mem_old hm_3566) (fun q9 => (fun e9 => absurd (((kd_nO (k := 5) hq_3615 hm_3566 hk_3567)).symm.trans ((congrArg (hK _) e9).trans (kd_nO' (k := 5)))) (by decide)) q9) (rd_nOR (k := 5) hq_3615 hm_3566 hv_3594)
  have hv_3652 : hR S_3620 901 h = (some q_1) := hf_3622.fr (mem_old hm_3566) (fun q9 => (fun e9 => absurd (((kd_nO (k := 5) hq_3615 hm_3566 hk_3567)).symm.trans ((congrArg (hK _) e9).trans (kd_nO' (k := 5)))) (by decide)) q9) (rd_nOR (k := 5) hq_3615 hm_3566 hv_3595)
  have hv_3653 : hR S_3620 902 h = (some q_41) := hf_3622.fr (mem_old hm_3566) (fun q9 => (fun e9 => absurd (((kd_nO (k := 5) hq_3615 hm_3566 hk_3567)).symm.trans ((congrArg (hK _) e9).trans (kd_nO' (k := 5)))) (by decide)) q9) (rd_nOR (k := 5) hq_3615 hm_3566 hv_3596)
  have hv_3654 : hR S_3620 903 h = (some q_126) := hf_3622.fr (mem_old hm_3566) (fun q9 => (fun e9 => absurd (((kd_nO (k := 5) hq_3615 hm_3566 hk_3567)).symm.trans ((congrArg (hK _) e9).trans (kd_nO' (k := 5)))) (by decide)) q9) (rd_nOR (k := 5) hq_3615 hm_3566 hv_3597)
  have hv_3655 : hR S_3620 904 h = (some q_161) := hf_3622.fr (mem_old hm_3566) (fun q9 => (fun e9 => absurd (((kd_nO (k := 5) hq_3615 hm_3566 hk_3567)).symm.trans ((congrArg (hK _) e9).trans (kd_nO' (k := 5)))) (by decide)) q9) (rd_nOR (k := 5) hq_3615 hm_3566 hv_3598)
  have hv_3656 : hR S_3620 905 h = (some q_183) := hf_3622.fr (mem_old hm_3566) (fun q9 => (fun e9 => absurd (((kd_nO (k := 5) hq_3615 hm_3566 hk_3567)).symm.trans ((congrArg (hK _) e9).trans (kd_nO' (k := 5)))) (by decide)) q9) (rd_nOR (k := 5) hq_3615 hm_3566 hv_3599)
  have hv_3657 : hR S_3620 906 h = (some q_224) := hf_3622.fr (mem_old hm_3566) (fun q9 => (fun e9 => absurd (((kd_nO (k := 5) hq_3615 hm_3566 hk_3567)).symm.trans ((congrArg (hK _) e9).trans (kd_nO' (k := 5)))) (by decide)) q9) (rd_nOR (k := 5) hq_3615 hm_3566 hv_3600)
  have hv_3658 : hR S_3620 907 h = (some q_266) := hf_3622.fr (mem_old hm_3566) (fun q9 => (fun e9 => absurd (((kd_nO (k := 5) hq_3615 hm_3566 hk_3567)).symm.trans ((congrArg (hK _) e9).trans (kd_nO' (k := 5)))) (by decide)) q9) (rd_nOR (k := 5) hq_3615 hm_3566 hv_3601)
  have hv_3659 : hR S_3620 908 h = (some q_295) := hf_3622.fr (mem_old hm_3566) (fun q9 => (fun e9 => absurd (((kd_nO (k := 5) hq_3615 hm_3566 hk_3567)).symm.trans ((congrArg (hK _) e9).trans (kd_nO' (k := 5)))) (by decide)) q9) (rd_nOR (k := 5) hq_3615 hm_3566 hv_3602)
  have hv_3660 : hR S_3620 909 h = (some q_328) := hf_3622.fr (mem_old hm_3566) (fun q9 => (fun e9 => absurd (((kd_nO (k := 5) hq_3615 hm_3566 hk_3567)).symm.trans ((congrArg (hK _) e9).trans (kd_nO' (k := 5)))) (by decide)) q9) (rd_nOR (k := 5) hq_3615 hm_3566 hv_3603)
  have hv_3661 : hR S_3620 910 h = (some q_425) := hf_3622.fr (mem_old hm_3566) (fun q9 => (fun e9 => absurd (((kd_nO (k := 5) hq_3615 hm_3566 hk_3567)).symm.trans ((congrArg (hK _) e9).trans (kd_nO' (k := 5)))) (by decide)) q9) (rd_nOR (k := 5) hq_3615 hm_3566 hv_3604)
  have hv_3662 : hR S_3620 911 h = (some q_524) := hf_3622.fr (mem_old hm_3566) (fun q9 => (fun e9 => absurd (((kd_nO (k := 5) hq_3615 hm_3566 hk_3567)).symm.trans ((congrArg (hK _) e9).trans (kd_nO' (k := 5)))) (by decide)) q9) (rd_nOR (k := 5) hq_3615 hm_3566 hv_3605)
  have hv_3663 : hR S_3620 912 h = (some q_565) := hf_3622.fr (mem_old hm_3566) (fun q9 => (fun e9 => absurd (((kd_nO (k := 5) hq_3615 hm_3566 hk_3567)).symm.trans ((congrArg (hK _) e9).trans (kd_nO' (k := 5)))) (by decide)) q9) (rd_nOR (k := 5) hq_3615 hm_3566 hv_3606)
  have hv_3664 : hR S_3620 917 h = (some q_610) := hf_3622.fr (mem_old hm_3566) (fun q9 => (fun e9 => absurd (((kd_nO (k := 5) hq_3615 hm_3566 hk_3567)).symm.trans ((congrArg (hK _) e9).trans (kd_nO' (k := 5)))) (by decide)) q9) (rd_nOR (k := 5) hq_3615 hm_3566 hv_3607)
  have hf_3665 : Fm (fun _ _ => False) (fun f9 b9 => b9 = h) (fun _ => False) S S_3620 := hf_3618.then hf_3622 (fun a9 ha9 => ⟨(fun f9 h9 => h9.elim), (fun f9 h9 => (fun h8 => absurd (h8 ▸ ha9) hz_3616) h9), (fun h9 => h9.elim)⟩)
  have hN_3666 : NL S L_3557 S_3620 := NL.mono (show NL S L_3557 (nO S_3563 q_3614 5) from NL.oldO hN_3609) (fun a9 h9 => hf_3622.mem h9)
  have hG_3667 : Gs h gs_3561 S_3620 := Gs.fm (show Gs h gs_3561 (nO S_3563 q_3614 5) from Gs.nO hG_3610 hq_3615) hf_3622 (fun g9 hg9 p9 hp9 => gn_3617 g9 hg9 p9 hp9)
  have hE_3668 : ELs S_3620 q_161 [q_661, q_784, q_908, q_1032, q_1156, q_1280, q_1404, q_1528, q_1652, q_1776, q_1900, q_2024, q_2148, q_2272, q_2396, q_2520] := ELs.fm (ELs.nO (S := S_3563) hE_3611) hf_3622 (mem_old hm_3568) (fun h9 => h9)
  have hE_3669 : ELs S_3620 q_524 [q_2644, q_2815, q_2987] := ELs.fm (ELs.nO (S := S_3563) hE_3612) hf_3622 (mem_old hm_3582) (fun h9 => h9)
  have hE_3670 : ELs S_3620 q_565 [q_3159, q_3272, q_3386, q_3500] := ELs.fm (ELs.nO (S := S_3563) hE_3613) hf_3622 (mem_old hm_3586) (fun h9 => h9)
  have hGt_3671 : Gt 5 [q_3614] S_3620 := ⟨fun i9 k9 h9 => (match i9, h9 with | 0, h9 => (by have e9 : (5 : Nat) = k9 := Option.some.inj h9; subst e9; exact ⟨hm_3640, hk_3641⟩) | i9 + 1, h9 => absurd h9 (by simp [gT])), (fun _ h9 => absurd h9 List.not_mem_nil), (fun _ h9 => absurd h9 List.not_mem_nil), (fun _ h9 => absurd h9 List.not_mem_nil)⟩
  have hG_3672 : Gs h (gs_3561 ++ [(5, [q_3614])]) S_3620 := Gs.snoc hG_3667 (by decide) hGt_3671 (fun _ h9 => absurd h9 List.not_mem_nil)
  obtain ⟨gs_3673, eG_3674⟩ : ∃ G9 : List (Nat × List Nat), G9 = gs_3561 ++ [(5, [q_3614])] := ⟨_, rfl⟩
  rw [← eG_3674] at hG_3672
  refine j_putr (f := 913) C flX9_82 (by decide) rfl rfl dX9_init_234 hm_3629 hk_3630 rfl ?_
  have hf_3677 : Fm (fun _ _ => False) (fun f9 b9 => b9 = h) (fun _ => False) S (sR S_3620 913 h (some q_3614)) := (hf_3665.sR _ (fun _ => rfl))
  obtain ⟨S_3675, eS_3676⟩ : ∃ S9 : Hp, S9 = (sR S_3620 913 h (some q_3614)) := ⟨_, rfl⟩
  refine J.eq (S' := S_3675) eS_3676.symm rfl rfl ?_
  have hm_3678 : h ∈ hL S_3675 := by rw [eS_3676]; exact hm_3629
  have hk_3679 : Kd S_3675 h 9 := by rw [eS_3676]; exact hk_3630
  have hm_3680 : q_161 ∈ hL S_3675 := by rw [eS_3676]; exact hm_3631
  have hk_3681 : Kd S_3675 q_161 20 := by rw [eS_3676]; exact hk_3632
  have hn_3682 : Ln S_3675 q_161 16 := by rw [eS_3676]; exact hn_3633
  have hz_3683 : ∀ j, aI S_3675 q_161 j = 0 := by rw [eS_3676]; exact hz_3623
  have hm_3684 : q_266 ∈ hL S_3675 := by rw [eS_3676]; exact hm_3634
  have hk_3685 : Kd S_3675 q_266 13 := by rw [eS_3676]; exact hk_3635
  have hn_3686 : Ln S_3675 q_266 24000 := by rw [eS_3676]; exact hn_3636
  have hz_3687 : ∀ j, aI S_3675 q_266 j = 0 := by rw [eS_3676]; exact hz_3624
  have hm_3688 : q_295 ∈ hL S_3675 := by rw [eS_3676]; exact hm_3637
  have hk_3689 : Kd S_3675 q_295 14 := by rw [eS_3676]; exact hk_3638
  have hn_3690 : Ln S_3675 q_295 16 := by rw [eS_3676]; exact hn_3639
  have hz_3691 : ∀ j, aI S_3675 q_295 j = 0 := by rw [eS_3676]; exact hz_3625
  have hm_3692 : q_524 ∈ hL S_3675 := by rw [eS_3676]; exact hm_3642
  have hk_3693 : Kd S_3675 q_524 18 := by rw [eS_3676]; exact hk_3643
  have hn_3694 : Ln S_3675 q_524 3 := by rw [eS_3676]; exact hn_3644
  have hz_3695 : ∀ j, aI S_3675 q_524 j = 0 := by rw [eS_3676]; exact hz_3626
  have hm_3696 : q_565 ∈ hL S_3675 := by rw [eS_3676]; exact hm_3645
  have hk_3697 : Kd S_3675 q_565 19 := by rw [eS_3676]; exact hk_3646
  have hn_3698 : Ln S_3675 q_565 4 := by rw [eS_3676]; exact hn_3647
  have hz_3699 : ∀ j, aI S_3675 q_565 j = 0 := by rw [eS_3676]; exact hz_3627
  have hm_3700 : q_610 ∈ hL S_3675 := by rw [eS_3676]; exact hm_3648
  have hk_3701 : Kd S_3675 q_610 14 := by rw [eS_3676]; exact hk_3649
  have hn_3702 : Ln S_3675 q_610 12 := by rw [eS_3676]; exact hn_3650
  have hz_3703 : ∀ j, aI S_3675 q_610 j = 0 := by rw [eS_3676]; exact hz_3628
  have hv_3704 : hR S_3675 900 h = (some s0) := by rw [eS_3676]; exact (rd_sRf (S := S_3620) (g := 913) (a := h) (v := (some q_3614)) (by decide) hv_3651)
  have hv_3705 : hR S_3675 901 h = (some q_1) := by rw [eS_3676]; exact (rd_sRf (S := S_3620) (g := 913) (a := h) (v := (some q_3614)) (by decide) hv_3652)
  have hv_3706 : hR S_3675 902 h = (some q_41) := by rw [eS_3676]; exact (rd_sRf (S := S_3620) (g := 913) (a := h) (v := (some q_3614)) (by decide) hv_3653)
  have hv_3707 : hR S_3675 903 h = (some q_126) := by rw [eS_3676]; exact (rd_sRf (S := S_3620) (g := 913) (a := h) (v := (some q_3614)) (by decide) hv_3654)
  have hv_3708 : hR S_3675 904 h = (some q_161) := by rw [eS_3676]; exact (rd_sRf (S := S_3620) (g := 913) (a := h) (v := (some q_3614)) (by decide) hv_3655)
  have hv_3709 : hR S_3675 905 h = (some q_183) := by rw [eS_3676]; exact (rd_sRf (S := S_3620) (g := 913) (a := h) (v := (some q_3614)) (by decide) hv_3656)
  have hv_3710 : hR S_3675 906 h = (some q_224) := by rw [eS_3676]; exact (rd_sRf (S := S_3620) (g := 913) (a := h) (v := (some q_3614)) (by decide) hv_3657)
  have hv_3711 : hR S_3675 907 h = (some q_266) := by rw [eS_3676]; exact (rd_sRf (S := S_3620) (g := 913) (a := h) (v := (some q_3614)) (by decide) hv_3658)
  have hv_3712 : hR S_3675 908 h = (some q_295) := by rw [eS_3676]; exact (rd_sRf (S := S_3620) (g := 913) (a := h) (v := (some q_3614)) (by decide) hv_3659)
  have hv_3713 : hR S_3675 909 h = (some q_328) := by rw [eS_3676]; exact (rd_sRf (S := S_3620) (g := 913) (a := h) (v := (some q_3614)) (by decide) hv_3660)
  have hv_3714 : hR S_3675 910 h = (some q_425) := by rw [eS_3676]; exact (rd_sRf (S := S_3620) (g := 913) (a := h) (v := (some q_3614)) (by decide) hv_3661)
  have hv_3715 : hR S_3675 911 h = (some q_524) := by rw [eS_3676]; exact (rd_sRf (S := S_3620) (g := 913) (a := h) (v := (some q_3614)) (by decide) hv_3662)
  have hv_3716 : hR S_3675 912 h = (some q_565) := by rw [eS_3676]; exact (rd_sRf (S := S_3620) (g := 913) (a := h) (v := (some q_3614)) (by decide) hv_3663)
  have hv_3717 : hR S_3675 913 h = (some q_3614) := by rw [eS_3676]; exact (rd_sR (S := S_3620) (g := 913) (a := h) (v := (some q_3614)))
  have hv_3718 : hR S_3675 917 h = (some q_610) := by rw [eS_3676]; exact (rd_sRf (S := S_3620) (g := 913) (a := h) (v := (some q_3614)) (by decide) hv_3664)
  have hf_3719 : Fm (fun _ _ => False) (fun f9 b9 => b9 = h) (fun _ => False) S S_3675 := by rw [eS_3676]; exact hf_3677
  have hN_3720 : NL S L_3557 S_3675 := by rw [eS_3676]; exact (NL.sR (S := S_3620) hN_3666)
  have hG_3721 : Gs h gs_3673 S_3675 := by rw [eS_3676]; exact (Gs.sR (S := S_3620) hG_3672)
  have hE_3722 : ELs S_3675 q_161 [q_661, q_784, q_908, q_1032, q_1156, q_1280, q_1404, q_1528, q_1652, q_1776, q_1900, q_2024, q_2148, q_2272, q_2396, q_2520] := by rw [eS_3676]; exact (ELs.sR (S := S_3620) hE_3668)
  have hE_3723 : ELs S_3675 q_524 [q_2644, q_2815, q_2987] := by rw [eS_3676]; exact (ELs.sR (S := S_3620) hE_3669)
  have hE_3724 : ELs S_3675 q_565 [q_3159, q_3272, q_3386, q_3500] := by rw [eS_3676]; exact (ELs.sR (S := S_3620) hE_3670)
  have hGe : Gs h [(3, [q_1, q_5, q_6]), (4, [q_41, q_47, q_48, q_49, q_50, q_51, q_52, q_53, q_54]), (0, [q_126, q_132]), (1, [q_183, q_188]), (0, [q_224, q_230]), (2, [q_328, q_333, q_334, q_335, q_336, q_337, q_338, q_339, q_340]), (2, [q_425, q_431, q_432, q_433, q_434, q_435, q_436, q_437, q_438]), (1, [q_661, q_666]), (1, [q_784, q_789]), (1, [q_908, q_913]), (1, [q_1032, q_1037]), (1, [q_1156, q_1161]), (1, [q_1280, q_1285]), (1, [q_1404, q_1409]), (1, [q_1528, q_1533]), (1, [q_1652, q_1657]), (1, [q_1776, q_1781]), (1, [q_1900, q_1905]), (1, [q_2024, q_2029]), (1, [q_2148, q_2153]), (1, [q_2272, q_2277]), (1, [q_2396, q_2401]), (1, [q_2520, q_2525]), (2, [q_2644, q_2649, q_2650, q_2651, q_2652, q_2653, q_2654, q_2655, q_2656]), (2, [q_2815, q_2820, q_2821, q_2822, q_2823, q_2824, q_2825, q_2826, q_2827]), (2, [q_2987, q_2992, q_2993, q_2994, q_2995, q_2996, q_2997, q_2998, q_2999]), (5, [q_3159]), (5, [q_3272]), (5, [q_3386]), (5, [q_3500]), (5, [q_3614])] S_3675 := by have h9 := hG_3721; rw [eG_3674, eG_3562, eG_3448, eG_3334, eG_3220, eG_3103, eG_2931, eG_2759, eG_2591, eG_2467, eG_2343, eG_2219, eG_2095, eG_1971, eG_1847, eG_1723, eG_1599, eG_1475, eG_1351, eG_1227, eG_1103, eG_979, eG_855, eG_731, eG_523, eG_424, eG_265, eG_223, eG_160, eG_125, eG_40] at h9; exact h9
  have hNe : NL S [q_1, q_5, q_6, q_41, q_47, q_48, q_49, q_50, q_51, q_52, q_53, q_54, q_126, q_132, q_161, q_183, q_188, q_224, q_230, q_266, q_295, q_328, q_333, q_334, q_335, q_336, q_337, q_338, q_339, q_340, q_425, q_431, q_432, q_433, q_434, q_435, q_436, q_437, q_438, q_524, q_565, q_610, q_661, q_666, q_784, q_789, q_908, q_913, q_1032, q_1037, q_1156, q_1161, q_1280, q_1285, q_1404, q_1409, q_1528, q_1533, q_1652, q_1657, q_1776, q_1781, q_1900, q_1905, q_2024, q_2029, q_2148, q_2153, q_2272, q_2277, q_2396, q_2401, q_2520, q_2525, q_2644, q_2649, q_2650, q_2651, q_2652, q_2653, q_2654, q_2655, q_2656, q_2815, q_2820, q_2821, q_2822, q_2823, q_2824, q_2825, q_2826, q_2827, q_2987, q_2992, q_2993, q_2994, q_2995, q_2996, q_2997, q_2998, q_2999, q_3159, q_3272, q_3386, q_3500] S_3675 := by have h9 := hN_3720; rw [eL_3558, eL_3444, eL_3330, eL_3216, eL_3099, eL_2927, eL_2755, eL_2587, eL_2463, eL_2339, eL_2215, eL_2091, eL_1967, eL_1843, eL_1719, eL_1595, eL_1471, eL_1347, eL_1223, eL_1099, eL_975, eL_851, eL_727, eL_659, eL_608, eL_563, eL_519, eL_420, eL_326, eL_293, eL_261, eL_219, eL_181, eL_156, eL_121, eL_36] at h9; exact h9
  exact j_vret C M dX9_init_237 (Nat.le_of_ble_eq_true rfl) (Nat.le_of_ble_eq_true rfl) ⟨rfl, hf_3719, hv_3704, [q_1, q_5, q_6, q_41, q_47, q_48, q_49, q_50, q_51, q_52, q_53, q_54, q_126, q_132, q_161, q_183, q_188, q_224, q_230, q_266, q_295, q_328, q_333, q_334, q_335, q_336, q_337, q_338, q_339, q_340, q_425, q_431, q_432, q_433, q_434, q_435, q_436, q_437, q_438, q_524, q_565, q_610, q_661, q_666, q_784, q_789, q_908, q_913, q_1032, q_1037, q_1156, q_1161, q_1280, q_1285, q_1404, q_1409, q_1528, q_1533, q_1652, q_1657, q_1776, q_1781, q_1900, q_1905, q_2024, q_2029, q_2148, q_2153, q_2272, q_2277, q_2396, q_2401, q_2520, q_2525, q_2644, q_2649, q_2650, q_2651, q_2652, q_2653, q_2654, q_2655, q_2656, q_2815, q_2820, q_2821, q_2822, q_2823, q_2824, q_2825, q_2826, q_2827, q_2987, q_2992, q_2993, q_2994, q_2995, q_2996, q_2997, q_2998, q_2999, q_3159, q_3272, q_3386, q_3500], (wt9_mk hGe hm_3700 hk_3701 hm_3696 hk_3697 hm_3692 hk_3693 hm_3688 hk_3689 hm_3684 hk_3685 hm_3680 hk_3681 hm_3678 hk_3679 hE_3722 hE_3723 hE_3724 hn_3682 hn_3686 hn_3690 hn_3694 hn_3698 hn_3702 hv_3705 hv_3706 hv_3707 hv_3708 hv_3709 hv_3710 hv_3711 hv_3712 hv_3713 hv_3714 hv_3715 hv_3716 hv_3718).1, rfl, hNe, (wt9_mk hGe hm_3700 hk_3701 hm_3696 hk_3697 hm_3692 hk_3693 hm_3688 hk_3689 hm_3684 hk_3685 hm_3680 hk_3681 hm_3678 hk_3679 hE_3722 hE_3723 hE_3724 hn_3682 hn_3686 hn_3690 hn_3694 hn_3698 hn_3702 hv_3705 hv_3706 hv_3707 hv_3708 hv_3709 hv_3710 hv_3711 hv_3712 hv_3713 hv_3714 hv_3715 hv_3716 hv_3718).2⟩
