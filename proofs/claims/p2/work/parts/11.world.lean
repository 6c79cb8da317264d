theorem ar_rI {S : Hp} {a b : Nat} {f : Nat → Int32} (h : b ≠ a) : aI (rI S a f) b = aI S b := funext fun j => by rw [aI_rI, if_neg h]
theorem ar_tI {S : Hp} {a b i : Nat} {v : Int32} (h : b ≠ a) : aI (tI S a i v) b = aI S b := funext fun j => by rw [aI_tI, if_neg (fun q => h q.1)]
theorem arI_sI {S : Hp} {g a b : Nat} {v : Int32} : aI (sI S g a v) b = aI S b := rfl
theorem arI_sJ {S : Hp} {g a b : Nat} {v : Int64} : aI (sJ S g a v) b = aI S b := rfl
theorem arI_sR {S : Hp} {g a b : Nat} {v : Option Nat} : aI (sR S g a v) b = aI S b := rfl
theorem arI_tJ {S : Hp} {a b i : Nat} {v : Int64} : aI (tJ S a i v) b = aI S b := rfl
theorem ar_tJ {S : Hp} {a b i : Nat} {v : Int64} (h : b ≠ a) : aJ (tJ S a i v) b = aJ S b := funext fun j => by rw [aJ_tJ, if_neg (fun q => h q.1)]
theorem arJ_sI {S : Hp} {g a b : Nat} {v : Int32} : aJ (sI S g a v) b = aJ S b := rfl
theorem arJ_sJ {S : Hp} {g a b : Nat} {v : Int64} : aJ (sJ S g a v) b = aJ S b := rfl
theorem arJ_sR {S : Hp} {g a b : Nat} {v : Option Nat} : aJ (sR S g a v) b = aJ S b := rfl
theorem arJ_tI {S : Hp} {a b i : Nat} {v : Int32} : aJ (tI S a i v) b = aJ S b := rfl
theorem arJ_rI {S : Hp} {a b : Nat} {f : Nat → Int32} : aJ (rI S a f) b = aJ S b := rfl
/-! The world: the objects that stay, by number: 0 h, 1 tp, 2 jb, 3 so, 4 sa, 5 g, 6 gb, 7 gw, 8 gh, 9 gd, 10 g0, 11 g1, 12 g2, 13 g3, 14 g4, 15 g5, 16 g6, 17 g7, 18 g8, 19 g9, 20 g10, 21 g11, 22 g12, 23 w, 24 c, 25 cd, 26 cl, 27 f, 28 fs, 29 fss, 30 fn, 31 fl, 32 ft, 33 fh, 34 fr, 35 fa, 36 ts, 37 tss, 38 tl, 39 bt, 40 btr, 41 ms, 42 mss, 43 mb, 44 mz, 45 e, 46 es, 47 esp, 48 er, 49 err, 50 ep, 51 epr, 52 e1, 53 e2, 54 bo, 55 bos, 56 bosp, 57 bor, 58 borr, 59 bop, 60 bopr, 61 bo1, 62 bo2, 63 bm, 64 ra, 65 ls, 66 t0, 67 t0r, 68 t1, 69 t1r, 70 t2, 71 t2r, 72 t3, 73 t3r, 74 t4, 75 t4r, 76 t5, 77 t5r, 78 t6, 79 t6r, 80 t7, 81 t7r, 82 t8, 83 t8r, 84 t9, 85 t9r, 86 t10, 87 t10r, 88 t11, 89 t11r, 90 t12, 91 t12r, 92 t13, 93 t13r, 94 t14, 95 t14r, 96 t15, 97 t15r, 98 b0, 99 b0s, 100 b0sp, 101 b0r, 102 b0rr, 103 b0p, 104 b0pr, 105 b01, 106 b02, 107 b1, 108 b1s, 109 b1sp, 110 b1r, 111 b1rr, 112 b1p, 113 b1pr, 114 b11, 115 b12, 116 b2, 117 b2s, 118 b2sp, 119 b2r, 120 b2rr, 121 b2p, 122 b2pr, 123 b21, 124 b22, 125 r0, 126 r1, 127 r2, 128 r3, 129 pi, 130 pse, 131 pst, 132 pru, 133 m, 134 m_e, 135 m_saved, 136 m_fontThere, 137 m_fontTemporary, 138 m_fontNumbers, 139 m_glyphOf, 140 m_glyphUsed, 141 m_glyphNumbers, 142 m_glyphRows, 143 m_userThere, 144 m_userTemporary, 145 m_userWide, 146 m_userHigh, 147 m_userRows, 148 m_macroThere, 149 m_macroTemporary, 150 m_macroSize, 151 m_macroBytes, 152 m_job, 153 m_partFrom, 154 m_partSort, 155 m_tape, 156 m_copies, 157 m_page, 158 m_came, 159 m_cameWide, 160 m_cameHigh, 161 m_out, 162 m_told, 163 m_laid, 164 m_candidate, 165 m_runBits, 166 m_runCode, 167 m_before, 168 m_now, 169 m_seen, 170 m_entryAt, 171 m_entryTells, 172 m_stripAt, 173 m_stripSize -/
def wkL : List Nat := [11, 13, 13, 14, 14, 6, 13, 14, 14, 21, 14, 14, 14, 14, 14, 14, 14, 14, 14, 14, 14, 14, 14, 9, 0, 14, 14, 2, 8, 14, 14, 14, 17, 14, 14, 14, 8, 14, 20, 10, 15, 8, 14, 13, 14, 1, 7, 14, 4, 14, 10, 15, 14, 14, 1, 7, 14, 4, 14, 10, 15, 14, 14, 18, 19, 14, 10, 15, 10, 15, 10, 15, 10, 15, 10, 15, 10, 15, 10, 15, 10, 15, 10, 15, 10, 15, 10, 15, 10, 15, 10, 15, 10, 15, 10, 15, 10, 15, 1, 7, 14, 4, 14, 10, 15, 14, 14, 1, 7, 14, 4, 14, 10, 15, 14, 14, 1, 7, 14, 4, 14, 10, 15, 14, 14, 5, 5, 5, 5, 3, 15, 13, 16, 12, 14, 14, 17, 17, 14, 14, 17, 14, 14, 17, 17, 14, 14, 14, 17, 17, 14, 13, 13, 14, 14, 13, 13, 13, 13, 14, 14, 13, 14, 14, 17, 14, 14, 14, 14, 14, 14, 15, 15, 15]
def wnL : List (Nat × Nat) := [(1, 8000), (2, 12000), (3, 6), (4, 7), (6, 60000), (7, 12), (8, 12), (9, 13), (10, 16000), (11, 16000), (12, 16000), (13, 16000), (14, 16000), (15, 16000), (16, 16000), (17, 16000), (18, 16000), (19, 16000), (20, 16000), (21, 16000), (22, 16000), (25, 20000), (26, 25), (29, 16), (30, 119), (31, 4352), (32, 400), (33, 2470), (34, 15808), (35, 8), (37, 16), (38, 16), (40, 16), (42, 16), (43, 24000), (44, 16), (47, 40), (49, 20), (51, 16), (52, 8), (53, 8), (56, 40), (58, 20), (60, 16), (61, 8), (62, 8), (63, 3), (64, 4), (65, 12), (67, 16), (69, 16), (71, 16), (73, 16), (75, 16), (77, 16), (79, 16), (81, 16), (83, 16), (85, 16), (87, 16), (89, 16), (91, 16), (93, 16), (95, 16), (97, 16), (100, 40), (102, 20), (104, 16), (105, 8), (106, 8), (109, 40), (111, 20), (113, 16), (114, 8), (115, 8), (118, 40), (120, 20), (122, 16), (123, 8), (124, 8), (130, 12), (131, 12000), (132, 16384), (134, 192), (135, 960), (136, 17), (137, 17), (138, 119), (139, 4096), (140, 400), (141, 2000), (142, 12800), (143, 16), (144, 16), (145, 16), (146, 16), (147, 256), (148, 16), (149, 16), (150, 16), (151, 24000), (152, 12000), (153, 7), (154, 6), (155, 8000), (156, 6000), (157, 64000), (158, 768000), (159, 12), (160, 12), (161, 60008), (162, 12), (163, 20), (164, 17), (165, 148), (166, 148), (167, 640), (168, 640), (169, 12), (170, 400), (171, 400), (172, 40), (173, 40)]
def wpL : List (Nat × Nat × Nat) := [(1100, 0, 1), (1102, 0, 2), (1103, 0, 3), (1104, 0, 4), (1106, 0, 5), (600, 5, 6), (604, 5, 7), (605, 5, 8), (606, 5, 9), (1107, 0, 23), (901, 23, 24), (0, 24, 25), (1, 24, 26), (902, 23, 27), (200, 27, 28), (800, 28, 29), (201, 27, 30), (202, 27, 31), (203, 27, 32), (204, 27, 33), (205, 27, 34), (207, 27, 35), (903, 23, 36), (800, 36, 37), (904, 23, 38), (905, 23, 39), (1003, 39, 40), (906, 23, 41), (800, 41, 42), (907, 23, 43), (908, 23, 44), (909, 23, 45), (100, 45, 46), (712, 46, 47), (101, 45, 48), (407, 48, 49), (102, 45, 50), (1003, 50, 51), (103, 45, 52), (104, 45, 53), (910, 23, 54), (100, 54, 55), (712, 55, 56), (101, 54, 57), (407, 57, 58), (102, 54, 59), (1003, 59, 60), (103, 54, 61), (104, 54, 62), (911, 23, 63), (912, 23, 64), (917, 23, 65), (1003, 66, 67), (1003, 68, 69), (1003, 70, 71), (1003, 72, 73), (1003, 74, 75), (1003, 76, 77), (1003, 78, 79), (1003, 80, 81), (1003, 82, 83), (1003, 84, 85), (1003, 86, 87), (1003, 88, 89), (1003, 90, 91), (1003, 92, 93), (1003, 94, 95), (1003, 96, 97), (100, 98, 99), (712, 99, 100), (101, 98, 101), (407, 101, 102), (102, 98, 103), (1003, 103, 104), (103, 98, 105), (104, 98, 106), (100, 107, 108), (712, 108, 109), (101, 107, 110), (407, 110, 111), (102, 107, 112), (1003, 112, 113), (103, 107, 114), (104, 107, 115), (100, 116, 117), (712, 117, 118), (101, 116, 119), (407, 119, 120), (102, 116, 121), (1003, 121, 122), (103, 116, 123), (104, 116, 124), (1108, 0, 129), (307, 129, 130), (317, 129, 131), (320, 129, 132), (1200, 133, 134), (1201, 133, 135), (1202, 133, 136), (1203, 133, 137), (1204, 133, 138), (1205, 133, 139), (1206, 133, 140), (1207, 133, 141), (1208, 133, 142), (1210, 133, 143), (1211, 133, 144), (1212, 133, 145), (1213, 133, 146), (1214, 133, 147), (1215, 133, 148), (1216, 133, 149), (1217, 133, 150), (1218, 133, 151), (1219, 133, 152), (1220, 133, 153), (1221, 133, 154), (1223, 133, 155), (1225, 133, 156), (1234, 133, 157), (1237, 133, 158), (1238, 133, 159), (1239, 133, 160), (1241, 133, 161), (1246, 133, 162), (1248, 133, 163), (1250, 133, 164), (1256, 133, 165), (1257, 133, 166), (1258, 133, 167), (1259, 133, 168), (1270, 133, 169), (1272, 133, 170), (1273, 133, 171), (1274, 133, 172), (1275, 133, 173), (900, 23, 5), (300, 129, 5)]
def wqL : List (Nat × Nat × Nat) := [(9, 0, 10), (9, 1, 11), (9, 2, 12), (9, 3, 13), (9, 4, 14), (9, 5, 15), (9, 6, 16), (9, 7, 17), (9, 8, 18), (9, 9, 19), (9, 10, 20), (9, 11, 21), (9, 12, 22), (38, 0, 66), (38, 1, 68), (38, 2, 70), (38, 3, 72), (38, 4, 74), (38, 5, 76), (38, 6, 78), (38, 7, 80), (38, 8, 82), (38, 9, 84), (38, 10, 86), (38, 11, 88), (38, 12, 90), (38, 13, 92), (38, 14, 94), (38, 15, 96), (63, 0, 98), (63, 1, 107), (63, 2, 116), (64, 0, 125), (64, 1, 126), (64, 2, 127), (64, 3, 128)]
def Wd (ad : Nat → Nat) (S : Hp) : Prop := (∀ i k, wkL[i]? = some k → ad i ∈ hL S ∧ Kd S (ad i) k) ∧ (∀ p ∈ wnL, Ln S (ad p.1) p.2) ∧ (∀ p ∈ wpL, hR S p.1 (ad p.2.1) = some (ad p.2.2)) ∧ (∀ p ∈ wqL, aR S (ad p.1) p.2.1 = some (ad p.2.2)) ∧ ∀ i j, i < 174 → j < 174 → ad i = ad j → i = j
theorem wn_lt : ∀ p ∈ wnL, p.1 < 174 := by decide +kernel
theorem wp_lt : ∀ p ∈ wpL, p.2.1 < 174 := by decide +kernel
theorem wq_lt : ∀ p ∈ wqL, p.1 < 174 := by decide +kernel
/-- the pointers that change are none of the world's -/
theorem wp_dyn : ∀ p ∈ wpL, ¬ (p.1 = 913 ∨ p.1 = 10 ∨ p.1 = 500 ∨ p.1 = 301 ∨ p.1 = 1226) := by decide +kernel
/-- the arrays of references -/
theorem wq_arr : ∀ p ∈ wqL, p.1 = 9 ∨ p.1 = 64 ∨ p.1 = 63 ∨ p.1 = 38 := by decide +kernel
section WD
variable {ad : Nat → Nat} {S S' : Hp}
theorem wn (W : Wd ad S) {i j : Nat} (hi : i < 174) (hj : j < 174) (h : i ≠ j) : ad i ≠ ad j := fun e => h (W.2.2.2.2 i j hi hj e)
theorem Wd.fm {WI WR : Nat → Nat → Prop} {WA : Nat → Prop} (W : Wd ad S) (hf : Fm WI WR WA S S') (h1 : ∀ p ∈ wpL, ¬ WR p.1 (ad p.2.1)) (h2 : ∀ p ∈ wqL, ¬ WA (ad p.1)) : Wd ad S' := by
  obtain ⟨a1, a2, a3, a4, a5⟩ := W
  have hm : ∀ i, i < 174 → ad i ∈ hL S := fun i hi => by
    obtain ⟨k, hk⟩ : ∃ k, wkL[i]? = some k := ⟨_, List.getElem?_eq_getElem (show i < wkL.length from hi)⟩
    exact (a1 i k hk).1
  refine ⟨fun i k hk => ⟨hf.mem (a1 i k hk).1, hf.kd (a1 i k hk).1 (a1 i k hk).2⟩, fun p hp => hf.ln (hm p.1 (wn_lt p hp)) (a2 p hp), fun p hp => hf.fr (hm p.2.1 (wp_lt p hp)) (h1 p hp) (a3 p hp), fun p hp => (hf.ar (hm p.1 (wq_lt p hp)) (h2 p hp) _).trans (a4 p hp), a5⟩
theorem Wd.sI {f a : Nat} {v : Int32} (W : Wd ad S) : Wd ad (sI S f a v) := W
theorem Wd.sJ {f a : Nat} {v : Int64} (W : Wd ad S) : Wd ad (sJ S f a v) := W
theorem Wd.tI {a j : Nat} {v : Int32} (W : Wd ad S) : Wd ad (tI S a j v) := W
theorem Wd.tJ {a j : Nat} {v : Int64} (W : Wd ad S) : Wd ad (tJ S a j v) := W
theorem Wd.rI {a : Nat} {v : Nat → Int32} (W : Wd ad S) : Wd ad (rI S a v) := W
theorem Wd.sR {f a : Nat} {v : Option Nat} (W : Wd ad S) (h : f = 913 ∨ f = 10 ∨ f = 500 ∨ f = 301 ∨ f = 1226) : Wd ad (sR S f a v) := ⟨W.1, W.2.1, fun p hp => rd_sRf (fun e => wp_dyn p hp (e ▸ h)) (W.2.2.1 p hp), W.2.2.2.1, W.2.2.2.2⟩
theorem wm_0 (W : Wd ad S) : ad 0 ∈ hL S := (W.1 0 11 rfl).1
theorem wk_0 (W : Wd ad S) : Kd S (ad 0) 11 := (W.1 0 11 rfl).2
theorem wm_1 (W : Wd ad S) : ad 1 ∈ hL S := (W.1 1 13 rfl).1
theorem wk_1 (W : Wd ad S) : Kd S (ad 1) 13 := (W.1 1 13 rfl).2
theorem wl_1 (W : Wd ad S) : Ln S (ad 1) 8000 := W.2.1 (1, 8000) (List.mem_of_getElem? (i := 0) rfl)
theorem wm_2 (W : Wd ad S) : ad 2 ∈ hL S := (W.1 2 13 rfl).1
theorem wk_2 (W : Wd ad S) : Kd S (ad 2) 13 := (W.1 2 13 rfl).2
theorem wl_2 (W : Wd ad S) : Ln S (ad 2) 12000 := W.2.1 (2, 12000) (List.mem_of_getElem? (i := 1) rfl)
theorem wm_3 (W : Wd ad S) : ad 3 ∈ hL S := (W.1 3 14 rfl).1
theorem wk_3 (W : Wd ad S) : Kd S (ad 3) 14 := (W.1 3 14 rfl).2
theorem wl_3 (W : Wd ad S) : Ln S (ad 3) 6 := W.2.1 (3, 6) (List.mem_of_getElem? (i := 2) rfl)
theorem wm_4 (W : Wd ad S) : ad 4 ∈ hL S := (W.1 4 14 rfl).1
theorem wk_4 (W : Wd ad S) : Kd S (ad 4) 14 := (W.1 4 14 rfl).2
theorem wl_4 (W : Wd ad S) : Ln S (ad 4) 7 := W.2.1 (4, 7) (List.mem_of_getElem? (i := 3) rfl)
theorem wm_5 (W : Wd ad S) : ad 5 ∈ hL S := (W.1 5 6 rfl).1
theorem wk_5 (W : Wd ad S) : Kd S (ad 5) 6 := (W.1 5 6 rfl).2
theorem wm_6 (W : Wd ad S) : ad 6 ∈ hL S := (W.1 6 13 rfl).1
theorem wk_6 (W : Wd ad S) : Kd S (ad 6) 13 := (W.1 6 13 rfl).2
theorem wl_6 (W : Wd ad S) : Ln S (ad 6) 60000 := W.2.1 (6, 60000) (List.mem_of_getElem? (i := 4) rfl)
theorem wm_7 (W : Wd ad S) : ad 7 ∈ hL S := (W.1 7 14 rfl).1
theorem wk_7 (W : Wd ad S) : Kd S (ad 7) 14 := (W.1 7 14 rfl).2
theorem wl_7 (W : Wd ad S) : Ln S (ad 7) 12 := W.2.1 (7, 12) (List.mem_of_getElem? (i := 5) rfl)
theorem wm_8 (W : Wd ad S) : ad 8 ∈ hL S := (W.1 8 14 rfl).1
theorem wk_8 (W : Wd ad S) : Kd S (ad 8) 14 := (W.1 8 14 rfl).2
theorem wl_8 (W : Wd ad S) : Ln S (ad 8) 12 := W.2.1 (8, 12) (List.mem_of_getElem? (i := 6) rfl)
theorem wm_9 (W : Wd ad S) : ad 9 ∈ hL S := (W.1 9 21 rfl).1
theorem wk_9 (W : Wd ad S) : Kd S (ad 9) 21 := (W.1 9 21 rfl).2
theorem wl_9 (W : Wd ad S) : Ln S (ad 9) 13 := W.2.1 (9, 13) (List.mem_of_getElem? (i := 7) rfl)
theorem wm_10 (W : Wd ad S) : ad 10 ∈ hL S := (W.1 10 14 rfl).1
theorem wk_10 (W : Wd ad S) : Kd S (ad 10) 14 := (W.1 10 14 rfl).2
theorem wl_10 (W : Wd ad S) : Ln S (ad 10) 16000 := W.2.1 (10, 16000) (List.mem_of_getElem? (i := 8) rfl)
theorem wm_11 (W : Wd ad S) : ad 11 ∈ hL S := (W.1 11 14 rfl).1
theorem wk_11 (W : Wd ad S) : Kd S (ad 11) 14 := (W.1 11 14 rfl).2
theorem wl_11 (W : Wd ad S) : Ln S (ad 11) 16000 := W.2.1 (11, 16000) (List.mem_of_getElem? (i := 9) rfl)
theorem wm_12 (W : Wd ad S) : ad 12 ∈ hL S := (W.1 12 14 rfl).1
theorem wk_12 (W : Wd ad S) : Kd S (ad 12) 14 := (W.1 12 14 rfl).2
theorem wl_12 (W : Wd ad S) : Ln S (ad 12) 16000 := W.2.1 (12, 16000) (List.mem_of_getElem? (i := 10) rfl)
theorem wm_13 (W : Wd ad S) : ad 13 ∈ hL S := (W.1 13 14 rfl).1
theorem wk_13 (W : Wd ad S) : Kd S (ad 13) 14 := (W.1 13 14 rfl).2
theorem wl_13 (W : Wd ad S) : Ln S (ad 13) 16000 := W.2.1 (13, 16000) (List.mem_of_getElem? (i := 11) rfl)
theorem wm_14 (W : Wd ad S) : ad 14 ∈ hL S := (W.1 14 14 rfl).1
theorem wk_14 (W : Wd ad S) : Kd S (ad 14) 14 := (W.1 14 14 rfl).2
theorem wl_14 (W : Wd ad S) : Ln S (ad 14) 16000 := W.2.1 (14, 16000) (List.mem_of_getElem? (i := 12) rfl)
theorem wm_15 (W : Wd ad S) : ad 15 ∈ hL S := (W.1 15 14 rfl).1
theorem wk_15 (W : Wd ad S) : Kd S (ad 15) 14 := (W.1 15 14 rfl).2
theorem wl_15 (W : Wd ad S) : Ln S (ad 15) 16000 := W.2.1 (15, 16000) (List.mem_of_getElem? (i := 13) rfl)
theorem wm_16 (W : Wd ad S) : ad 16 ∈ hL S := (W.1 16 14 rfl).1
theorem wk_16 (W : Wd ad S) : Kd S (ad 16) 14 := (W.1 16 14 rfl).2
theorem wl_16 (W : Wd ad S) : Ln S (ad 16) 16000 := W.2.1 (16, 16000) (List.mem_of_getElem? (i := 14) rfl)
theorem wm_17 (W : Wd ad S) : ad 17 ∈ hL S := (W.1 17 14 rfl).1
theorem wk_17 (W : Wd ad S) : Kd S (ad 17) 14 := (W.1 17 14 rfl).2
theorem wl_17 (W : Wd ad S) : Ln S (ad 17) 16000 := W.2.1 (17, 16000) (List.mem_of_getElem? (i := 15) rfl)
theorem wm_18 (W : Wd ad S) : ad 18 ∈ hL S := (W.1 18 14 rfl).1
theorem wk_18 (W : Wd ad S) : Kd S (ad 18) 14 := (W.1 18 14 rfl).2
theorem wl_18 (W : Wd ad S) : Ln S (ad 18) 16000 := W.2.1 (18, 16000) (List.mem_of_getElem? (i := 16) rfl)
theorem wm_19 (W : Wd ad S) : ad 19 ∈ hL S := (W.1 19 14 rfl).1
theorem wk_19 (W : Wd ad S) : Kd S (ad 19) 14 := (W.1 19 14 rfl).2
theorem wl_19 (W : Wd ad S) : Ln S (ad 19) 16000 := W.2.1 (19, 16000) (List.mem_of_getElem? (i := 17) rfl)
theorem wm_20 (W : Wd ad S) : ad 20 ∈ hL S := (W.1 20 14 rfl).1
theorem wk_20 (W : Wd ad S) : Kd S (ad 20) 14 := (W.1 20 14 rfl).2
theorem wl_20 (W : Wd ad S) : Ln S (ad 20) 16000 := W.2.1 (20, 16000) (List.mem_of_getElem? (i := 18) rfl)
theorem wm_21 (W : Wd ad S) : ad 21 ∈ hL S := (W.1 21 14 rfl).1
theorem wk_21 (W : Wd ad S) : Kd S (ad 21) 14 := (W.1 21 14 rfl).2
theorem wl_21 (W : Wd ad S) : Ln S (ad 21) 16000 := W.2.1 (21, 16000) (List.mem_of_getElem? (i := 19) rfl)
theorem wm_22 (W : Wd ad S) : ad 22 ∈ hL S := (W.1 22 14 rfl).1
theorem wk_22 (W : Wd ad S) : Kd S (ad 22) 14 := (W.1 22 14 rfl).2
theorem wl_22 (W : Wd ad S) : Ln S (ad 22) 16000 := W.2.1 (22, 16000) (List.mem_of_getElem? (i := 20) rfl)
theorem wm_23 (W : Wd ad S) : ad 23 ∈ hL S := (W.1 23 9 rfl).1
theorem wk_23 (W : Wd ad S) : Kd S (ad 23) 9 := (W.1 23 9 rfl).2
theorem wm_24 (W : Wd ad S) : ad 24 ∈ hL S := (W.1 24 0 rfl).1
theorem wk_24 (W : Wd ad S) : Kd S (ad 24) 0 := (W.1 24 0 rfl).2
theorem wm_25 (W : Wd ad S) : ad 25 ∈ hL S := (W.1 25 14 rfl).1
theorem wk_25 (W : Wd ad S) : Kd S (ad 25) 14 := (W.1 25 14 rfl).2
theorem wl_25 (W : Wd ad S) : Ln S (ad 25) 20000 := W.2.1 (25, 20000) (List.mem_of_getElem? (i := 21) rfl)
theorem wm_26 (W : Wd ad S) : ad 26 ∈ hL S := (W.1 26 14 rfl).1
theorem wk_26 (W : Wd ad S) : Kd S (ad 26) 14 := (W.1 26 14 rfl).2
theorem wl_26 (W : Wd ad S) : Ln S (ad 26) 25 := W.2.1 (26, 25) (List.mem_of_getElem? (i := 22) rfl)
theorem wm_27 (W : Wd ad S) : ad 27 ∈ hL S := (W.1 27 2 rfl).1
theorem wk_27 (W : Wd ad S) : Kd S (ad 27) 2 := (W.1 27 2 rfl).2
theorem wm_28 (W : Wd ad S) : ad 28 ∈ hL S := (W.1 28 8 rfl).1
theorem wk_28 (W : Wd ad S) : Kd S (ad 28) 8 := (W.1 28 8 rfl).2
theorem wm_29 (W : Wd ad S) : ad 29 ∈ hL S := (W.1 29 14 rfl).1
theorem wk_29 (W : Wd ad S) : Kd S (ad 29) 14 := (W.1 29 14 rfl).2
theorem wl_29 (W : Wd ad S) : Ln S (ad 29) 16 := W.2.1 (29, 16) (List.mem_of_getElem? (i := 23) rfl)
theorem wm_30 (W : Wd ad S) : ad 30 ∈ hL S := (W.1 30 14 rfl).1
theorem wk_30 (W : Wd ad S) : Kd S (ad 30) 14 := (W.1 30 14 rfl).2
theorem wl_30 (W : Wd ad S) : Ln S (ad 30) 119 := W.2.1 (30, 119) (List.mem_of_getElem? (i := 24) rfl)
theorem wm_31 (W : Wd ad S) : ad 31 ∈ hL S := (W.1 31 14 rfl).1
theorem wk_31 (W : Wd ad S) : Kd S (ad 31) 14 := (W.1 31 14 rfl).2
theorem wl_31 (W : Wd ad S) : Ln S (ad 31) 4352 := W.2.1 (31, 4352) (List.mem_of_getElem? (i := 25) rfl)
theorem wm_32 (W : Wd ad S) : ad 32 ∈ hL S := (W.1 32 17 rfl).1
theorem wk_32 (W : Wd ad S) : Kd S (ad 32) 17 := (W.1 32 17 rfl).2
theorem wl_32 (W : Wd ad S) : Ln S (ad 32) 400 := W.2.1 (32, 400) (List.mem_of_getElem? (i := 26) rfl)
theorem wm_33 (W : Wd ad S) : ad 33 ∈ hL S := (W.1 33 14 rfl).1
theorem wk_33 (W : Wd ad S) : Kd S (ad 33) 14 := (W.1 33 14 rfl).2
theorem wl_33 (W : Wd ad S) : Ln S (ad 33) 2470 := W.2.1 (33, 2470) (List.mem_of_getElem? (i := 27) rfl)
theorem wm_34 (W : Wd ad S) : ad 34 ∈ hL S := (W.1 34 14 rfl).1
theorem wk_34 (W : Wd ad S) : Kd S (ad 34) 14 := (W.1 34 14 rfl).2
theorem wl_34 (W : Wd ad S) : Ln S (ad 34) 15808 := W.2.1 (34, 15808) (List.mem_of_getElem? (i := 28) rfl)
theorem wm_35 (W : Wd ad S) : ad 35 ∈ hL S := (W.1 35 14 rfl).1
theorem wk_35 (W : Wd ad S) : Kd S (ad 35) 14 := (W.1 35 14 rfl).2
theorem wl_35 (W : Wd ad S) : Ln S (ad 35) 8 := W.2.1 (35, 8) (List.mem_of_getElem? (i := 29) rfl)
theorem wm_36 (W : Wd ad S) : ad 36 ∈ hL S := (W.1 36 8 rfl).1
theorem wk_36 (W : Wd ad S) : Kd S (ad 36) 8 := (W.1 36 8 rfl).2
theorem wm_37 (W : Wd ad S) : ad 37 ∈ hL S := (W.1 37 14 rfl).1
theorem wk_37 (W : Wd ad S) : Kd S (ad 37) 14 := (W.1 37 14 rfl).2
theorem wl_37 (W : Wd ad S) : Ln S (ad 37) 16 := W.2.1 (37, 16) (List.mem_of_getElem? (i := 30) rfl)
theorem wm_38 (W : Wd ad S) : ad 38 ∈ hL S := (W.1 38 20 rfl).1
theorem wk_38 (W : Wd ad S) : Kd S (ad 38) 20 := (W.1 38 20 rfl).2
theorem wl_38 (W : Wd ad S) : Ln S (ad 38) 16 := W.2.1 (38, 16) (List.mem_of_getElem? (i := 31) rfl)
theorem wm_39 (W : Wd ad S) : ad 39 ∈ hL S := (W.1 39 10 rfl).1
theorem wk_39 (W : Wd ad S) : Kd S (ad 39) 10 := (W.1 39 10 rfl).2
theorem wm_40 (W : Wd ad S) : ad 40 ∈ hL S := (W.1 40 15 rfl).1
theorem wk_40 (W : Wd ad S) : Kd S (ad 40) 15 := (W.1 40 15 rfl).2
theorem wl_40 (W : Wd ad S) : Ln S (ad 40) 16 := W.2.1 (40, 16) (List.mem_of_getElem? (i := 32) rfl)
theorem wm_41 (W : Wd ad S) : ad 41 ∈ hL S := (W.1 41 8 rfl).1
theorem wk_41 (W : Wd ad S) : Kd S (ad 41) 8 := (W.1 41 8 rfl).2
theorem wm_42 (W : Wd ad S) : ad 42 ∈ hL S := (W.1 42 14 rfl).1
theorem wk_42 (W : Wd ad S) : Kd S (ad 42) 14 := (W.1 42 14 rfl).2
theorem wl_42 (W : Wd ad S) : Ln S (ad 42) 16 := W.2.1 (42, 16) (List.mem_of_getElem? (i := 33) rfl)
theorem wm_43 (W : Wd ad S) : ad 43 ∈ hL S := (W.1 43 13 rfl).1
theorem wk_43 (W : Wd ad S) : Kd S (ad 43) 13 := (W.1 43 13 rfl).2
theorem wl_43 (W : Wd ad S) : Ln S (ad 43) 24000 := W.2.1 (43, 24000) (List.mem_of_getElem? (i := 34) rfl)
theorem wm_44 (W : Wd ad S) : ad 44 ∈ hL S := (W.1 44 14 rfl).1
theorem wk_44 (W : Wd ad S) : Kd S (ad 44) 14 := (W.1 44 14 rfl).2
theorem wl_44 (W : Wd ad S) : Ln S (ad 44) 16 := W.2.1 (44, 16) (List.mem_of_getElem? (i := 35) rfl)
theorem wm_45 (W : Wd ad S) : ad 45 ∈ hL S := (W.1 45 1 rfl).1
theorem wk_45 (W : Wd ad S) : Kd S (ad 45) 1 := (W.1 45 1 rfl).2
theorem wm_46 (W : Wd ad S) : ad 46 ∈ hL S := (W.1 46 7 rfl).1
theorem wk_46 (W : Wd ad S) : Kd S (ad 46) 7 := (W.1 46 7 rfl).2
theorem wm_47 (W : Wd ad S) : ad 47 ∈ hL S := (W.1 47 14 rfl).1
theorem wk_47 (W : Wd ad S) : Kd S (ad 47) 14 := (W.1 47 14 rfl).2
theorem wl_47 (W : Wd ad S) : Ln S (ad 47) 40 := W.2.1 (47, 40) (List.mem_of_getElem? (i := 36) rfl)
theorem wm_48 (W : Wd ad S) : ad 48 ∈ hL S := (W.1 48 4 rfl).1
theorem wk_48 (W : Wd ad S) : Kd S (ad 48) 4 := (W.1 48 4 rfl).2
theorem wm_49 (W : Wd ad S) : ad 49 ∈ hL S := (W.1 49 14 rfl).1
theorem wk_49 (W : Wd ad S) : Kd S (ad 49) 14 := (W.1 49 14 rfl).2
theorem wl_49 (W : Wd ad S) : Ln S (ad 49) 20 := W.2.1 (49, 20) (List.mem_of_getElem? (i := 37) rfl)
theorem wm_50 (W : Wd ad S) : ad 50 ∈ hL S := (W.1 50 10 rfl).1
theorem wk_50 (W : Wd ad S) : Kd S (ad 50) 10 := (W.1 50 10 rfl).2
theorem wm_51 (W : Wd ad S) : ad 51 ∈ hL S := (W.1 51 15 rfl).1
theorem wk_51 (W : Wd ad S) : Kd S (ad 51) 15 := (W.1 51 15 rfl).2
theorem wl_51 (W : Wd ad S) : Ln S (ad 51) 16 := W.2.1 (51, 16) (List.mem_of_getElem? (i := 38) rfl)
theorem wm_52 (W : Wd ad S) : ad 52 ∈ hL S := (W.1 52 14 rfl).1
theorem wk_52 (W : Wd ad S) : Kd S (ad 52) 14 := (W.1 52 14 rfl).2
theorem wl_52 (W : Wd ad S) : Ln S (ad 52) 8 := W.2.1 (52, 8) (List.mem_of_getElem? (i := 39) rfl)
theorem wm_53 (W : Wd ad S) : ad 53 ∈ hL S := (W.1 53 14 rfl).1
theorem wk_53 (W : Wd ad S) : Kd S (ad 53) 14 := (W.1 53 14 rfl).2
theorem wl_53 (W : Wd ad S) : Ln S (ad 53) 8 := W.2.1 (53, 8) (List.mem_of_getElem? (i := 40) rfl)
theorem wm_54 (W : Wd ad S) : ad 54 ∈ hL S := (W.1 54 1 rfl).1
theorem wk_54 (W : Wd ad S) : Kd S (ad 54) 1 := (W.1 54 1 rfl).2
theorem wm_55 (W : Wd ad S) : ad 55 ∈ hL S := (W.1 55 7 rfl).1
theorem wk_55 (W : Wd ad S) : Kd S (ad 55) 7 := (W.1 55 7 rfl).2
theorem wm_56 (W : Wd ad S) : ad 56 ∈ hL S := (W.1 56 14 rfl).1
theorem wk_56 (W : Wd ad S) : Kd S (ad 56) 14 := (W.1 56 14 rfl).2
theorem wl_56 (W : Wd ad S) : Ln S (ad 56) 40 := W.2.1 (56, 40) (List.mem_of_getElem? (i := 41) rfl)
theorem wm_57 (W : Wd ad S) : ad 57 ∈ hL S := (W.1 57 4 rfl).1
theorem wk_57 (W : Wd ad S) : Kd S (ad 57) 4 := (W.1 57 4 rfl).2
theorem wm_58 (W : Wd ad S) : ad 58 ∈ hL S := (W.1 58 14 rfl).1
theorem wk_58 (W : Wd ad S) : Kd S (ad 58) 14 := (W.1 58 14 rfl).2
theorem wl_58 (W : Wd ad S) : Ln S (ad 58) 20 := W.2.1 (58, 20) (List.mem_of_getElem? (i := 42) rfl)
theorem wm_59 (W : Wd ad S) : ad 59 ∈ hL S := (W.1 59 10 rfl).1
theorem wk_59 (W : Wd ad S) : Kd S (ad 59) 10 := (W.1 59 10 rfl).2
theorem wm_60 (W : Wd ad S) : ad 60 ∈ hL S := (W.1 60 15 rfl).1
theorem wk_60 (W : Wd ad S) : Kd S (ad 60) 15 := (W.1 60 15 rfl).2
theorem wl_60 (W : Wd ad S) : Ln S (ad 60) 16 := W.2.1 (60, 16) (List.mem_of_getElem? (i := 43) rfl)
theorem wm_61 (W : Wd ad S) : ad 61 ∈ hL S := (W.1 61 14 rfl).1
theorem wk_61 (W : Wd ad S) : Kd S (ad 61) 14 := (W.1 61 14 rfl).2
theorem wl_61 (W : Wd ad S) : Ln S (ad 61) 8 := W.2.1 (61, 8) (List.mem_of_getElem? (i := 44) rfl)
theorem wm_62 (W : Wd ad S) : ad 62 ∈ hL S := (W.1 62 14 rfl).1
theorem wk_62 (W : Wd ad S) : Kd S (ad 62) 14 := (W.1 62 14 rfl).2
theorem wl_62 (W : Wd ad S) : Ln S (ad 62) 8 := W.2.1 (62, 8) (List.mem_of_getElem? (i := 45) rfl)
theorem wm_63 (W : Wd ad S) : ad 63 ∈ hL S := (W.1 63 18 rfl).1
theorem wk_63 (W : Wd ad S) : Kd S (ad 63) 18 := (W.1 63 18 rfl).2
theorem wl_63 (W : Wd ad S) : Ln S (ad 63) 3 := W.2.1 (63, 3) (List.mem_of_getElem? (i := 46) rfl)
theorem wm_64 (W : Wd ad S) : ad 64 ∈ hL S := (W.1 64 19 rfl).1
theorem wk_64 (W : Wd ad S) : Kd S (ad 64) 19 := (W.1 64 19 rfl).2
theorem wl_64 (W : Wd ad S) : Ln S (ad 64) 4 := W.2.1 (64, 4) (List.mem_of_getElem? (i := 47) rfl)
theorem wm_65 (W : Wd ad S) : ad 65 ∈ hL S := (W.1 65 14 rfl).1
theorem wk_65 (W : Wd ad S) : Kd S (ad 65) 14 := (W.1 65 14 rfl).2
theorem wl_65 (W : Wd ad S) : Ln S (ad 65) 12 := W.2.1 (65, 12) (List.mem_of_getElem? (i := 48) rfl)
theorem wm_66 (W : Wd ad S) : ad 66 ∈ hL S := (W.1 66 10 rfl).1
theorem wk_66 (W : Wd ad S) : Kd S (ad 66) 10 := (W.1 66 10 rfl).2
theorem wm_67 (W : Wd ad S) : ad 67 ∈ hL S := (W.1 67 15 rfl).1
theorem wk_67 (W : Wd ad S) : Kd S (ad 67) 15 := (W.1 67 15 rfl).2
theorem wl_67 (W : Wd ad S) : Ln S (ad 67) 16 := W.2.1 (67, 16) (List.mem_of_getElem? (i := 49) rfl)
theorem wm_68 (W : Wd ad S) : ad 68 ∈ hL S := (W.1 68 10 rfl).1
theorem wk_68 (W : Wd ad S) : Kd S (ad 68) 10 := (W.1 68 10 rfl).2
theorem wm_69 (W : Wd ad S) : ad 69 ∈ hL S := (W.1 69 15 rfl).1
theorem wk_69 (W : Wd ad S) : Kd S (ad 69) 15 := (W.1 69 15 rfl).2
theorem wl_69 (W : Wd ad S) : Ln S (ad 69) 16 := W.2.1 (69, 16) (List.mem_of_getElem? (i := 50) rfl)
theorem wm_70 (W : Wd ad S) : ad 70 ∈ hL S := (W.1 70 10 rfl).1
theorem wk_70 (W : Wd ad S) : Kd S (ad 70) 10 := (W.1 70 10 rfl).2
theorem wm_71 (W : Wd ad S) : ad 71 ∈ hL S := (W.1 71 15 rfl).1
theorem wk_71 (W : Wd ad S) : Kd S (ad 71) 15 := (W.1 71 15 rfl).2
theorem wl_71 (W : Wd ad S) : Ln S (ad 71) 16 := W.2.1 (71, 16) (List.mem_of_getElem? (i := 51) rfl)
theorem wm_72 (W : Wd ad S) : ad 72 ∈ hL S := (W.1 72 10 rfl).1
theorem wk_72 (W : Wd ad S) : Kd S (ad 72) 10 := (W.1 72 10 rfl).2
theorem wm_73 (W : Wd ad S) : ad 73 ∈ hL S := (W.1 73 15 rfl).1
theorem wk_73 (W : Wd ad S) : Kd S (ad 73) 15 := (W.1 73 15 rfl).2
theorem wl_73 (W : Wd ad S) : Ln S (ad 73) 16 := W.2.1 (73, 16) (List.mem_of_getElem? (i := 52) rfl)
theorem wm_74 (W : Wd ad S) : ad 74 ∈ hL S := (W.1 74 10 rfl).1
theorem wk_74 (W : Wd ad S) : Kd S (ad 74) 10 := (W.1 74 10 rfl).2
theorem wm_75 (W : Wd ad S) : ad 75 ∈ hL S := (W.1 75 15 rfl).1
theorem wk_75 (W : Wd ad S) : Kd S (ad 75) 15 := (W.1 75 15 rfl).2
theorem wl_75 (W : Wd ad S) : Ln S (ad 75) 16 := W.2.1 (75, 16) (List.mem_of_getElem? (i := 53) rfl)
theorem wm_76 (W : Wd ad S) : ad 76 ∈ hL S := (W.1 76 10 rfl).1
theorem wk_76 (W : Wd ad S) : Kd S (ad 76) 10 := (W.1 76 10 rfl).2
theorem wm_77 (W : Wd ad S) : ad 77 ∈ hL S := (W.1 77 15 rfl).1
theorem wk_77 (W : Wd ad S) : Kd S (ad 77) 15 := (W.1 77 15 rfl).2
theorem wl_77 (W : Wd ad S) : Ln S (ad 77) 16 := W.2.1 (77, 16) (List.mem_of_getElem? (i := 54) rfl)
theorem wm_78 (W : Wd ad S) : ad 78 ∈ hL S := (W.1 78 10 rfl).1
theorem wk_78 (W : Wd ad S) : Kd S (ad 78) 10 := (W.1 78 10 rfl).2
theorem wm_79 (W : Wd ad S) : ad 79 ∈ hL S := (W.1 79 15 rfl).1
theorem wk_79 (W : Wd ad S) : Kd S (ad 79) 15 := (W.1 79 15 rfl).2
theorem wl_79 (W : Wd ad S) : Ln S (ad 79) 16 := W.2.1 (79, 16) (List.mem_of_getElem? (i := 55) rfl)
theorem wm_80 (W : Wd ad S) : ad 80 ∈ hL S := (W.1 80 10 rfl).1
theorem wk_80 (W : Wd ad S) : Kd S (ad 80) 10 := (W.1 80 10 rfl).2
theorem wm_81 (W : Wd ad S) : ad 81 ∈ hL S := (W.1 81 15 rfl).1
theorem wk_81 (W : Wd ad S) : Kd S (ad 81) 15 := (W.1 81 15 rfl).2
theorem wl_81 (W : Wd ad S) : Ln S (ad 81) 16 := W.2.1 (81, 16) (List.mem_of_getElem? (i := 56) rfl)
theorem wm_82 (W : Wd ad S) : ad 82 ∈ hL S := (W.1 82 10 rfl).1
theorem wk_82 (W : Wd ad S) : Kd S (ad 82) 10 := (W.1 82 10 rfl).2
theorem wm_83 (W : Wd ad S) : ad 83 ∈ hL S := (W.1 83 15 rfl).1
theorem wk_83 (W : Wd ad S) : Kd S (ad 83) 15 := (W.1 83 15 rfl).2
theorem wl_83 (W : Wd ad S) : Ln S (ad 83) 16 := W.2.1 (83, 16) (List.mem_of_getElem? (i := 57) rfl)
theorem wm_84 (W : Wd ad S) : ad 84 ∈ hL S := (W.1 84 10 rfl).1
theorem wk_84 (W : Wd ad S) : Kd S (ad 84) 10 := (W.1 84 10 rfl).2
theorem wm_85 (W : Wd ad S) : ad 85 ∈ hL S := (W.1 85 15 rfl).1
theorem wk_85 (W : Wd ad S) : Kd S (ad 85) 15 := (W.1 85 15 rfl).2
theorem wl_85 (W : Wd ad S) : Ln S (ad 85) 16 := W.2.1 (85, 16) (List.mem_of_getElem? (i := 58) rfl)
theorem wm_86 (W : Wd ad S) : ad 86 ∈ hL S := (W.1 86 10 rfl).1
theorem wk_86 (W : Wd ad S) : Kd S (ad 86) 10 := (W.1 86 10 rfl).2
theorem wm_87 (W : Wd ad S) : ad 87 ∈ hL S := (W.1 87 15 rfl).1
theorem wk_87 (W : Wd ad S) : Kd S (ad 87) 15 := (W.1 87 15 rfl).2
theorem wl_87 (W : Wd ad S) : Ln S (ad 87) 16 := W.2.1 (87, 16) (List.mem_of_getElem? (i := 59) rfl)
theorem wm_88 (W : Wd ad S) : ad 88 ∈ hL S := (W.1 88 10 rfl).1
theorem wk_88 (W : Wd ad S) : Kd S (ad 88) 10 := (W.1 88 10 rfl).2
theorem wm_89 (W : Wd ad S) : ad 89 ∈ hL S := (W.1 89 15 rfl).1
theorem wk_89 (W : Wd ad S) : Kd S (ad 89) 15 := (W.1 89 15 rfl).2
theorem wl_89 (W : Wd ad S) : Ln S (ad 89) 16 := W.2.1 (89, 16) (List.mem_of_getElem? (i := 60) rfl)
theorem wm_90 (W : Wd ad S) : ad 90 ∈ hL S := (W.1 90 10 rfl).1
theorem wk_90 (W : Wd ad S) : Kd S (ad 90) 10 := (W.1 90 10 rfl).2
theorem wm_91 (W : Wd ad S) : ad 91 ∈ hL S := (W.1 91 15 rfl).1
theorem wk_91 (W : Wd ad S) : Kd S (ad 91) 15 := (W.1 91 15 rfl).2
theorem wl_91 (W : Wd ad S) : Ln S (ad 91) 16 := W.2.1 (91, 16) (List.mem_of_getElem? (i := 61) rfl)
theorem wm_92 (W : Wd ad S) : ad 92 ∈ hL S := (W.1 92 10 rfl).1
theorem wk_92 (W : Wd ad S) : Kd S (ad 92) 10 := (W.1 92 10 rfl).2
theorem wm_93 (W : Wd ad S) : ad 93 ∈ hL S := (W.1 93 15 rfl).1
theorem wk_93 (W : Wd ad S) : Kd S (ad 93) 15 := (W.1 93 15 rfl).2
theorem wl_93 (W : Wd ad S) : Ln S (ad 93) 16 := W.2.1 (93, 16) (List.mem_of_getElem? (i := 62) rfl)
theorem wm_94 (W : Wd ad S) : ad 94 ∈ hL S := (W.1 94 10 rfl).1
theorem wk_94 (W : Wd ad S) : Kd S (ad 94) 10 := (W.1 94 10 rfl).2
theorem wm_95 (W : Wd ad S) : ad 95 ∈ hL S := (W.1 95 15 rfl).1
theorem wk_95 (W : Wd ad S) : Kd S (ad 95) 15 := (W.1 95 15 rfl).2
theorem wl_95 (W : Wd ad S) : Ln S (ad 95) 16 := W.2.1 (95, 16) (List.mem_of_getElem? (i := 63) rfl)
theorem wm_96 (W : Wd ad S) : ad 96 ∈ hL S := (W.1 96 10 rfl).1
theorem wk_96 (W : Wd ad S) : Kd S (ad 96) 10 := (W.1 96 10 rfl).2
theorem wm_97 (W : Wd ad S) : ad 97 ∈ hL S := (W.1 97 15 rfl).1
theorem wk_97 (W : Wd ad S) : Kd S (ad 97) 15 := (W.1 97 15 rfl).2
theorem wl_97 (W : Wd ad S) : Ln S (ad 97) 16 := W.2.1 (97, 16) (List.mem_of_getElem? (i := 64) rfl)
theorem wm_98 (W : Wd ad S) : ad 98 ∈ hL S := (W.1 98 1 rfl).1
theorem wk_98 (W : Wd ad S) : Kd S (ad 98) 1 := (W.1 98 1 rfl).2
theorem wm_99 (W : Wd ad S) : ad 99 ∈ hL S := (W.1 99 7 rfl).1
theorem wk_99 (W : Wd ad S) : Kd S (ad 99) 7 := (W.1 99 7 rfl).2
theorem wm_100 (W : Wd ad S) : ad 100 ∈ hL S := (W.1 100 14 rfl).1
theorem wk_100 (W : Wd ad S) : Kd S (ad 100) 14 := (W.1 100 14 rfl).2
theorem wl_100 (W : Wd ad S) : Ln S (ad 100) 40 := W.2.1 (100, 40) (List.mem_of_getElem? (i := 65) rfl)
theorem wm_101 (W : Wd ad S) : ad 101 ∈ hL S := (W.1 101 4 rfl).1
theorem wk_101 (W : Wd ad S) : Kd S (ad 101) 4 := (W.1 101 4 rfl).2
theorem wm_102 (W : Wd ad S) : ad 102 ∈ hL S := (W.1 102 14 rfl).1
theorem wk_102 (W : Wd ad S) : Kd S (ad 102) 14 := (W.1 102 14 rfl).2
theorem wl_102 (W : Wd ad S) : Ln S (ad 102) 20 := W.2.1 (102, 20) (List.mem_of_getElem? (i := 66) rfl)
theorem wm_103 (W : Wd ad S) : ad 103 ∈ hL S := (W.1 103 10 rfl).1
theorem wk_103 (W : Wd ad S) : Kd S (ad 103) 10 := (W.1 103 10 rfl).2
theorem wm_104 (W : Wd ad S) : ad 104 ∈ hL S := (W.1 104 15 rfl).1
theorem wk_104 (W : Wd ad S) : Kd S (ad 104) 15 := (W.1 104 15 rfl).2
theorem wl_104 (W : Wd ad S) : Ln S (ad 104) 16 := W.2.1 (104, 16) (List.mem_of_getElem? (i := 67) rfl)
theorem wm_105 (W : Wd ad S) : ad 105 ∈ hL S := (W.1 105 14 rfl).1
theorem wk_105 (W : Wd ad S) : Kd S (ad 105) 14 := (W.1 105 14 rfl).2
theorem wl_105 (W : Wd ad S) : Ln S (ad 105) 8 := W.2.1 (105, 8) (List.mem_of_getElem? (i := 68) rfl)
theorem wm_106 (W : Wd ad S) : ad 106 ∈ hL S := (W.1 106 14 rfl).1
theorem wk_106 (W : Wd ad S) : Kd S (ad 106) 14 := (W.1 106 14 rfl).2
theorem wl_106 (W : Wd ad S) : Ln S (ad 106) 8 := W.2.1 (106, 8) (List.mem_of_getElem? (i := 69) rfl)
theorem wm_107 (W : Wd ad S) : ad 107 ∈ hL S := (W.1 107 1 rfl).1
theorem wk_107 (W : Wd ad S) : Kd S (ad 107) 1 := (W.1 107 1 rfl).2
theorem wm_108 (W : Wd ad S) : ad 108 ∈ hL S := (W.1 108 7 rfl).1
theorem wk_108 (W : Wd ad S) : Kd S (ad 108) 7 := (W.1 108 7 rfl).2
theorem wm_109 (W : Wd ad S) : ad 109 ∈ hL S := (W.1 109 14 rfl).1
theorem wk_109 (W : Wd ad S) : Kd S (ad 109) 14 := (W.1 109 14 rfl).2
theorem wl_109 (W : Wd ad S) : Ln S (ad 109) 40 := W.2.1 (109, 40) (List.mem_of_getElem? (i := 70) rfl)
theorem wm_110 (W : Wd ad S) : ad 110 ∈ hL S := (W.1 110 4 rfl).1
theorem wk_110 (W : Wd ad S) : Kd S (ad 110) 4 := (W.1 110 4 rfl).2
theorem wm_111 (W : Wd ad S) : ad 111 ∈ hL S := (W.1 111 14 rfl).1
theorem wk_111 (W : Wd ad S) : Kd S (ad 111) 14 := (W.1 111 14 rfl).2
theorem wl_111 (W : Wd ad S) : Ln S (ad 111) 20 := W.2.1 (111, 20) (List.mem_of_getElem? (i := 71) rfl)
theorem wm_112 (W : Wd ad S) : ad 112 ∈ hL S := (W.1 112 10 rfl).1
theorem wk_112 (W : Wd ad S) : Kd S (ad 112) 10 := (W.1 112 10 rfl).2
theorem wm_113 (W : Wd ad S) : ad 113 ∈ hL S := (W.1 113 15 rfl).1
theorem wk_113 (W : Wd ad S) : Kd S (ad 113) 15 := (W.1 113 15 rfl).2
theorem wl_113 (W : Wd ad S) : Ln S (ad 113) 16 := W.2.1 (113, 16) (List.mem_of_getElem? (i := 72) rfl)
theorem wm_114 (W : Wd ad S) : ad 114 ∈ hL S := (W.1 114 14 rfl).1
theorem wk_114 (W : Wd ad S) : Kd S (ad 114) 14 := (W.1 114 14 rfl).2
theorem wl_114 (W : Wd ad S) : Ln S (ad 114) 8 := W.2.1 (114, 8) (List.mem_of_getElem? (i := 73) rfl)
theorem wm_115 (W : Wd ad S) : ad 115 ∈ hL S := (W.1 115 14 rfl).1
theorem wk_115 (W : Wd ad S) : Kd S (ad 115) 14 := (W.1 115 14 rfl).2
theorem wl_115 (W : Wd ad S) : Ln S (ad 115) 8 := W.2.1 (115, 8) (List.mem_of_getElem? (i := 74) rfl)
theorem wm_116 (W : Wd ad S) : ad 116 ∈ hL S := (W.1 116 1 rfl).1
theorem wk_116 (W : Wd ad S) : Kd S (ad 116) 1 := (W.1 116 1 rfl).2
theorem wm_117 (W : Wd ad S) : ad 117 ∈ hL S := (W.1 117 7 rfl).1
theorem wk_117 (W : Wd ad S) : Kd S (ad 117) 7 := (W.1 117 7 rfl).2
theorem wm_118 (W : Wd ad S) : ad 118 ∈ hL S := (W.1 118 14 rfl).1
theorem wk_118 (W : Wd ad S) : Kd S (ad 118) 14 := (W.1 118 14 rfl).2
theorem wl_118 (W : Wd ad S) : Ln S (ad 118) 40 := W.2.1 (118, 40) (List.mem_of_getElem? (i := 75) rfl)
theorem wm_119 (W : Wd ad S) : ad 119 ∈ hL S := (W.1 119 4 rfl).1
theorem wk_119 (W : Wd ad S) : Kd S (ad 119) 4 := (W.1 119 4 rfl).2
theorem wm_120 (W : Wd ad S) : ad 120 ∈ hL S := (W.1 120 14 rfl).1
theorem wk_120 (W : Wd ad S) : Kd S (ad 120) 14 := (W.1 120 14 rfl).2
theorem wl_120 (W : Wd ad S) : Ln S (ad 120) 20 := W.2.1 (120, 20) (List.mem_of_getElem? (i := 76) rfl)
theorem wm_121 (W : Wd ad S) : ad 121 ∈ hL S := (W.1 121 10 rfl).1
theorem wk_121 (W : Wd ad S) : Kd S (ad 121) 10 := (W.1 121 10 rfl).2
theorem wm_122 (W : Wd ad S) : ad 122 ∈ hL S := (W.1 122 15 rfl).1
theorem wk_122 (W : Wd ad S) : Kd S (ad 122) 15 := (W.1 122 15 rfl).2
theorem wl_122 (W : Wd ad S) : Ln S (ad 122) 16 := W.2.1 (122, 16) (List.mem_of_getElem? (i := 77) rfl)
theorem wm_123 (W : Wd ad S) : ad 123 ∈ hL S := (W.1 123 14 rfl).1
theorem wk_123 (W : Wd ad S) : Kd S (ad 123) 14 := (W.1 123 14 rfl).2
theorem wl_123 (W : Wd ad S) : Ln S (ad 123) 8 := W.2.1 (123, 8) (List.mem_of_getElem? (i := 78) rfl)
theorem wm_124 (W : Wd ad S) : ad 124 ∈ hL S := (W.1 124 14 rfl).1
theorem wk_124 (W : Wd ad S) : Kd S (ad 124) 14 := (W.1 124 14 rfl).2
theorem wl_124 (W : Wd ad S) : Ln S (ad 124) 8 := W.2.1 (124, 8) (List.mem_of_getElem? (i := 79) rfl)
theorem wm_125 (W : Wd ad S) : ad 125 ∈ hL S := (W.1 125 5 rfl).1
theorem wk_125 (W : Wd ad S) : Kd S (ad 125) 5 := (W.1 125 5 rfl).2
theorem wm_126 (W : Wd ad S) : ad 126 ∈ hL S := (W.1 126 5 rfl).1
theorem wk_126 (W : Wd ad S) : Kd S (ad 126) 5 := (W.1 126 5 rfl).2
theorem wm_127 (W : Wd ad S) : ad 127 ∈ hL S := (W.1 127 5 rfl).1
theorem wk_127 (W : Wd ad S) : Kd S (ad 127) 5 := (W.1 127 5 rfl).2
theorem wm_128 (W : Wd ad S) : ad 128 ∈ hL S := (W.1 128 5 rfl).1
theorem wk_128 (W : Wd ad S) : Kd S (ad 128) 5 := (W.1 128 5 rfl).2
theorem wm_129 (W : Wd ad S) : ad 129 ∈ hL S := (W.1 129 3 rfl).1
theorem wk_129 (W : Wd ad S) : Kd S (ad 129) 3 := (W.1 129 3 rfl).2
theorem wm_130 (W : Wd ad S) : ad 130 ∈ hL S := (W.1 130 15 rfl).1
theorem wk_130 (W : Wd ad S) : Kd S (ad 130) 15 := (W.1 130 15 rfl).2
theorem wl_130 (W : Wd ad S) : Ln S (ad 130) 12 := W.2.1 (130, 12) (List.mem_of_getElem? (i := 80) rfl)
theorem wm_131 (W : Wd ad S) : ad 131 ∈ hL S := (W.1 131 13 rfl).1
theorem wk_131 (W : Wd ad S) : Kd S (ad 131) 13 := (W.1 131 13 rfl).2
theorem wl_131 (W : Wd ad S) : Ln S (ad 131) 12000 := W.2.1 (131, 12000) (List.mem_of_getElem? (i := 81) rfl)
theorem wm_132 (W : Wd ad S) : ad 132 ∈ hL S := (W.1 132 16 rfl).1
theorem wk_132 (W : Wd ad S) : Kd S (ad 132) 16 := (W.1 132 16 rfl).2
theorem wl_132 (W : Wd ad S) : Ln S (ad 132) 16384 := W.2.1 (132, 16384) (List.mem_of_getElem? (i := 82) rfl)
theorem wm_133 (W : Wd ad S) : ad 133 ∈ hL S := (W.1 133 12 rfl).1
theorem wk_133 (W : Wd ad S) : Kd S (ad 133) 12 := (W.1 133 12 rfl).2
theorem wm_134 (W : Wd ad S) : ad 134 ∈ hL S := (W.1 134 14 rfl).1
theorem wk_134 (W : Wd ad S) : Kd S (ad 134) 14 := (W.1 134 14 rfl).2
theorem wl_134 (W : Wd ad S) : Ln S (ad 134) 192 := W.2.1 (134, 192) (List.mem_of_getElem? (i := 83) rfl)
theorem wm_135 (W : Wd ad S) : ad 135 ∈ hL S := (W.1 135 14 rfl).1
theorem wk_135 (W : Wd ad S) : Kd S (ad 135) 14 := (W.1 135 14 rfl).2
theorem wl_135 (W : Wd ad S) : Ln S (ad 135) 960 := W.2.1 (135, 960) (List.mem_of_getElem? (i := 84) rfl)
theorem wm_136 (W : Wd ad S) : ad 136 ∈ hL S := (W.1 136 17 rfl).1
theorem wk_136 (W : Wd ad S) : Kd S (ad 136) 17 := (W.1 136 17 rfl).2
theorem wl_136 (W : Wd ad S) : Ln S (ad 136) 17 := W.2.1 (136, 17) (List.mem_of_getElem? (i := 85) rfl)
theorem wm_137 (W : Wd ad S) : ad 137 ∈ hL S := (W.1 137 17 rfl).1
theorem wk_137 (W : Wd ad S) : Kd S (ad 137) 17 := (W.1 137 17 rfl).2
theorem wl_137 (W : Wd ad S) : Ln S (ad 137) 17 := W.2.1 (137, 17) (List.mem_of_getElem? (i := 86) rfl)
theorem wm_138 (W : Wd ad S) : ad 138 ∈ hL S := (W.1 138 14 rfl).1
theorem wk_138 (W : Wd ad S) : Kd S (ad 138) 14 := (W.1 138 14 rfl).2
theorem wl_138 (W : Wd ad S) : Ln S (ad 138) 119 := W.2.1 (138, 119) (List.mem_of_getElem? (i := 87) rfl)
theorem wm_139 (W : Wd ad S) : ad 139 ∈ hL S := (W.1 139 14 rfl).1
theorem wk_139 (W : Wd ad S) : Kd S (ad 139) 14 := (W.1 139 14 rfl).2
theorem wl_139 (W : Wd ad S) : Ln S (ad 139) 4096 := W.2.1 (139, 4096) (List.mem_of_getElem? (i := 88) rfl)
theorem wm_140 (W : Wd ad S) : ad 140 ∈ hL S := (W.1 140 17 rfl).1
theorem wk_140 (W : Wd ad S) : Kd S (ad 140) 17 := (W.1 140 17 rfl).2
theorem wl_140 (W : Wd ad S) : Ln S (ad 140) 400 := W.2.1 (140, 400) (List.mem_of_getElem? (i := 89) rfl)
theorem wm_141 (W : Wd ad S) : ad 141 ∈ hL S := (W.1 141 14 rfl).1
theorem wk_141 (W : Wd ad S) : Kd S (ad 141) 14 := (W.1 141 14 rfl).2
theorem wl_141 (W : Wd ad S) : Ln S (ad 141) 2000 := W.2.1 (141, 2000) (List.mem_of_getElem? (i := 90) rfl)
theorem wm_142 (W : Wd ad S) : ad 142 ∈ hL S := (W.1 142 14 rfl).1
theorem wk_142 (W : Wd ad S) : Kd S (ad 142) 14 := (W.1 142 14 rfl).2
theorem wl_142 (W : Wd ad S) : Ln S (ad 142) 12800 := W.2.1 (142, 12800) (List.mem_of_getElem? (i := 91) rfl)
theorem wm_143 (W : Wd ad S) : ad 143 ∈ hL S := (W.1 143 17 rfl).1
theorem wk_143 (W : Wd ad S) : Kd S (ad 143) 17 := (W.1 143 17 rfl).2
theorem wl_143 (W : Wd ad S) : Ln S (ad 143) 16 := W.2.1 (143, 16) (List.mem_of_getElem? (i := 92) rfl)
theorem wm_144 (W : Wd ad S) : ad 144 ∈ hL S := (W.1 144 17 rfl).1
theorem wk_144 (W : Wd ad S) : Kd S (ad 144) 17 := (W.1 144 17 rfl).2
theorem wl_144 (W : Wd ad S) : Ln S (ad 144) 16 := W.2.1 (144, 16) (List.mem_of_getElem? (i := 93) rfl)
theorem wm_145 (W : Wd ad S) : ad 145 ∈ hL S := (W.1 145 14 rfl).1
theorem wk_145 (W : Wd ad S) : Kd S (ad 145) 14 := (W.1 145 14 rfl).2
theorem wl_145 (W : Wd ad S) : Ln S (ad 145) 16 := W.2.1 (145, 16) (List.mem_of_getElem? (i := 94) rfl)
theorem wm_146 (W : Wd ad S) : ad 146 ∈ hL S := (W.1 146 14 rfl).1
theorem wk_146 (W : Wd ad S) : Kd S (ad 146) 14 := (W.1 146 14 rfl).2
theorem wl_146 (W : Wd ad S) : Ln S (ad 146) 16 := W.2.1 (146, 16) (List.mem_of_getElem? (i := 95) rfl)
theorem wm_147 (W : Wd ad S) : ad 147 ∈ hL S := (W.1 147 14 rfl).1
theorem wk_147 (W : Wd ad S) : Kd S (ad 147) 14 := (W.1 147 14 rfl).2
theorem wl_147 (W : Wd ad S) : Ln S (ad 147) 256 := W.2.1 (147, 256) (List.mem_of_getElem? (i := 96) rfl)
theorem wm_148 (W : Wd ad S) : ad 148 ∈ hL S := (W.1 148 17 rfl).1
theorem wk_148 (W : Wd ad S) : Kd S (ad 148) 17 := (W.1 148 17 rfl).2
theorem wl_148 (W : Wd ad S) : Ln S (ad 148) 16 := W.2.1 (148, 16) (List.mem_of_getElem? (i := 97) rfl)
theorem wm_149 (W : Wd ad S) : ad 149 ∈ hL S := (W.1 149 17 rfl).1
theorem wk_149 (W : Wd ad S) : Kd S (ad 149) 17 := (W.1 149 17 rfl).2
theorem wl_149 (W : Wd ad S) : Ln S (ad 149) 16 := W.2.1 (149, 16) (List.mem_of_getElem? (i := 98) rfl)
theorem wm_150 (W : Wd ad S) : ad 150 ∈ hL S := (W.1 150 14 rfl).1
theorem wk_150 (W : Wd ad S) : Kd S (ad 150) 14 := (W.1 150 14 rfl).2
theorem wl_150 (W : Wd ad S) : Ln S (ad 150) 16 := W.2.1 (150, 16) (List.mem_of_getElem? (i := 99) rfl)
theorem wm_151 (W : Wd ad S) : ad 151 ∈ hL S := (W.1 151 13 rfl).1
theorem wk_151 (W : Wd ad S) : Kd S (ad 151) 13 := (W.1 151 13 rfl).2
theorem wl_151 (W : Wd ad S) : Ln S (ad 151) 24000 := W.2.1 (151, 24000) (List.mem_of_getElem? (i := 100) rfl)
theorem wm_152 (W : Wd ad S) : ad 152 ∈ hL S := (W.1 152 13 rfl).1
theorem wk_152 (W : Wd ad S) : Kd S (ad 152) 13 := (W.1 152 13 rfl).2
theorem wl_152 (W : Wd ad S) : Ln S (ad 152) 12000 := W.2.1 (152, 12000) (List.mem_of_getElem? (i := 101) rfl)
theorem wm_153 (W : Wd ad S) : ad 153 ∈ hL S := (W.1 153 14 rfl).1
theorem wk_153 (W : Wd ad S) : Kd S (ad 153) 14 := (W.1 153 14 rfl).2
theorem wl_153 (W : Wd ad S) : Ln S (ad 153) 7 := W.2.1 (153, 7) (List.mem_of_getElem? (i := 102) rfl)
theorem wm_154 (W : Wd ad S) : ad 154 ∈ hL S := (W.1 154 14 rfl).1
theorem wk_154 (W : Wd ad S) : Kd S (ad 154) 14 := (W.1 154 14 rfl).2
theorem wl_154 (W : Wd ad S) : Ln S (ad 154) 6 := W.2.1 (154, 6) (List.mem_of_getElem? (i := 103) rfl)
theorem wm_155 (W : Wd ad S) : ad 155 ∈ hL S := (W.1 155 13 rfl).1
theorem wk_155 (W : Wd ad S) : Kd S (ad 155) 13 := (W.1 155 13 rfl).2
theorem wl_155 (W : Wd ad S) : Ln S (ad 155) 8000 := W.2.1 (155, 8000) (List.mem_of_getElem? (i := 104) rfl)
theorem wm_156 (W : Wd ad S) : ad 156 ∈ hL S := (W.1 156 13 rfl).1
theorem wk_156 (W : Wd ad S) : Kd S (ad 156) 13 := (W.1 156 13 rfl).2
theorem wl_156 (W : Wd ad S) : Ln S (ad 156) 6000 := W.2.1 (156, 6000) (List.mem_of_getElem? (i := 105) rfl)
theorem wm_157 (W : Wd ad S) : ad 157 ∈ hL S := (W.1 157 13 rfl).1
theorem wk_157 (W : Wd ad S) : Kd S (ad 157) 13 := (W.1 157 13 rfl).2
theorem wl_157 (W : Wd ad S) : Ln S (ad 157) 64000 := W.2.1 (157, 64000) (List.mem_of_getElem? (i := 106) rfl)
theorem wm_158 (W : Wd ad S) : ad 158 ∈ hL S := (W.1 158 13 rfl).1
theorem wk_158 (W : Wd ad S) : Kd S (ad 158) 13 := (W.1 158 13 rfl).2
theorem wl_158 (W : Wd ad S) : Ln S (ad 158) 768000 := W.2.1 (158, 768000) (List.mem_of_getElem? (i := 107) rfl)
theorem wm_159 (W : Wd ad S) : ad 159 ∈ hL S := (W.1 159 14 rfl).1
theorem wk_159 (W : Wd ad S) : Kd S (ad 159) 14 := (W.1 159 14 rfl).2
theorem wl_159 (W : Wd ad S) : Ln S (ad 159) 12 := W.2.1 (159, 12) (List.mem_of_getElem? (i := 108) rfl)
theorem wm_160 (W : Wd ad S) : ad 160 ∈ hL S := (W.1 160 14 rfl).1
theorem wk_160 (W : Wd ad S) : Kd S (ad 160) 14 := (W.1 160 14 rfl).2
theorem wl_160 (W : Wd ad S) : Ln S (ad 160) 12 := W.2.1 (160, 12) (List.mem_of_getElem? (i := 109) rfl)
theorem wm_161 (W : Wd ad S) : ad 161 ∈ hL S := (W.1 161 13 rfl).1
theorem wk_161 (W : Wd ad S) : Kd S (ad 161) 13 := (W.1 161 13 rfl).2
theorem wl_161 (W : Wd ad S) : Ln S (ad 161) 60008 := W.2.1 (161, 60008) (List.mem_of_getElem? (i := 110) rfl)
theorem wm_162 (W : Wd ad S) : ad 162 ∈ hL S := (W.1 162 14 rfl).1
theorem wk_162 (W : Wd ad S) : Kd S (ad 162) 14 := (W.1 162 14 rfl).2
theorem wl_162 (W : Wd ad S) : Ln S (ad 162) 12 := W.2.1 (162, 12) (List.mem_of_getElem? (i := 111) rfl)
theorem wm_163 (W : Wd ad S) : ad 163 ∈ hL S := (W.1 163 14 rfl).1
theorem wk_163 (W : Wd ad S) : Kd S (ad 163) 14 := (W.1 163 14 rfl).2
theorem wl_163 (W : Wd ad S) : Ln S (ad 163) 20 := W.2.1 (163, 20) (List.mem_of_getElem? (i := 112) rfl)
theorem wm_164 (W : Wd ad S) : ad 164 ∈ hL S := (W.1 164 17 rfl).1
theorem wk_164 (W : Wd ad S) : Kd S (ad 164) 17 := (W.1 164 17 rfl).2
theorem wl_164 (W : Wd ad S) : Ln S (ad 164) 17 := W.2.1 (164, 17) (List.mem_of_getElem? (i := 113) rfl)
theorem wm_165 (W : Wd ad S) : ad 165 ∈ hL S := (W.1 165 14 rfl).1
theorem wk_165 (W : Wd ad S) : Kd S (ad 165) 14 := (W.1 165 14 rfl).2
theorem wl_165 (W : Wd ad S) : Ln S (ad 165) 148 := W.2.1 (165, 148) (List.mem_of_getElem? (i := 114) rfl)
theorem wm_166 (W : Wd ad S) : ad 166 ∈ hL S := (W.1 166 14 rfl).1
theorem wk_166 (W : Wd ad S) : Kd S (ad 166) 14 := (W.1 166 14 rfl).2
theorem wl_166 (W : Wd ad S) : Ln S (ad 166) 148 := W.2.1 (166, 148) (List.mem_of_getElem? (i := 115) rfl)
theorem wm_167 (W : Wd ad S) : ad 167 ∈ hL S := (W.1 167 14 rfl).1
theorem wk_167 (W : Wd ad S) : Kd S (ad 167) 14 := (W.1 167 14 rfl).2
theorem wl_167 (W : Wd ad S) : Ln S (ad 167) 640 := W.2.1 (167, 640) (List.mem_of_getElem? (i := 116) rfl)
theorem wm_168 (W : Wd ad S) : ad 168 ∈ hL S := (W.1 168 14 rfl).1
theorem wk_168 (W : Wd ad S) : Kd S (ad 168) 14 := (W.1 168 14 rfl).2
theorem wl_168 (W : Wd ad S) : Ln S (ad 168) 640 := W.2.1 (168, 640) (List.mem_of_getElem? (i := 117) rfl)
theorem wm_169 (W : Wd ad S) : ad 169 ∈ hL S := (W.1 169 14 rfl).1
theorem wk_169 (W : Wd ad S) : Kd S (ad 169) 14 := (W.1 169 14 rfl).2
theorem wl_169 (W : Wd ad S) : Ln S (ad 169) 12 := W.2.1 (169, 12) (List.mem_of_getElem? (i := 118) rfl)
theorem wm_170 (W : Wd ad S) : ad 170 ∈ hL S := (W.1 170 14 rfl).1
theorem wk_170 (W : Wd ad S) : Kd S (ad 170) 14 := (W.1 170 14 rfl).2
theorem wl_170 (W : Wd ad S) : Ln S (ad 170) 400 := W.2.1 (170, 400) (List.mem_of_getElem? (i := 119) rfl)
theorem wm_171 (W : Wd ad S) : ad 171 ∈ hL S := (W.1 171 15 rfl).1
theorem wk_171 (W : Wd ad S) : Kd S (ad 171) 15 := (W.1 171 15 rfl).2
theorem wl_171 (W : Wd ad S) : Ln S (ad 171) 400 := W.2.1 (171, 400) (List.mem_of_getElem? (i := 120) rfl)
theorem wm_172 (W : Wd ad S) : ad 172 ∈ hL S := (W.1 172 15 rfl).1
theorem wk_172 (W : Wd ad S) : Kd S (ad 172) 15 := (W.1 172 15 rfl).2
theorem wl_172 (W : Wd ad S) : Ln S (ad 172) 40 := W.2.1 (172, 40) (List.mem_of_getElem? (i := 121) rfl)
theorem wm_173 (W : Wd ad S) : ad 173 ∈ hL S := (W.1 173 15 rfl).1
theorem wk_173 (W : Wd ad S) : Kd S (ad 173) 15 := (W.1 173 15 rfl).2
theorem wl_173 (W : Wd ad S) : Ln S (ad 173) 40 := W.2.1 (173, 40) (List.mem_of_getElem? (i := 122) rfl)
theorem wr_1100_0 (W : Wd ad S) : hR S 1100 (ad 0) = some (ad 1) := W.2.2.1 (1100, 0, 1) (List.mem_of_getElem? (i := 0) rfl)
theorem wr_1102_0 (W : Wd ad S) : hR S 1102 (ad 0) = some (ad 2) := W.2.2.1 (1102, 0, 2) (List.mem_of_getElem? (i := 1) rfl)
theorem wr_1103_0 (W : Wd ad S) : hR S 1103 (ad 0) = some (ad 3) := W.2.2.1 (1103, 0, 3) (List.mem_of_getElem? (i := 2) rfl)
theorem wr_1104_0 (W : Wd ad S) : hR S 1104 (ad 0) = some (ad 4) := W.2.2.1 (1104, 0, 4) (List.mem_of_getElem? (i := 3) rfl)
theorem wr_1106_0 (W : Wd ad S) : hR S 1106 (ad 0) = some (ad 5) := W.2.2.1 (1106, 0, 5) (List.mem_of_getElem? (i := 4) rfl)
theorem wr_600_5 (W : Wd ad S) : hR S 600 (ad 5) = some (ad 6) := W.2.2.1 (600, 5, 6) (List.mem_of_getElem? (i := 5) rfl)
theorem wr_604_5 (W : Wd ad S) : hR S 604 (ad 5) = some (ad 7) := W.2.2.1 (604, 5, 7) (List.mem_of_getElem? (i := 6) rfl)
theorem wr_605_5 (W : Wd ad S) : hR S 605 (ad 5) = some (ad 8) := W.2.2.1 (605, 5, 8) (List.mem_of_getElem? (i := 7) rfl)
theorem wr_606_5 (W : Wd ad S) : hR S 606 (ad 5) = some (ad 9) := W.2.2.1 (606, 5, 9) (List.mem_of_getElem? (i := 8) rfl)
theorem wr_1107_0 (W : Wd ad S) : hR S 1107 (ad 0) = some (ad 23) := W.2.2.1 (1107, 0, 23) (List.mem_of_getElem? (i := 9) rfl)
theorem wr_901_23 (W : Wd ad S) : hR S 901 (ad 23) = some (ad 24) := W.2.2.1 (901, 23, 24) (List.mem_of_getElem? (i := 10) rfl)
theorem wr_0_24 (W : Wd ad S) : hR S 0 (ad 24) = some (ad 25) := W.2.2.1 (0, 24, 25) (List.mem_of_getElem? (i := 11) rfl)
theorem wr_1_24 (W : Wd ad S) : hR S 1 (ad 24) = some (ad 26) := W.2.2.1 (1, 24, 26) (List.mem_of_getElem? (i := 12) rfl)
theorem wr_902_23 (W : Wd ad S) : hR S 902 (ad 23) = some (ad 27) := W.2.2.1 (902, 23, 27) (List.mem_of_getElem? (i := 13) rfl)
theorem wr_200_27 (W : Wd ad S) : hR S 200 (ad 27) = some (ad 28) := W.2.2.1 (200, 27, 28) (List.mem_of_getElem? (i := 14) rfl)
theorem wr_800_28 (W : Wd ad S) : hR S 800 (ad 28) = some (ad 29) := W.2.2.1 (800, 28, 29) (List.mem_of_getElem? (i := 15) rfl)
theorem wr_201_27 (W : Wd ad S) : hR S 201 (ad 27) = some (ad 30) := W.2.2.1 (201, 27, 30) (List.mem_of_getElem? (i := 16) rfl)
theorem wr_202_27 (W : Wd ad S) : hR S 202 (ad 27) = some (ad 31) := W.2.2.1 (202, 27, 31) (List.mem_of_getElem? (i := 17) rfl)
theorem wr_203_27 (W : Wd ad S) : hR S 203 (ad 27) = some (ad 32) := W.2.2.1 (203, 27, 32) (List.mem_of_getElem? (i := 18) rfl)
theorem wr_204_27 (W : Wd ad S) : hR S 204 (ad 27) = some (ad 33) := W.2.2.1 (204, 27, 33) (List.mem_of_getElem? (i := 19) rfl)
theorem wr_205_27 (W : Wd ad S) : hR S 205 (ad 27) = some (ad 34) := W.2.2.1 (205, 27, 34) (List.mem_of_getElem? (i := 20) rfl)
theorem wr_207_27 (W : Wd ad S) : hR S 207 (ad 27) = some (ad 35) := W.2.2.1 (207, 27, 35) (List.mem_of_getElem? (i := 21) rfl)
theorem wr_903_23 (W : Wd ad S) : hR S 903 (ad 23) = some (ad 36) := W.2.2.1 (903, 23, 36) (List.mem_of_getElem? (i := 22) rfl)
theorem wr_800_36 (W : Wd ad S) : hR S 800 (ad 36) = some (ad 37) := W.2.2.1 (800, 36, 37) (List.mem_of_getElem? (i := 23) rfl)
theorem wr_904_23 (W : Wd ad S) : hR S 904 (ad 23) = some (ad 38) := W.2.2.1 (904, 23, 38) (List.mem_of_getElem? (i := 24) rfl)
theorem wr_905_23 (W : Wd ad S) : hR S 905 (ad 23) = some (ad 39) := W.2.2.1 (905, 23, 39) (List.mem_of_getElem? (i := 25) rfl)
theorem wr_1003_39 (W : Wd ad S) : hR S 1003 (ad 39) = some (ad 40) := W.2.2.1 (1003, 39, 40) (List.mem_of_getElem? (i := 26) rfl)
theorem wr_906_23 (W : Wd ad S) : hR S 906 (ad 23) = some (ad 41) := W.2.2.1 (906, 23, 41) (List.mem_of_getElem? (i := 27) rfl)
theorem wr_800_41 (W : Wd ad S) : hR S 800 (ad 41) = some (ad 42) := W.2.2.1 (800, 41, 42) (List.mem_of_getElem? (i := 28) rfl)
theorem wr_907_23 (W : Wd ad S) : hR S 907 (ad 23) = some (ad 43) := W.2.2.1 (907, 23, 43) (List.mem_of_getElem? (i := 29) rfl)
theorem wr_908_23 (W : Wd ad S) : hR S 908 (ad 23) = some (ad 44) := W.2.2.1 (908, 23, 44) (List.mem_of_getElem? (i := 30) rfl)
theorem wr_909_23 (W : Wd ad S) : hR S 909 (ad 23) = some (ad 45) := W.2.2.1 (909, 23, 45) (List.mem_of_getElem? (i := 31) rfl)
theorem wr_100_45 (W : Wd ad S) : hR S 100 (ad 45) = some (ad 46) := W.2.2.1 (100, 45, 46) (List.mem_of_getElem? (i := 32) rfl)
theorem wr_712_46 (W : Wd ad S) : hR S 712 (ad 46) = some (ad 47) := W.2.2.1 (712, 46, 47) (List.mem_of_getElem? (i := 33) rfl)
theorem wr_101_45 (W : Wd ad S) : hR S 101 (ad 45) = some (ad 48) := W.2.2.1 (101, 45, 48) (List.mem_of_getElem? (i := 34) rfl)
theorem wr_407_48 (W : Wd ad S) : hR S 407 (ad 48) = some (ad 49) := W.2.2.1 (407, 48, 49) (List.mem_of_getElem? (i := 35) rfl)
theorem wr_102_45 (W : Wd ad S) : hR S 102 (ad 45) = some (ad 50) := W.2.2.1 (102, 45, 50) (List.mem_of_getElem? (i := 36) rfl)
theorem wr_1003_50 (W : Wd ad S) : hR S 1003 (ad 50) = some (ad 51) := W.2.2.1 (1003, 50, 51) (List.mem_of_getElem? (i := 37) rfl)
theorem wr_103_45 (W : Wd ad S) : hR S 103 (ad 45) = some (ad 52) := W.2.2.1 (103, 45, 52) (List.mem_of_getElem? (i := 38) rfl)
theorem wr_104_45 (W : Wd ad S) : hR S 104 (ad 45) = some (ad 53) := W.2.2.1 (104, 45, 53) (List.mem_of_getElem? (i := 39) rfl)
theorem wr_910_23 (W : Wd ad S) : hR S 910 (ad 23) = some (ad 54) := W.2.2.1 (910, 23, 54) (List.mem_of_getElem? (i := 40) rfl)
theorem wr_100_54 (W : Wd ad S) : hR S 100 (ad 54) = some (ad 55) := W.2.2.1 (100, 54, 55) (List.mem_of_getElem? (i := 41) rfl)
theorem wr_712_55 (W : Wd ad S) : hR S 712 (ad 55) = some (ad 56) := W.2.2.1 (712, 55, 56) (List.mem_of_getElem? (i := 42) rfl)
theorem wr_101_54 (W : Wd ad S) : hR S 101 (ad 54) = some (ad 57) := W.2.2.1 (101, 54, 57) (List.mem_of_getElem? (i := 43) rfl)
theorem wr_407_57 (W : Wd ad S) : hR S 407 (ad 57) = some (ad 58) := W.2.2.1 (407, 57, 58) (List.mem_of_getElem? (i := 44) rfl)
theorem wr_102_54 (W : Wd ad S) : hR S 102 (ad 54) = some (ad 59) := W.2.2.1 (102, 54, 59) (List.mem_of_getElem? (i := 45) rfl)
theorem wr_1003_59 (W : Wd ad S) : hR S 1003 (ad 59) = some (ad 60) := W.2.2.1 (1003, 59, 60) (List.mem_of_getElem? (i := 46) rfl)
theorem wr_103_54 (W : Wd ad S) : hR S 103 (ad 54) = some (ad 61) := W.2.2.1 (103, 54, 61) (List.mem_of_getElem? (i := 47) rfl)
theorem wr_104_54 (W : Wd ad S) : hR S 104 (ad 54) = some (ad 62) := W.2.2.1 (104, 54, 62) (List.mem_of_getElem? (i := 48) rfl)
theorem wr_911_23 (W : Wd ad S) : hR S 911 (ad 23) = some (ad 63) := W.2.2.1 (911, 23, 63) (List.mem_of_getElem? (i := 49) rfl)
theorem wr_912_23 (W : Wd ad S) : hR S 912 (ad 23) = some (ad 64) := W.2.2.1 (912, 23, 64) (List.mem_of_getElem? (i := 50) rfl)
theorem wr_917_23 (W : Wd ad S) : hR S 917 (ad 23) = some (ad 65) := W.2.2.1 (917, 23, 65) (List.mem_of_getElem? (i := 51) rfl)
theorem wr_1003_66 (W : Wd ad S) : hR S 1003 (ad 66) = some (ad 67) := W.2.2.1 (1003, 66, 67) (List.mem_of_getElem? (i := 52) rfl)
theorem wr_1003_68 (W : Wd ad S) : hR S 1003 (ad 68) = some (ad 69) := W.2.2.1 (1003, 68, 69) (List.mem_of_getElem? (i := 53) rfl)
theorem wr_1003_70 (W : Wd ad S) : hR S 1003 (ad 70) = some (ad 71) := W.2.2.1 (1003, 70, 71) (List.mem_of_getElem? (i := 54) rfl)
theorem wr_1003_72 (W : Wd ad S) : hR S 1003 (ad 72) = some (ad 73) := W.2.2.1 (1003, 72, 73) (List.mem_of_getElem? (i := 55) rfl)
theorem wr_1003_74 (W : Wd ad S) : hR S 1003 (ad 74) = some (ad 75) := W.2.2.1 (1003, 74, 75) (List.mem_of_getElem? (i := 56) rfl)
theorem wr_1003_76 (W : Wd ad S) : hR S 1003 (ad 76) = some (ad 77) := W.2.2.1 (1003, 76, 77) (List.mem_of_getElem? (i := 57) rfl)
theorem wr_1003_78 (W : Wd ad S) : hR S 1003 (ad 78) = some (ad 79) := W.2.2.1 (1003, 78, 79) (List.mem_of_getElem? (i := 58) rfl)
theorem wr_1003_80 (W : Wd ad S) : hR S 1003 (ad 80) = some (ad 81) := W.2.2.1 (1003, 80, 81) (List.mem_of_getElem? (i := 59) rfl)
theorem wr_1003_82 (W : Wd ad S) : hR S 1003 (ad 82) = some (ad 83) := W.2.2.1 (1003, 82, 83) (List.mem_of_getElem? (i := 60) rfl)
theorem wr_1003_84 (W : Wd ad S) : hR S 1003 (ad 84) = some (ad 85) := W.2.2.1 (1003, 84, 85) (List.mem_of_getElem? (i := 61) rfl)
theorem wr_1003_86 (W : Wd ad S) : hR S 1003 (ad 86) = some (ad 87) := W.2.2.1 (1003, 86, 87) (List.mem_of_getElem? (i := 62) rfl)
theorem wr_1003_88 (W : Wd ad S) : hR S 1003 (ad 88) = some (ad 89) := W.2.2.1 (1003, 88, 89) (List.mem_of_getElem? (i := 63) rfl)
theorem wr_1003_90 (W : Wd ad S) : hR S 1003 (ad 90) = some (ad 91) := W.2.2.1 (1003, 90, 91) (List.mem_of_getElem? (i := 64) rfl)
theorem wr_1003_92 (W : Wd ad S) : hR S 1003 (ad 92) = some (ad 93) := W.2.2.1 (1003, 92, 93) (List.mem_of_getElem? (i := 65) rfl)
theorem wr_1003_94 (W : Wd ad S) : hR S 1003 (ad 94) = some (ad 95) := W.2.2.1 (1003, 94, 95) (List.mem_of_getElem? (i := 66) rfl)
theorem wr_1003_96 (W : Wd ad S) : hR S 1003 (ad 96) = some (ad 97) := W.2.2.1 (1003, 96, 97) (List.mem_of_getElem? (i := 67) rfl)
theorem wr_100_98 (W : Wd ad S) : hR S 100 (ad 98) = some (ad 99) := W.2.2.1 (100, 98, 99) (List.mem_of_getElem? (i := 68) rfl)
theorem wr_712_99 (W : Wd ad S) : hR S 712 (ad 99) = some (ad 100) := W.2.2.1 (712, 99, 100) (List.mem_of_getElem? (i := 69) rfl)
theorem wr_101_98 (W : Wd ad S) : hR S 101 (ad 98) = some (ad 101) := W.2.2.1 (101, 98, 101) (List.mem_of_getElem? (i := 70) rfl)
theorem wr_407_101 (W : Wd ad S) : hR S 407 (ad 101) = some (ad 102) := W.2.2.1 (407, 101, 102) (List.mem_of_getElem? (i := 71) rfl)
theorem wr_102_98 (W : Wd ad S) : hR S 102 (ad 98) = some (ad 103) := W.2.2.1 (102, 98, 103) (List.mem_of_getElem? (i := 72) rfl)
theorem wr_1003_103 (W : Wd ad S) : hR S 1003 (ad 103) = some (ad 104) := W.2.2.1 (1003, 103, 104) (List.mem_of_getElem? (i := 73) rfl)
theorem wr_103_98 (W : Wd ad S) : hR S 103 (ad 98) = some (ad 105) := W.2.2.1 (103, 98, 105) (List.mem_of_getElem? (i := 74) rfl)
theorem wr_104_98 (W : Wd ad S) : hR S 104 (ad 98) = some (ad 106) := W.2.2.1 (104, 98, 106) (List.mem_of_getElem? (i := 75) rfl)
theorem wr_100_107 (W : Wd ad S) : hR S 100 (ad 107) = some (ad 108) := W.2.2.1 (100, 107, 108) (List.mem_of_getElem? (i := 76) rfl)
theorem wr_712_108 (W : Wd ad S) : hR S 712 (ad 108) = some (ad 109) := W.2.2.1 (712, 108, 109) (List.mem_of_getElem? (i := 77) rfl)
theorem wr_101_107 (W : Wd ad S) : hR S 101 (ad 107) = some (ad 110) := W.2.2.1 (101, 107, 110) (List.mem_of_getElem? (i := 78) rfl)
theorem wr_407_110 (W : Wd ad S) : hR S 407 (ad 110) = some (ad 111) := W.2.2.1 (407, 110, 111) (List.mem_of_getElem? (i := 79) rfl)
theorem wr_102_107 (W : Wd ad S) : hR S 102 (ad 107) = some (ad 112) := W.2.2.1 (102, 107, 112) (List.mem_of_getElem? (i := 80) rfl)
theorem wr_1003_112 (W : Wd ad S) : hR S 1003 (ad 112) = some (ad 113) := W.2.2.1 (1003, 112, 113) (List.mem_of_getElem? (i := 81) rfl)
theorem wr_103_107 (W : Wd ad S) : hR S 103 (ad 107) = some (ad 114) := W.2.2.1 (103, 107, 114) (List.mem_of_getElem? (i := 82) rfl)
theorem wr_104_107 (W : Wd ad S) : hR S 104 (ad 107) = some (ad 115) := W.2.2.1 (104, 107, 115) (List.mem_of_getElem? (i := 83) rfl)
theorem wr_100_116 (W : Wd ad S) : hR S 100 (ad 116) = some (ad 117) := W.2.2.1 (100, 116, 117) (List.mem_of_getElem? (i := 84) rfl)
theorem wr_712_117 (W : Wd ad S) : hR S 712 (ad 117) = some (ad 118) := W.2.2.1 (712, 117, 118) (List.mem_of_getElem? (i := 85) rfl)
theorem wr_101_116 (W : Wd ad S) : hR S 101 (ad 116) = some (ad 119) := W.2.2.1 (101, 116, 119) (List.mem_of_getElem? (i := 86) rfl)
theorem wr_407_119 (W : Wd ad S) : hR S 407 (ad 119) = some (ad 120) := W.2.2.1 (407, 119, 120) (List.mem_of_getElem? (i := 87) rfl)
theorem wr_102_116 (W : Wd ad S) : hR S 102 (ad 116) = some (ad 121) := W.2.2.1 (102, 116, 121) (List.mem_of_getElem? (i := 88) rfl)
theorem wr_1003_121 (W : Wd ad S) : hR S 1003 (ad 121) = some (ad 122) := W.2.2.1 (1003, 121, 122) (List.mem_of_getElem? (i := 89) rfl)
theorem wr_103_116 (W : Wd ad S) : hR S 103 (ad 116) = some (ad 123) := W.2.2.1 (103, 116, 123) (List.mem_of_getElem? (i := 90) rfl)
theorem wr_104_116 (W : Wd ad S) : hR S 104 (ad 116) = some (ad 124) := W.2.2.1 (104, 116, 124) (List.mem_of_getElem? (i := 91) rfl)
theorem wr_1108_0 (W : Wd ad S) : hR S 1108 (ad 0) = some (ad 129) := W.2.2.1 (1108, 0, 129) (List.mem_of_getElem? (i := 92) rfl)
theorem wr_307_129 (W : Wd ad S) : hR S 307 (ad 129) = some (ad 130) := W.2.2.1 (307, 129, 130) (List.mem_of_getElem? (i := 93) rfl)
theorem wr_317_129 (W : Wd ad S) : hR S 317 (ad 129) = some (ad 131) := W.2.2.1 (317, 129, 131) (List.mem_of_getElem? (i := 94) rfl)
theorem wr_320_129 (W : Wd ad S) : hR S 320 (ad 129) = some (ad 132) := W.2.2.1 (320, 129, 132) (List.mem_of_getElem? (i := 95) rfl)
theorem wr_1200_133 (W : Wd ad S) : hR S 1200 (ad 133) = some (ad 134) := W.2.2.1 (1200, 133, 134) (List.mem_of_getElem? (i := 96) rfl)
theorem wr_1201_133 (W : Wd ad S) : hR S 1201 (ad 133) = some (ad 135) := W.2.2.1 (1201, 133, 135) (List.mem_of_getElem? (i := 97) rfl)
theorem wr_1202_133 (W : Wd ad S) : hR S 1202 (ad 133) = some (ad 136) := W.2.2.1 (1202, 133, 136) (List.mem_of_getElem? (i := 98) rfl)
theorem wr_1203_133 (W : Wd ad S) : hR S 1203 (ad 133) = some (ad 137) := W.2.2.1 (1203, 133, 137) (List.mem_of_getElem? (i := 99) rfl)
theorem wr_1204_133 (W : Wd ad S) : hR S 1204 (ad 133) = some (ad 138) := W.2.2.1 (1204, 133, 138) (List.mem_of_getElem? (i := 100) rfl)
theorem wr_1205_133 (W : Wd ad S) : hR S 1205 (ad 133) = some (ad 139) := W.2.2.1 (1205, 133, 139) (List.mem_of_getElem? (i := 101) rfl)
theorem wr_1206_133 (W : Wd ad S) : hR S 1206 (ad 133) = some (ad 140) := W.2.2.1 (1206, 133, 140) (List.mem_of_getElem? (i := 102) rfl)
theorem wr_1207_133 (W : Wd ad S) : hR S 1207 (ad 133) = some (ad 141) := W.2.2.1 (1207, 133, 141) (List.mem_of_getElem? (i := 103) rfl)
theorem wr_1208_133 (W : Wd ad S) : hR S 1208 (ad 133) = some (ad 142) := W.2.2.1 (1208, 133, 142) (List.mem_of_getElem? (i := 104) rfl)
theorem wr_1210_133 (W : Wd ad S) : hR S 1210 (ad 133) = some (ad 143) := W.2.2.1 (1210, 133, 143) (List.mem_of_getElem? (i := 105) rfl)
theorem wr_1211_133 (W : Wd ad S) : hR S 1211 (ad 133) = some (ad 144) := W.2.2.1 (1211, 133, 144) (List.mem_of_getElem? (i := 106) rfl)
theorem wr_1212_133 (W : Wd ad S) : hR S 1212 (ad 133) = some (ad 145) := W.2.2.1 (1212, 133, 145) (List.mem_of_getElem? (i := 107) rfl)
theorem wr_1213_133 (W : Wd ad S) : hR S 1213 (ad 133) = some (ad 146) := W.2.2.1 (1213, 133, 146) (List.mem_of_getElem? (i := 108) rfl)
theorem wr_1214_133 (W : Wd ad S) : hR S 1214 (ad 133) = some (ad 147) := W.2.2.1 (1214, 133, 147) (List.mem_of_getElem? (i := 109) rfl)
theorem wr_1215_133 (W : Wd ad S) : hR S 1215 (ad 133) = some (ad 148) := W.2.2.1 (1215, 133, 148) (List.mem_of_getElem? (i := 110) rfl)
theorem wr_1216_133 (W : Wd ad S) : hR S 1216 (ad 133) = some (ad 149) := W.2.2.1 (1216, 133, 149) (List.mem_of_getElem? (i := 111) rfl)
theorem wr_1217_133 (W : Wd ad S) : hR S 1217 (ad 133) = some (ad 150) := W.2.2.1 (1217, 133, 150) (List.mem_of_getElem? (i := 112) rfl)
theorem wr_1218_133 (W : Wd ad S) : hR S 1218 (ad 133) = some (ad 151) := W.2.2.1 (1218, 133, 151) (List.mem_of_getElem? (i := 113) rfl)
theorem wr_1219_133 (W : Wd ad S) : hR S 1219 (ad 133) = some (ad 152) := W.2.2.1 (1219, 133, 152) (List.mem_of_getElem? (i := 114) rfl)
theorem wr_1220_133 (W : Wd ad S) : hR S 1220 (ad 133) = some (ad 153) := W.2.2.1 (1220, 133, 153) (List.mem_of_getElem? (i := 115) rfl)
theorem wr_1221_133 (W : Wd ad S) : hR S 1221 (ad 133) = some (ad 154) := W.2.2.1 (1221, 133, 154) (List.mem_of_getElem? (i := 116) rfl)
theorem wr_1223_133 (W : Wd ad S) : hR S 1223 (ad 133) = some (ad 155) := W.2.2.1 (1223, 133, 155) (List.mem_of_getElem? (i := 117) rfl)
theorem wr_1225_133 (W : Wd ad S) : hR S 1225 (ad 133) = some (ad 156) := W.2.2.1 (1225, 133, 156) (List.mem_of_getElem? (i := 118) rfl)
theorem wr_1234_133 (W : Wd ad S) : hR S 1234 (ad 133) = some (ad 157) := W.2.2.1 (1234, 133, 157) (List.mem_of_getElem? (i := 119) rfl)
theorem wr_1237_133 (W : Wd ad S) : hR S 1237 (ad 133) = some (ad 158) := W.2.2.1 (1237, 133, 158) (List.mem_of_getElem? (i := 120) rfl)
theorem wr_1238_133 (W : Wd ad S) : hR S 1238 (ad 133) = some (ad 159) := W.2.2.1 (1238, 133, 159) (List.mem_of_getElem? (i := 121) rfl)
theorem wr_1239_133 (W : Wd ad S) : hR S 1239 (ad 133) = some (ad 160) := W.2.2.1 (1239, 133, 160) (List.mem_of_getElem? (i := 122) rfl)
theorem wr_1241_133 (W : Wd ad S) : hR S 1241 (ad 133) = some (ad 161) := W.2.2.1 (1241, 133, 161) (List.mem_of_getElem? (i := 123) rfl)
theorem wr_1246_133 (W : Wd ad S) : hR S 1246 (ad 133) = some (ad 162) := W.2.2.1 (1246, 133, 162) (List.mem_of_getElem? (i := 124) rfl)
theorem wr_1248_133 (W : Wd ad S) : hR S 1248 (ad 133) = some (ad 163) := W.2.2.1 (1248, 133, 163) (List.mem_of_getElem? (i := 125) rfl)
theorem wr_1250_133 (W : Wd ad S) : hR S 1250 (ad 133) = some (ad 164) := W.2.2.1 (1250, 133, 164) (List.mem_of_getElem? (i := 126) rfl)
theorem wr_1256_133 (W : Wd ad S) : hR S 1256 (ad 133) = some (ad 165) := W.2.2.1 (1256, 133, 165) (List.mem_of_getElem? (i := 127) rfl)
theorem wr_1257_133 (W : Wd ad S) : hR S 1257 (ad 133) = some (ad 166) := W.2.2.1 (1257, 133, 166) (List.mem_of_getElem? (i := 128) rfl)
theorem wr_1258_133 (W : Wd ad S) : hR S 1258 (ad 133) = some (ad 167) := W.2.2.1 (1258, 133, 167) (List.mem_of_getElem? (i := 129) rfl)
theorem wr_1259_133 (W : Wd ad S) : hR S 1259 (ad 133) = some (ad 168) := W.2.2.1 (1259, 133, 168) (List.mem_of_getElem? (i := 130) rfl)
theorem wr_1270_133 (W : Wd ad S) : hR S 1270 (ad 133) = some (ad 169) := W.2.2.1 (1270, 133, 169) (List.mem_of_getElem? (i := 131) rfl)
theorem wr_1272_133 (W : Wd ad S) : hR S 1272 (ad 133) = some (ad 170) := W.2.2.1 (1272, 133, 170) (List.mem_of_getElem? (i := 132) rfl)
theorem wr_1273_133 (W : Wd ad S) : hR S 1273 (ad 133) = some (ad 171) := W.2.2.1 (1273, 133, 171) (List.mem_of_getElem? (i := 133) rfl)
theorem wr_1274_133 (W : Wd ad S) : hR S 1274 (ad 133) = some (ad 172) := W.2.2.1 (1274, 133, 172) (List.mem_of_getElem? (i := 134) rfl)
theorem wr_1275_133 (W : Wd ad S) : hR S 1275 (ad 133) = some (ad 173) := W.2.2.1 (1275, 133, 173) (List.mem_of_getElem? (i := 135) rfl)
theorem wr_900_23 (W : Wd ad S) : hR S 900 (ad 23) = some (ad 5) := W.2.2.1 (900, 23, 5) (List.mem_of_getElem? (i := 136) rfl)
theorem wq_9_0 (W : Wd ad S) : aR S (ad 9) 0 = some (ad 10) := W.2.2.2.1 (9, 0, 10) (List.mem_of_getElem? (i := 0) rfl)
theorem wq_9_1 (W : Wd ad S) : aR S (ad 9) 1 = some (ad 11) := W.2.2.2.1 (9, 1, 11) (List.mem_of_getElem? (i := 1) rfl)
theorem wq_9_2 (W : Wd ad S) : aR S (ad 9) 2 = some (ad 12) := W.2.2.2.1 (9, 2, 12) (List.mem_of_getElem? (i := 2) rfl)
theorem wq_9_3 (W : Wd ad S) : aR S (ad 9) 3 = some (ad 13) := W.2.2.2.1 (9, 3, 13) (List.mem_of_getElem? (i := 3) rfl)
theorem wq_9_4 (W : Wd ad S) : aR S (ad 9) 4 = some (ad 14) := W.2.2.2.1 (9, 4, 14) (List.mem_of_getElem? (i := 4) rfl)
theorem wq_9_5 (W : Wd ad S) : aR S (ad 9) 5 = some (ad 15) := W.2.2.2.1 (9, 5, 15) (List.mem_of_getElem? (i := 5) rfl)
theorem wq_9_6 (W : Wd ad S) : aR S (ad 9) 6 = some (ad 16) := W.2.2.2.1 (9, 6, 16) (List.mem_of_getElem? (i := 6) rfl)
theorem wq_9_7 (W : Wd ad S) : aR S (ad 9) 7 = some (ad 17) := W.2.2.2.1 (9, 7, 17) (List.mem_of_getElem? (i := 7) rfl)
theorem wq_9_8 (W : Wd ad S) : aR S (ad 9) 8 = some (ad 18) := W.2.2.2.1 (9, 8, 18) (List.mem_of_getElem? (i := 8) rfl)
theorem wq_9_9 (W : Wd ad S) : aR S (ad 9) 9 = some (ad 19) := W.2.2.2.1 (9, 9, 19) (List.mem_of_getElem? (i := 9) rfl)
theorem wq_9_10 (W : Wd ad S) : aR S (ad 9) 10 = some (ad 20) := W.2.2.2.1 (9, 10, 20) (List.mem_of_getElem? (i := 10) rfl)
theorem wq_9_11 (W : Wd ad S) : aR S (ad 9) 11 = some (ad 21) := W.2.2.2.1 (9, 11, 21) (List.mem_of_getElem? (i := 11) rfl)
theorem wq_9_12 (W : Wd ad S) : aR S (ad 9) 12 = some (ad 22) := W.2.2.2.1 (9, 12, 22) (List.mem_of_getElem? (i := 12) rfl)
theorem wq_38_0 (W : Wd ad S) : aR S (ad 38) 0 = some (ad 66) := W.2.2.2.1 (38, 0, 66) (List.mem_of_getElem? (i := 13) rfl)
theorem wq_38_1 (W : Wd ad S) : aR S (ad 38) 1 = some (ad 68) := W.2.2.2.1 (38, 1, 68) (List.mem_of_getElem? (i := 14) rfl)
theorem wq_38_2 (W : Wd ad S) : aR S (ad 38) 2 = some (ad 70) := W.2.2.2.1 (38, 2, 70) (List.mem_of_getElem? (i := 15) rfl)
theorem wq_38_3 (W : Wd ad S) : aR S (ad 38) 3 = some (ad 72) := W.2.2.2.1 (38, 3, 72) (List.mem_of_getElem? (i := 16) rfl)
theorem wq_38_4 (W : Wd ad S) : aR S (ad 38) 4 = some (ad 74) := W.2.2.2.1 (38, 4, 74) (List.mem_of_getElem? (i := 17) rfl)
theorem wq_38_5 (W : Wd ad S) : aR S (ad 38) 5 = some (ad 76) := W.2.2.2.1 (38, 5, 76) (List.mem_of_getElem? (i := 18) rfl)
theorem wq_38_6 (W : Wd ad S) : aR S (ad 38) 6 = some (ad 78) := W.2.2.2.1 (38, 6, 78) (List.mem_of_getElem? (i := 19) rfl)
theorem wq_38_7 (W : Wd ad S) : aR S (ad 38) 7 = some (ad 80) := W.2.2.2.1 (38, 7, 80) (List.mem_of_getElem? (i := 20) rfl)
theorem wq_38_8 (W : Wd ad S) : aR S (ad 38) 8 = some (ad 82) := W.2.2.2.1 (38, 8, 82) (List.mem_of_getElem? (i := 21) rfl)
theorem wq_38_9 (W : Wd ad S) : aR S (ad 38) 9 = some (ad 84) := W.2.2.2.1 (38, 9, 84) (List.mem_of_getElem? (i := 22) rfl)
theorem wq_38_10 (W : Wd ad S) : aR S (ad 38) 10 = some (ad 86) := W.2.2.2.1 (38, 10, 86) (List.mem_of_getElem? (i := 23) rfl)
theorem wq_38_11 (W : Wd ad S) : aR S (ad 38) 11 = some (ad 88) := W.2.2.2.1 (38, 11, 88) (List.mem_of_getElem? (i := 24) rfl)
theorem wq_38_12 (W : Wd ad S) : aR S (ad 38) 12 = some (ad 90) := W.2.2.2.1 (38, 12, 90) (List.mem_of_getElem? (i := 25) rfl)
theorem wq_38_13 (W : Wd ad S) : aR S (ad 38) 13 = some (ad 92) := W.2.2.2.1 (38, 13, 92) (List.mem_of_getElem? (i := 26) rfl)
theorem wq_38_14 (W : Wd ad S) : aR S (ad 38) 14 = some (ad 94) := W.2.2.2.1 (38, 14, 94) (List.mem_of_getElem? (i := 27) rfl)
theorem wq_38_15 (W : Wd ad S) : aR S (ad 38) 15 = some (ad 96) := W.2.2.2.1 (38, 15, 96) (List.mem_of_getElem? (i := 28) rfl)
theorem wq_63_0 (W : Wd ad S) : aR S (ad 63) 0 = some (ad 98) := W.2.2.2.1 (63, 0, 98) (List.mem_of_getElem? (i := 29) rfl)
theorem wq_63_1 (W : Wd ad S) : aR S (ad 63) 1 = some (ad 107) := W.2.2.2.1 (63, 1, 107) (List.mem_of_getElem? (i := 30) rfl)
theorem wq_63_2 (W : Wd ad S) : aR S (ad 63) 2 = some (ad 116) := W.2.2.2.1 (63, 2, 116) (List.mem_of_getElem? (i := 31) rfl)
theorem wq_64_0 (W : Wd ad S) : aR S (ad 64) 0 = some (ad 125) := W.2.2.2.1 (64, 0, 125) (List.mem_of_getElem? (i := 32) rfl)
theorem wq_64_1 (W : Wd ad S) : aR S (ad 64) 1 = some (ad 126) := W.2.2.2.1 (64, 1, 126) (List.mem_of_getElem? (i := 33) rfl)
theorem wq_64_2 (W : Wd ad S) : aR S (ad 64) 2 = some (ad 127) := W.2.2.2.1 (64, 2, 127) (List.mem_of_getElem? (i := 34) rfl)
theorem wq_64_3 (W : Wd ad S) : aR S (ad 64) 3 = some (ad 128) := W.2.2.2.1 (64, 3, 128) (List.mem_of_getElem? (i := 35) rfl)
theorem wr_300_129 (W : Wd ad S) : hR S 300 (ad 129) = some (ad 5) := W.2.2.1 (300, 129, 5) (List.mem_of_getElem? (i := 137) rfl)
end WD
section JQ
variable {x : JX} {own : String} {cc : ByteArray} {k n pc : Nat} {S : Hp} {lv : List (Nat × Value)} {st : List Value}
/-- a row out of an array of rows -/
theorem j_aaldR (C : CB x own cc) {a v j : Nat} {i : Int32} (d : decode cc pc = .ok (.aaload, 1)) (hL' : a ∈ hL S) (hK' : hK S a = 21) (hin : vp_in i (hN S a)) (hj : i.toNatClampNeg = j) (hv : aR S a j = some v) (K : J x k n S lv (pc + 1) (.ref v :: st)) : J x k n S lv pc (.int i :: .ref a :: st) := fun H locs ls hP hD hS hl => by
  subst hj
  obtain ⟨q, hq, -⟩ := ar_R (cy := (x_v x).2.1) hL' hK' (by omega)
  have ht : (TY (x_v x).2.1)[8]? = some ((x_v x).2.1 21, .array .int) := rfl
  have hlt : i.toNatClampNeg < hN S a := Nat.not_le.mp fun q => hin (Or.inr q)
  refine W.aald (v := .ref v) (ty := .array .int) C.1 C.2.1 (hP q _ hq) ((C.2.2.2.2.2.2.1.2 8 _ ht).1 (hN S a) (fun j => va_rf (aR S a j))) rfl (fun q => by cases q) (by show ¬ (i < 0 ∨ (arrV _ _ _).slots.size ≤ _); rw [arrV_size]; exact hin) (by show (arrV _ _ _).slots[_]? = _; rw [arrV_read _ _ hlt, hv]; rfl) rfl rfl d (K H locs ls hP hD hS hl)
end JQ
