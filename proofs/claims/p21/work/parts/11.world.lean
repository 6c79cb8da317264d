theorem ar_rI {S : Hp} {a b : Nat} {f : Nat → Int32} (h : b ≠ a) : aI (rI S a f) b = aI S b := funext fun j => by rw [aI_rI, if_neg h]
theorem ar_tI {S : Hp} {a b i : Nat} {v : Int32} (h : b ≠ a) : aI (tI S a i v) b = aI S b := funext fun j => by rw [aI_tI, if_neg (fun q => h q.1)]
theorem arI_sI {S : Hp} {g a b : Nat} {v : Int32} : aI (sI S g a v) b = aI S b := rfl
theorem arI_sJ {S : Hp} {g a b : Nat} {v : Int64} : aI (sJ S g a v) b = aI S b := rfl
theorem arI_sR {S : Hp} {g a b : Nat} {v : Option Nat} : aI (sR S g a v) b = aI S b := rfl
theorem arI_tJ {S : Hp} {a b i : Nat} {v : Int64} : aI (tJ S a i v) b = aI S b := rfl
theorem ar_tJ {S : Hp} {a b i : Nat} {v : Int64} (h : b ≠ a) : aJ (tJ S a i v) b = aJ S b := funext fun j => by rw [aJ_tJ, if_neg (fun q => h q.1)]
theorem arJ_sI {S : Hp} {g a b : Nat} {v : Int32} : aJ (sI S g a v) b = aJ S b := rfl
theorem arJ_sJ {S : Hp} {g a b : Nat} {v : Int64} : aJ (sJ S g a v) b = aJ S b := rfl
theorem arJ_sR {S : Hp} {g a b : Nat} {v : Option Nat} : aJ (sR S g a v) b = aJ S b := rfl
theorem arJ_tI {S : Hp} {a b i : Nat} {v : Int32} : aJ (tI S a i v) b = aJ S b := rfl
theorem arJ_rI {S : Hp} {a b : Nat} {f : Nat → Int32} : aJ (rI S a f) b = aJ S b := rfl
/-! The world: the objects that stay, by number: 0 h, 1 tp, 2 jb, 3 so, 4 sa, 5 g, 6 w, 7 gb, 8 gw, 9 gh, 10 gd, 11 g0, 12 c, 13 cd, 14 cl, 15 f, 16 fs, 17 fss, 18 fn, 19 fa, 20 ts, 21 tss, 22 ms, 23 mss, 24 bt, 25 btr, 26 e, 27 es, 28 er, 29 err, 30 ep, 31 epr, 32 e1, 33 e2, 34 ra, 35 r0, 36 ls -/
def wkL : List Nat := [11, 13, 13, 14, 14, 6, 9, 13, 14, 14, 21, 14, 0, 14, 14, 2, 8, 14, 14, 14, 8, 14, 8, 14, 10, 15, 1, 7, 4, 14, 10, 15, 14, 14, 19, 5, 14]
def wnL : List (Nat × Nat) := [(1, 8000), (2, 12000), (3, 6), (4, 7), (7, 60000), (8, 12), (9, 12), (10, 13), (11, 16000), (13, 20000), (14, 25), (17, 16), (18, 119), (19, 8), (21, 16), (23, 16), (25, 16), (29, 20), (31, 16), (32, 8), (33, 8), (34, 4), (36, 12)]
def wpL : List (Nat × Nat × Nat) := [(1100, 0, 1), (1102, 0, 2), (1103, 0, 3), (1104, 0, 4), (1106, 0, 5), (1107, 0, 6), (600, 5, 7), (604, 5, 8), (605, 5, 9), (606, 5, 10), (901, 6, 12), (0, 12, 13), (1, 12, 14), (902, 6, 15), (200, 15, 16), (800, 16, 17), (201, 15, 18), (207, 15, 19), (903, 6, 20), (800, 20, 21), (906, 6, 22), (800, 22, 23), (905, 6, 24), (1003, 24, 25), (909, 6, 26), (100, 26, 27), (101, 26, 28), (407, 28, 29), (102, 26, 30), (1003, 30, 31), (103, 26, 32), (104, 26, 33), (912, 6, 34), (917, 6, 36), (900, 6, 5)]
def wqL : List (Nat × Nat × Nat) := [(10, 0, 11), (34, 0, 35)]
def Wd (ad : Nat → Nat) (S : Hp) : Prop := (∀ i k, wkL[i]? = some k → ad i ∈ hL S ∧ Kd S (ad i) k) ∧ (∀ p ∈ wnL, Ln S (ad p.1) p.2) ∧ (∀ p ∈ wpL, hR S p.1 (ad p.2.1) = some (ad p.2.2)) ∧ (∀ p ∈ wqL, aR S (ad p.1) p.2.1 = some (ad p.2.2)) ∧ ∀ i j, i < 37 → j < 37 → ad i = ad j → i = j
theorem wn_lt : ∀ p ∈ wnL, p.1 < 37 := by decide
theorem wp_lt : ∀ p ∈ wpL, p.2.1 < 37 := by decide
theorem wq_lt : ∀ p ∈ wqL, p.1 < 37 := by decide
/-- the pointers that change are none of the world's -/
theorem wp_dyn : ∀ p ∈ wpL, ¬ (p.1 = 913 ∨ p.1 = 10 ∨ p.1 = 500) := by decide
section WD
variable {ad : Nat → Nat} {S S' : Hp}
theorem wn (W : Wd ad S) {i j : Nat} (hi : i < 37) (hj : j < 37) (h : i ≠ j) : ad i ≠ ad j := fun e => h (W.2.2.2.2 i j hi hj e)
theorem Wd.fm {WI WR : Nat → Nat → Prop} {WA : Nat → Prop} (W : Wd ad S) (hf : Fm WI WR WA S S') (h1 : ∀ p ∈ wpL, ¬ WR p.1 (ad p.2.1)) (h2 : ∀ p ∈ wqL, ¬ WA (ad p.1)) : Wd ad S' := by
  obtain ⟨a1, a2, a3, a4, a5⟩ := W
  have hm : ∀ i, i < 37 → ad i ∈ hL S := fun i hi => by
    obtain ⟨k, hk⟩ : ∃ k, wkL[i]? = some k := ⟨_, List.getElem?_eq_getElem (show i < wkL.length from hi)⟩
    exact (a1 i k hk).1
  refine ⟨fun i k hk => ⟨hf.mem (a1 i k hk).1, hf.kd (a1 i k hk).1 (a1 i k hk).2⟩, fun p hp => hf.ln (hm p.1 (wn_lt p hp)) (a2 p hp), fun p hp => hf.fr (hm p.2.1 (wp_lt p hp)) (h1 p hp) (a3 p hp), fun p hp => (hf.ar (hm p.1 (wq_lt p hp)) (h2 p hp) _).trans (a4 p hp), a5⟩
theorem Wd.sI {f a : Nat} {v : Int32} (W : Wd ad S) : Wd ad (sI S f a v) := W
theorem Wd.sJ {f a : Nat} {v : Int64} (W : Wd ad S) : Wd ad (sJ S f a v) := W
theorem Wd.tI {a j : Nat} {v : Int32} (W : Wd ad S) : Wd ad (tI S a j v) := W
theorem Wd.tJ {a j : Nat} {v : Int64} (W : Wd ad S) : Wd ad (tJ S a j v) := W
theorem Wd.rI {a : Nat} {v : Nat → Int32} (W : Wd ad S) : Wd ad (rI S a v) := W
theorem Wd.sR {f a : Nat} {v : Option Nat} (W : Wd ad S) (h : f = 913 ∨ f = 10 ∨ f = 500) : Wd ad (sR S f a v) := ⟨W.1, W.2.1, fun p hp => rd_sRf (fun e => wp_dyn p hp (e ▸ h)) (W.2.2.1 p hp), W.2.2.2.1, W.2.2.2.2⟩
theorem wm_0 (W : Wd ad S) : ad 0 ∈ hL S := (W.1 0 11 rfl).1
theorem wk_0 (W : Wd ad S) : Kd S (ad 0) 11 := (W.1 0 11 rfl).2
theorem wm_1 (W : Wd ad S) : ad 1 ∈ hL S := (W.1 1 13 rfl).1
theorem wk_1 (W : Wd ad S) : Kd S (ad 1) 13 := (W.1 1 13 rfl).2
theorem wl_1 (W : Wd ad S) : Ln S (ad 1) 8000 := W.2.1 (1, 8000) (by decide)
theorem wm_2 (W : Wd ad S) : ad 2 ∈ hL S := (W.1 2 13 rfl).1
theorem wk_2 (W : Wd ad S) : Kd S (ad 2) 13 := (W.1 2 13 rfl).2
theorem wl_2 (W : Wd ad S) : Ln S (ad 2) 12000 := W.2.1 (2, 12000) (by decide)
theorem wm_3 (W : Wd ad S) : ad 3 ∈ hL S := (W.1 3 14 rfl).1
theorem wk_3 (W : Wd ad S) : Kd S (ad 3) 14 := (W.1 3 14 rfl).2
theorem wl_3 (W : Wd ad S) : Ln S (ad 3) 6 := W.2.1 (3, 6) (by decide)
theorem wm_4 (W : Wd ad S) : ad 4 ∈ hL S := (W.1 4 14 rfl).1
theorem wk_4 (W : Wd ad S) : Kd S (ad 4) 14 := (W.1 4 14 rfl).2
theorem wl_4 (W : Wd ad S) : Ln S (ad 4) 7 := W.2.1 (4, 7) (by decide)
theorem wm_5 (W : Wd ad S) : ad 5 ∈ hL S := (W.1 5 6 rfl).1
theorem wk_5 (W : Wd ad S) : Kd S (ad 5) 6 := (W.1 5 6 rfl).2
theorem wm_6 (W : Wd ad S) : ad 6 ∈ hL S := (W.1 6 9 rfl).1
theorem wk_6 (W : Wd ad S) : Kd S (ad 6) 9 := (W.1 6 9 rfl).2
theorem wm_7 (W : Wd ad S) : ad 7 ∈ hL S := (W.1 7 13 rfl).1
theorem wk_7 (W : Wd ad S) : Kd S (ad 7) 13 := (W.1 7 13 rfl).2
theorem wl_7 (W : Wd ad S) : Ln S (ad 7) 60000 := W.2.1 (7, 60000) (by decide)
theorem wm_8 (W : Wd ad S) : ad 8 ∈ hL S := (W.1 8 14 rfl).1
theorem wk_8 (W : Wd ad S) : Kd S (ad 8) 14 := (W.1 8 14 rfl).2
theorem wl_8 (W : Wd ad S) : Ln S (ad 8) 12 := W.2.1 (8, 12) (by decide)
theorem wm_9 (W : Wd ad S) : ad 9 ∈ hL S := (W.1 9 14 rfl).1
theorem wk_9 (W : Wd ad S) : Kd S (ad 9) 14 := (W.1 9 14 rfl).2
theorem wl_9 (W : Wd ad S) : Ln S (ad 9) 12 := W.2.1 (9, 12) (by decide)
theorem wm_10 (W : Wd ad S) : ad 10 ∈ hL S := (W.1 10 21 rfl).1
theorem wk_10 (W : Wd ad S) : Kd S (ad 10) 21 := (W.1 10 21 rfl).2
theorem wl_10 (W : Wd ad S) : Ln S (ad 10) 13 := W.2.1 (10, 13) (by decide)
theorem wm_11 (W : Wd ad S) : ad 11 ∈ hL S := (W.1 11 14 rfl).1
theorem wk_11 (W : Wd ad S) : Kd S (ad 11) 14 := (W.1 11 14 rfl).2
theorem wl_11 (W : Wd ad S) : Ln S (ad 11) 16000 := W.2.1 (11, 16000) (by decide)
theorem wm_12 (W : Wd ad S) : ad 12 ∈ hL S := (W.1 12 0 rfl).1
theorem wk_12 (W : Wd ad S) : Kd S (ad 12) 0 := (W.1 12 0 rfl).2
theorem wm_13 (W : Wd ad S) : ad 13 ∈ hL S := (W.1 13 14 rfl).1
theorem wk_13 (W : Wd ad S) : Kd S (ad 13) 14 := (W.1 13 14 rfl).2
theorem wl_13 (W : Wd ad S) : Ln S (ad 13) 20000 := W.2.1 (13, 20000) (by decide)
theorem wm_14 (W : Wd ad S) : ad 14 ∈ hL S := (W.1 14 14 rfl).1
theorem wk_14 (W : Wd ad S) : Kd S (ad 14) 14 := (W.1 14 14 rfl).2
theorem wl_14 (W : Wd ad S) : Ln S (ad 14) 25 := W.2.1 (14, 25) (by decide)
theorem wm_15 (W : Wd ad S) : ad 15 ∈ hL S := (W.1 15 2 rfl).1
theorem wk_15 (W : Wd ad S) : Kd S (ad 15) 2 := (W.1 15 2 rfl).2
theorem wm_16 (W : Wd ad S) : ad 16 ∈ hL S := (W.1 16 8 rfl).1
theorem wk_16 (W : Wd ad S) : Kd S (ad 16) 8 := (W.1 16 8 rfl).2
theorem wm_17 (W : Wd ad S) : ad 17 ∈ hL S := (W.1 17 14 rfl).1
theorem wk_17 (W : Wd ad S) : Kd S (ad 17) 14 := (W.1 17 14 rfl).2
theorem wl_17 (W : Wd ad S) : Ln S (ad 17) 16 := W.2.1 (17, 16) (by decide)
theorem wm_18 (W : Wd ad S) : ad 18 ∈ hL S := (W.1 18 14 rfl).1
theorem wk_18 (W : Wd ad S) : Kd S (ad 18) 14 := (W.1 18 14 rfl).2
theorem wl_18 (W : Wd ad S) : Ln S (ad 18) 119 := W.2.1 (18, 119) (by decide)
theorem wm_19 (W : Wd ad S) : ad 19 ∈ hL S := (W.1 19 14 rfl).1
theorem wk_19 (W : Wd ad S) : Kd S (ad 19) 14 := (W.1 19 14 rfl).2
theorem wl_19 (W : Wd ad S) : Ln S (ad 19) 8 := W.2.1 (19, 8) (by decide)
theorem wm_20 (W : Wd ad S) : ad 20 ∈ hL S := (W.1 20 8 rfl).1
theorem wk_20 (W : Wd ad S) : Kd S (ad 20) 8 := (W.1 20 8 rfl).2
theorem wm_21 (W : Wd ad S) : ad 21 ∈ hL S := (W.1 21 14 rfl).1
theorem wk_21 (W : Wd ad S) : Kd S (ad 21) 14 := (W.1 21 14 rfl).2
theorem wl_21 (W : Wd ad S) : Ln S (ad 21) 16 := W.2.1 (21, 16) (by decide)
theorem wm_22 (W : Wd ad S) : ad 22 ∈ hL S := (W.1 22 8 rfl).1
theorem wk_22 (W : Wd ad S) : Kd S (ad 22) 8 := (W.1 22 8 rfl).2
theorem wm_23 (W : Wd ad S) : ad 23 ∈ hL S := (W.1 23 14 rfl).1
theorem wk_23 (W : Wd ad S) : Kd S (ad 23) 14 := (W.1 23 14 rfl).2
theorem wl_23 (W : Wd ad S) : Ln S (ad 23) 16 := W.2.1 (23, 16) (by decide)
theorem wm_24 (W : Wd ad S) : ad 24 ∈ hL S := (W.1 24 10 rfl).1
theorem wk_24 (W : Wd ad S) : Kd S (ad 24) 10 := (W.1 24 10 rfl).2
theorem wm_25 (W : Wd ad S) : ad 25 ∈ hL S := (W.1 25 15 rfl).1
theorem wk_25 (W : Wd ad S) : Kd S (ad 25) 15 := (W.1 25 15 rfl).2
theorem wl_25 (W : Wd ad S) : Ln S (ad 25) 16 := W.2.1 (25, 16) (by decide)
theorem wm_26 (W : Wd ad S) : ad 26 ∈ hL S := (W.1 26 1 rfl).1
theorem wk_26 (W : Wd ad S) : Kd S (ad 26) 1 := (W.1 26 1 rfl).2
theorem wm_27 (W : Wd ad S) : ad 27 ∈ hL S := (W.1 27 7 rfl).1
theorem wk_27 (W : Wd ad S) : Kd S (ad 27) 7 := (W.1 27 7 rfl).2
theorem wm_28 (W : Wd ad S) : ad 28 ∈ hL S := (W.1 28 4 rfl).1
theorem wk_28 (W : Wd ad S) : Kd S (ad 28) 4 := (W.1 28 4 rfl).2
theorem wm_29 (W : Wd ad S) : ad 29 ∈ hL S := (W.1 29 14 rfl).1
theorem wk_29 (W : Wd ad S) : Kd S (ad 29) 14 := (W.1 29 14 rfl).2
theorem wl_29 (W : Wd ad S) : Ln S (ad 29) 20 := W.2.1 (29, 20) (by decide)
theorem wm_30 (W : Wd ad S) : ad 30 ∈ hL S := (W.1 30 10 rfl).1
theorem wk_30 (W : Wd ad S) : Kd S (ad 30) 10 := (W.1 30 10 rfl).2
theorem wm_31 (W : Wd ad S) : ad 31 ∈ hL S := (W.1 31 15 rfl).1
theorem wk_31 (W : Wd ad S) : Kd S (ad 31) 15 := (W.1 31 15 rfl).2
theorem wl_31 (W : Wd ad S) : Ln S (ad 31) 16 := W.2.1 (31, 16) (by decide)
theorem wm_32 (W : Wd ad S) : ad 32 ∈ hL S := (W.1 32 14 rfl).1
theorem wk_32 (W : Wd ad S) : Kd S (ad 32) 14 := (W.1 32 14 rfl).2
theorem wl_32 (W : Wd ad S) : Ln S (ad 32) 8 := W.2.1 (32, 8) (by decide)
theorem wm_33 (W : Wd ad S) : ad 33 ∈ hL S := (W.1 33 14 rfl).1
theorem wk_33 (W : Wd ad S) : Kd S (ad 33) 14 := (W.1 33 14 rfl).2
theorem wl_33 (W : Wd ad S) : Ln S (ad 33) 8 := W.2.1 (33, 8) (by decide)
theorem wm_34 (W : Wd ad S) : ad 34 ∈ hL S := (W.1 34 19 rfl).1
theorem wk_34 (W : Wd ad S) : Kd S (ad 34) 19 := (W.1 34 19 rfl).2
theorem wl_34 (W : Wd ad S) : Ln S (ad 34) 4 := W.2.1 (34, 4) (by decide)
theorem wm_35 (W : Wd ad S) : ad 35 ∈ hL S := (W.1 35 5 rfl).1
theorem wk_35 (W : Wd ad S) : Kd S (ad 35) 5 := (W.1 35 5 rfl).2
theorem wm_36 (W : Wd ad S) : ad 36 ∈ hL S := (W.1 36 14 rfl).1
theorem wk_36 (W : Wd ad S) : Kd S (ad 36) 14 := (W.1 36 14 rfl).2
theorem wl_36 (W : Wd ad S) : Ln S (ad 36) 12 := W.2.1 (36, 12) (by decide)
theorem wr_1100_0 (W : Wd ad S) : hR S 1100 (ad 0) = some (ad 1) := W.2.2.1 (1100, 0, 1) (by decide)
theorem wr_1102_0 (W : Wd ad S) : hR S 1102 (ad 0) = some (ad 2) := W.2.2.1 (1102, 0, 2) (by decide)
theorem wr_1103_0 (W : Wd ad S) : hR S 1103 (ad 0) = some (ad 3) := W.2.2.1 (1103, 0, 3) (by decide)
theorem wr_1104_0 (W : Wd ad S) : hR S 1104 (ad 0) = some (ad 4) := W.2.2.1 (1104, 0, 4) (by decide)
theorem wr_1106_0 (W : Wd ad S) : hR S 1106 (ad 0) = some (ad 5) := W.2.2.1 (1106, 0, 5) (by decide)
theorem wr_1107_0 (W : Wd ad S) : hR S 1107 (ad 0) = some (ad 6) := W.2.2.1 (1107, 0, 6) (by decide)
theorem wr_600_5 (W : Wd ad S) : hR S 600 (ad 5) = some (ad 7) := W.2.2.1 (600, 5, 7) (by decide)
theorem wr_604_5 (W : Wd ad S) : hR S 604 (ad 5) = some (ad 8) := W.2.2.1 (604, 5, 8) (by decide)
theorem wr_605_5 (W : Wd ad S) : hR S 605 (ad 5) = some (ad 9) := W.2.2.1 (605, 5, 9) (by decide)
theorem wr_606_5 (W : Wd ad S) : hR S 606 (ad 5) = some (ad 10) := W.2.2.1 (606, 5, 10) (by decide)
theorem wr_901_6 (W : Wd ad S) : hR S 901 (ad 6) = some (ad 12) := W.2.2.1 (901, 6, 12) (by decide)
theorem wr_0_12 (W : Wd ad S) : hR S 0 (ad 12) = some (ad 13) := W.2.2.1 (0, 12, 13) (by decide)
theorem wr_1_12 (W : Wd ad S) : hR S 1 (ad 12) = some (ad 14) := W.2.2.1 (1, 12, 14) (by decide)
theorem wr_902_6 (W : Wd ad S) : hR S 902 (ad 6) = some (ad 15) := W.2.2.1 (902, 6, 15) (by decide)
theorem wr_200_15 (W : Wd ad S) : hR S 200 (ad 15) = some (ad 16) := W.2.2.1 (200, 15, 16) (by decide)
theorem wr_800_16 (W : Wd ad S) : hR S 800 (ad 16) = some (ad 17) := W.2.2.1 (800, 16, 17) (by decide)
theorem wr_201_15 (W : Wd ad S) : hR S 201 (ad 15) = some (ad 18) := W.2.2.1 (201, 15, 18) (by decide)
theorem wr_207_15 (W : Wd ad S) : hR S 207 (ad 15) = some (ad 19) := W.2.2.1 (207, 15, 19) (by decide)
theorem wr_903_6 (W : Wd ad S) : hR S 903 (ad 6) = some (ad 20) := W.2.2.1 (903, 6, 20) (by decide)
theorem wr_800_20 (W : Wd ad S) : hR S 800 (ad 20) = some (ad 21) := W.2.2.1 (800, 20, 21) (by decide)
theorem wr_906_6 (W : Wd ad S) : hR S 906 (ad 6) = some (ad 22) := W.2.2.1 (906, 6, 22) (by decide)
theorem wr_800_22 (W : Wd ad S) : hR S 800 (ad 22) = some (ad 23) := W.2.2.1 (800, 22, 23) (by decide)
theorem wr_905_6 (W : Wd ad S) : hR S 905 (ad 6) = some (ad 24) := W.2.2.1 (905, 6, 24) (by decide)
theorem wr_1003_24 (W : Wd ad S) : hR S 1003 (ad 24) = some (ad 25) := W.2.2.1 (1003, 24, 25) (by decide)
theorem wr_909_6 (W : Wd ad S) : hR S 909 (ad 6) = some (ad 26) := W.2.2.1 (909, 6, 26) (by decide)
theorem wr_100_26 (W : Wd ad S) : hR S 100 (ad 26) = some (ad 27) := W.2.2.1 (100, 26, 27) (by decide)
theorem wr_101_26 (W : Wd ad S) : hR S 101 (ad 26) = some (ad 28) := W.2.2.1 (101, 26, 28) (by decide)
theorem wr_407_28 (W : Wd ad S) : hR S 407 (ad 28) = some (ad 29) := W.2.2.1 (407, 28, 29) (by decide)
theorem wr_102_26 (W : Wd ad S) : hR S 102 (ad 26) = some (ad 30) := W.2.2.1 (102, 26, 30) (by decide)
theorem wr_1003_30 (W : Wd ad S) : hR S 1003 (ad 30) = some (ad 31) := W.2.2.1 (1003, 30, 31) (by decide)
theorem wr_103_26 (W : Wd ad S) : hR S 103 (ad 26) = some (ad 32) := W.2.2.1 (103, 26, 32) (by decide)
theorem wr_104_26 (W : Wd ad S) : hR S 104 (ad 26) = some (ad 33) := W.2.2.1 (104, 26, 33) (by decide)
theorem wr_912_6 (W : Wd ad S) : hR S 912 (ad 6) = some (ad 34) := W.2.2.1 (912, 6, 34) (by decide)
theorem wr_917_6 (W : Wd ad S) : hR S 917 (ad 6) = some (ad 36) := W.2.2.1 (917, 6, 36) (by decide)
theorem wr_900_6 (W : Wd ad S) : hR S 900 (ad 6) = some (ad 5) := W.2.2.1 (900, 6, 5) (by decide)
theorem wq_10_0 (W : Wd ad S) : aR S (ad 10) 0 = some (ad 11) := W.2.2.2.1 (10, 0, 11) (by decide)
theorem wq_34_0 (W : Wd ad S) : aR S (ad 34) 0 = some (ad 35) := W.2.2.2.1 (34, 0, 35) (by decide)
end WD
section JQ
variable {x : JX} {own : String} {cc : ByteArray} {k n pc : Nat} {S : Hp} {lv : List (Nat × Value)} {st : List Value}
/-- a row out of an array of rows -/
theorem j_aaldR (C : CB x own cc) {a v j : Nat} {i : Int32} (d : decode cc pc = .ok (.aaload, 1)) (hL' : a ∈ hL S) (hK' : hK S a = 21) (hin : vp_in i (hN S a)) (hj : i.toNatClampNeg = j) (hv : aR S a j = some v) (K : J x k n S lv (pc + 1) (.ref v :: st)) : J x k n S lv pc (.int i :: .ref a :: st) := fun H locs ls hP hD hS hl => by
  subst hj
  obtain ⟨q, hq, -⟩ := ar_R (cy := (x_v x).2.1) hL' hK' (by omega)
  have ht : (TY (x_v x).2.1)[8]? = some ((x_v x).2.1 21, .array .int) := rfl
  have hlt : i.toNatClampNeg < hN S a := Nat.not_le.mp fun q => hin (Or.inr q)
  refine W.aald (v := .ref v) (ty := .array .int) C.1 C.2.1 (hP q _ hq) ((C.2.2.2.2.2.2.1.2 8 _ ht).1 (hN S a) (fun j => va_rf (aR S a j))) rfl (fun q => by cases q) (by show ¬ (i < 0 ∨ (arrV _ _ _).slots.size ≤ _); rw [arrV_size]; exact hin) (by show (arrV _ _ _).slots[_]? = _; rw [arrV_read _ _ hlt, hv]; rfl) rfl rfl d (K H locs ls hP hD hS hl)
end JQ
