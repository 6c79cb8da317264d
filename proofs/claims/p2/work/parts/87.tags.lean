/-! A directory's entry, on both sides. -/
def may (t v : Nat) : Bool := if t = 256 then decide (1 ≤ v ∧ v ≤ 640) else if t = 257 then decide (1 ≤ v ∧ v ≤ 800) else if t = 258 then decide (v = 1) else if t = 259 then decide (v = 4) else if t = 262 then decide (v = 0 ∨ v = 1) else if t = 266 then decide (v = 1 ∨ v = 2) else if t = 277 then decide (v = 1) else if t = 278 then decide (1 ≤ v) else decide (v = 0)
def told (c : Mm) (t v : Nat) : Mm := if t = 256 then uJ c 309 129 (lN v) else if t = 257 then uJ c 310 129 (lN v) else if t = 259 then uJ c 311 129 (lN v) else if t = 262 then uJ c 312 129 (lN v) else if t = 266 then uJ c 313 129 (lN v) else if t = 278 then uJ c 314 129 (lN v) else c
def one (t : Nat) : Bool := if t = 256 then true else if t = 257 then true else if t = 258 then true else if t = 259 then true else if t = 262 then true else if t = 266 then true else if t = 277 then true else if t = 278 then true else if t = 293 then true else false
def lkd (t : Nat) : Bool := if t = 256 then true else if t = 257 then true else if t = 258 then true else if t = 259 then true else if t = 262 then true else if t = 266 then true else if t = 273 then true else if t = 277 then true else if t = 278 then true else if t = 279 then true else if t = 293 then true else false
theorem one_in {t : Nat} (h : one t = true) : t = 256 ∨ t = 257 ∨ t = 258 ∨ t = 259 ∨ t = 262 ∨ t = 266 ∨ t = 277 ∨ t = 278 ∨ t = 293 := by
  unfold one at h
  by_cases h256 : t = 256
  · omega
  rw [if_neg h256] at h
  by_cases h257 : t = 257
  · omega
  rw [if_neg h257] at h
  by_cases h258 : t = 258
  · omega
  rw [if_neg h258] at h
  by_cases h259 : t = 259
  · omega
  rw [if_neg h259] at h
  by_cases h262 : t = 262
  · omega
  rw [if_neg h262] at h
  by_cases h266 : t = 266
  · omega
  rw [if_neg h266] at h
  by_cases h277 : t = 277
  · omega
  rw [if_neg h277] at h
  by_cases h278 : t = 278
  · omega
  rw [if_neg h278] at h
  by_cases h293 : t = 293
  · omega
  rw [if_neg h293] at h
  cases h
theorem lkd_in {t : Nat} (h : lkd t = true) : one t = true ∨ t = 273 ∨ t = 279 := by
  by_cases a1 : t = 273
  · exact Or.inr (Or.inl a1)
  by_cases a2 : t = 279
  · exact Or.inr (Or.inr a2)
  refine Or.inl ?_
  unfold lkd at h
  rw [if_neg a1, if_neg a2] at h
  exact h
theorem lkd_one {t : Nat} (h : one t = true) : lkd t = true ∧ t ≠ 273 ∧ t ≠ 279 ∧ t < 400 := by
  rcases one_in h with rfl | rfl | rfl | rfl | rfl | rfl | rfl | rfl | rfl <;> decide
theorem c_isOne {t : Nat} (ht : t < 2 ^ 17) (c : Mm) : f_X3_isOfOne (nI t) c = some (cI (one t), c) := by
  have e : ∀ k, k < 1000 → (nI t = nI k ↔ t = k) := fun k hk => nI_eq (by omega) (by omega)
  unfold f_X3_isOfOne one
  by_cases h256 : t = 256
  · rw [if_pos (show nI t = 256 from (e 256 (by omega)).mpr h256), if_pos h256]; rfl
  rw [if_neg (show ¬ nI t = 256 from fun y => h256 ((e 256 (by omega)).mp y)), if_neg h256]
  by_cases h257 : t = 257
  · rw [if_pos (show nI t = 257 from (e 257 (by omega)).mpr h257), if_pos h257]; rfl
  rw [if_neg (show ¬ nI t = 257 from fun y => h257 ((e 257 (by omega)).mp y)), if_neg h257]
  by_cases h258 : t = 258
  · rw [if_pos (show nI t = 258 from (e 258 (by omega)).mpr h258), if_pos h258]; rfl
  rw [if_neg (show ¬ nI t = 258 from fun y => h258 ((e 258 (by omega)).mp y)), if_neg h258]
  by_cases h259 : t = 259
  · rw [if_pos (show nI t = 259 from (e 259 (by omega)).mpr h259), if_pos h259]; rfl
  rw [if_neg (show ¬ nI t = 259 from fun y => h259 ((e 259 (by omega)).mp y)), if_neg h259]
  by_cases h262 : t = 262
  · rw [if_pos (show nI t = 262 from (e 262 (by omega)).mpr h262), if_pos h262]; rfl
  rw [if_neg (show ¬ nI t = 262 from fun y => h262 ((e 262 (by omega)).mp y)), if_neg h262]
  by_cases h266 : t = 266
  · rw [if_pos (show nI t = 266 from (e 266 (by omega)).mpr h266), if_pos h266]; rfl
  rw [if_neg (show ¬ nI t = 266 from fun y => h266 ((e 266 (by omega)).mp y)), if_neg h266]
  by_cases h277 : t = 277
  · rw [if_pos (show nI t = 277 from (e 277 (by omega)).mpr h277), if_pos h277]; rfl
  rw [if_neg (show ¬ nI t = 277 from fun y => h277 ((e 277 (by omega)).mp y)), if_neg h277]
  by_cases h278 : t = 278
  · rw [if_pos (show nI t = 278 from (e 278 (by omega)).mpr h278), if_pos h278]; rfl
  rw [if_neg (show ¬ nI t = 278 from fun y => h278 ((e 278 (by omega)).mp y)), if_neg h278]
  by_cases h293 : t = 293
  · rw [if_pos (show nI t = 293 from (e 293 (by omega)).mpr h293), if_pos h293]; rfl
  rw [if_neg (show ¬ nI t = 293 from fun y => h293 ((e 293 (by omega)).mp y)), if_neg h293]
  rfl
theorem m_isLkd {t : Nat} (ht : t < 2 ^ 17) (c : Mm) : f_X12_isLooked (nI t) c = some (cI (lkd t), c) := by
  have e : ∀ k, k < 1000 → (nI t = nI k ↔ t = k) := fun k hk => nI_eq (by omega) (by omega)
  unfold f_X12_isLooked lkd
  by_cases h256 : t = 256
  · rw [if_pos (show nI t = 256 from (e 256 (by omega)).mpr h256), if_pos h256]; rfl
  rw [if_neg (show ¬ nI t = 256 from fun y => h256 ((e 256 (by omega)).mp y)), if_neg h256]
  by_cases h257 : t = 257
  · rw [if_pos (show nI t = 257 from (e 257 (by omega)).mpr h257), if_pos h257]; rfl
  rw [if_neg (show ¬ nI t = 257 from fun y => h257 ((e 257 (by omega)).mp y)), if_neg h257]
  by_cases h258 : t = 258
  · rw [if_pos (show nI t = 258 from (e 258 (by omega)).mpr h258), if_pos h258]; rfl
  rw [if_neg (show ¬ nI t = 258 from fun y => h258 ((e 258 (by omega)).mp y)), if_neg h258]
  by_cases h259 : t = 259
  · rw [if_pos (show nI t = 259 from (e 259 (by omega)).mpr h259), if_pos h259]; rfl
  rw [if_neg (show ¬ nI t = 259 from fun y => h259 ((e 259 (by omega)).mp y)), if_neg h259]
  by_cases h262 : t = 262
  · rw [if_pos (show nI t = 262 from (e 262 (by omega)).mpr h262), if_pos h262]; rfl
  rw [if_neg (show ¬ nI t = 262 from fun y => h262 ((e 262 (by omega)).mp y)), if_neg h262]
  by_cases h266 : t = 266
  · rw [if_pos (show nI t = 266 from (e 266 (by omega)).mpr h266), if_pos h266]; rfl
  rw [if_neg (show ¬ nI t = 266 from fun y => h266 ((e 266 (by omega)).mp y)), if_neg h266]
  by_cases h273 : t = 273
  · rw [if_pos (show nI t = 273 from (e 273 (by omega)).mpr h273), if_pos h273]; rfl
  rw [if_neg (show ¬ nI t = 273 from fun y => h273 ((e 273 (by omega)).mp y)), if_neg h273]
  by_cases h277 : t = 277
  · rw [if_pos (show nI t = 277 from (e 277 (by omega)).mpr h277), if_pos h277]; rfl
  rw [if_neg (show ¬ nI t = 277 from fun y => h277 ((e 277 (by omega)).mp y)), if_neg h277]
  by_cases h278 : t = 278
  · rw [if_pos (show nI t = 278 from (e 278 (by omega)).mpr h278), if_pos h278]; rfl
  rw [if_neg (show ¬ nI t = 278 from fun y => h278 ((e 278 (by omega)).mp y)), if_neg h278]
  by_cases h279 : t = 279
  · rw [if_pos (show nI t = 279 from (e 279 (by omega)).mpr h279), if_pos h279]; rfl
  rw [if_neg (show ¬ nI t = 279 from fun y => h279 ((e 279 (by omega)).mp y)), if_neg h279]
  by_cases h293 : t = 293
  · rw [if_pos (show nI t = 293 from (e 293 (by omega)).mpr h293), if_pos h293]; rfl
  rw [if_neg (show ¬ nI t = 293 from fun y => h293 ((e 293 (by omega)).mp y)), if_neg h293]
  rfl
theorem c_tell {t v : Nat} (ht : one t = true) (hv : v < 2 ^ 40) (c : Mm) : f_X3_tell (nI t) (lN v) c = some (cI (may t v), told c t v) := by
  have Z : ∀ k, k < 1000 → (lg_cmp (lN v) (lN k) = 0 ↔ v = k) := fun k hk => by rw [c_eq]; exact lN3 (by omega) k (by omega)
  have L : ∀ k, k < 1000 → (lg_cmp (lN v) (lN k) < 0 ↔ v < k) := fun k hk => by rw [c_lt]; exact pk_lLT (by omega) (by omega)
  have G : ∀ k, k < 1000 → (0 < lg_cmp (lN v) (lN k) ↔ k < v) := fun k hk => by rw [c_gt]; exact pk_lLT (by omega) (by omega)
  rcases one_in ht with rfl | rfl | rfl | rfl | rfl | rfl | rfl | rfl | rfl
  · unfold f_X3_tell
    rw [if_pos (show nI 256 = 256 from rfl)]
    show _ = some (cI (decide _), _)
    rw [lb_eq]
    by_cases z : v < 1
    · rw [if_pos (show lg_cmp (lN v) 1 < 0 from (L 1 (by omega)).mpr z), decide_eq_false (by omega)]; rfl
    rw [if_neg (show ¬ lg_cmp (lN v) 1 < 0 from fun y => z ((L 1 (by omega)).mp y))]
    by_cases z2 : 640 < v
    · rw [if_pos (show 0 < lg_cmp (lN v) 640 from (G 640 (by omega)).mpr z2), decide_eq_false (by omega)]; rfl
    rw [if_neg (show ¬ 0 < lg_cmp (lN v) 640 from fun y => z2 ((G 640 (by omega)).mp y)), decide_eq_true (by omega)]; rfl
  · unfold f_X3_tell
    rw [if_neg (show ¬ nI 257 = 256 by decide), if_pos (show nI 257 = 257 from rfl)]
    show _ = some (cI (decide _), _)
    rw [lb_eq]
    by_cases z : v < 1
    · rw [if_pos (show lg_cmp (lN v) 1 < 0 from (L 1 (by omega)).mpr z), decide_eq_false (by omega)]; rfl
    rw [if_neg (show ¬ lg_cmp (lN v) 1 < 0 from fun y => z ((L 1 (by omega)).mp y))]
    by_cases z2 : 800 < v
    · rw [if_pos (show 0 < lg_cmp (lN v) 800 from (G 800 (by omega)).mpr z2), decide_eq_false (by omega)]; rfl
    rw [if_neg (show ¬ 0 < lg_cmp (lN v) 800 from fun y => z2 ((G 800 (by omega)).mp y)), decide_eq_true (by omega)]; rfl
  · unfold f_X3_tell
    rw [if_neg (show ¬ nI 258 = 256 by decide), if_neg (show ¬ nI 258 = 257 by decide), if_neg (show ¬ nI 258 = 259 by decide), if_neg (show ¬ nI 258 = 262 by decide), if_neg (show ¬ nI 258 = 266 by decide), if_neg (show ¬ nI 258 = 278 by decide), if_neg (show ¬ nI 258 = 293 by decide)]
    show _ = some (cI (decide _), _)
    by_cases z : v = 1
    · rw [if_pos (show lg_cmp (lN v) 1 = 0 from (Z 1 (by omega)).mpr z), decide_eq_true z]; rfl
    · rw [if_neg (show ¬ lg_cmp (lN v) 1 = 0 from fun y => z ((Z 1 (by omega)).mp y)), decide_eq_false z]; rfl
  · unfold f_X3_tell
    rw [if_neg (show ¬ nI 259 = 256 by decide), if_neg (show ¬ nI 259 = 257 by decide), if_pos (show nI 259 = 259 from rfl)]
    show _ = some (cI (decide _), _)
    rw [lb_eq]
    by_cases z : v = 4
    · rw [if_pos (show lg_cmp (lN v) 4 = 0 from (Z 4 (by omega)).mpr z), decide_eq_true z]; rfl
    · rw [if_neg (show ¬ lg_cmp (lN v) 4 = 0 from fun y => z ((Z 4 (by omega)).mp y)), decide_eq_false z]; rfl
  · unfold f_X3_tell
    rw [if_neg (show ¬ nI 262 = 256 by decide), if_neg (show ¬ nI 262 = 257 by decide), if_neg (show ¬ nI 262 = 259 by decide), if_pos (show nI 262 = 262 from rfl)]
    show _ = some (cI (decide _), _)
    rw [lb_eq]
    by_cases z : v = 0
    · rw [if_pos (show lg_cmp (lN v) 0 = 0 from (Z 0 (by omega)).mpr z), decide_eq_true (Or.inl z)]; rfl
    rw [if_neg (show ¬ lg_cmp (lN v) 0 = 0 from fun y => z ((Z 0 (by omega)).mp y))]
    by_cases z2 : v = 1
    · rw [if_pos (show lg_cmp (lN v) 1 = 0 from (Z 1 (by omega)).mpr z2), decide_eq_true (Or.inr z2)]; rfl
    · rw [if_neg (show ¬ lg_cmp (lN v) 1 = 0 from fun y => z2 ((Z 1 (by omega)).mp y)), decide_eq_false (fun y => y.elim z z2)]; rfl
  · unfold f_X3_tell
    rw [if_neg (show ¬ nI 266 = 256 by decide), if_neg (show ¬ nI 266 = 257 by decide), if_neg (show ¬ nI 266 = 259 by decide), if_neg (show ¬ nI 266 = 262 by decide), if_pos (show nI 266 = 266 from rfl)]
    show _ = some (cI (decide _), _)
    rw [lb_eq]
    by_cases z : v = 1
    · rw [if_pos (show lg_cmp (lN v) 1 = 0 from (Z 1 (by omega)).mpr z), decide_eq_true (Or.inl z)]; rfl
    rw [if_neg (show ¬ lg_cmp (lN v) 1 = 0 from fun y => z ((Z 1 (by omega)).mp y))]
    by_cases z2 : v = 2
    · rw [if_pos (show lg_cmp (lN v) 2 = 0 from (Z 2 (by omega)).mpr z2), decide_eq_true (Or.inr z2)]; rfl
    · rw [if_neg (show ¬ lg_cmp (lN v) 2 = 0 from fun y => z2 ((Z 2 (by omega)).mp y)), decide_eq_false (fun y => y.elim z z2)]; rfl
  · unfold f_X3_tell
    rw [if_neg (show ¬ nI 277 = 256 by decide), if_neg (show ¬ nI 277 = 257 by decide), if_neg (show ¬ nI 277 = 259 by decide), if_neg (show ¬ nI 277 = 262 by decide), if_neg (show ¬ nI 277 = 266 by decide), if_neg (show ¬ nI 277 = 278 by decide), if_neg (show ¬ nI 277 = 293 by decide)]
    show _ = some (cI (decide _), _)
    by_cases z : v = 1
    · rw [if_pos (show lg_cmp (lN v) 1 = 0 from (Z 1 (by omega)).mpr z), decide_eq_true z]; rfl
    · rw [if_neg (show ¬ lg_cmp (lN v) 1 = 0 from fun y => z ((Z 1 (by omega)).mp y)), decide_eq_false z]; rfl
  · unfold f_X3_tell
    rw [if_neg (show ¬ nI 278 = 256 by decide), if_neg (show ¬ nI 278 = 257 by decide), if_neg (show ¬ nI 278 = 259 by decide), if_neg (show ¬ nI 278 = 262 by decide), if_neg (show ¬ nI 278 = 266 by decide), if_pos (show nI 278 = 278 from rfl)]
    show _ = some (cI (decide _), _)
    rw [lb_eq]
    by_cases z : v < 1
    · rw [if_pos (show lg_cmp (lN v) 1 < 0 from (L 1 (by omega)).mpr z), decide_eq_false (by omega)]; rfl
    · rw [if_neg (show ¬ lg_cmp (lN v) 1 < 0 from fun y => z ((L 1 (by omega)).mp y)), decide_eq_true (by omega)]; rfl
  · unfold f_X3_tell
    rw [if_neg (show ¬ nI 293 = 256 by decide), if_neg (show ¬ nI 293 = 257 by decide), if_neg (show ¬ nI 293 = 259 by decide), if_neg (show ¬ nI 293 = 262 by decide), if_neg (show ¬ nI 293 = 266 by decide), if_neg (show ¬ nI 293 = 278 by decide), if_pos (show nI 293 = 293 from rfl)]
    show _ = some (cI (decide _), _)
    by_cases z : v = 0
    · rw [if_pos (show lg_cmp (lN v) 0 = 0 from (Z 0 (by omega)).mpr z), decide_eq_true z]; rfl
    · rw [if_neg (show ¬ lg_cmp (lN v) 0 = 0 from fun y => z ((Z 0 (by omega)).mp y)), decide_eq_false z]; rfl
theorem m_isMay {t v : Nat} (ht : one t = true) (hv : v < 2 ^ 40) (m : Mm) : f_X12_isMay (nI t) (lN v) m = some (cI (may t v), m) := by
  have Z : ∀ k, k < 1000 → (lg_cmp (lN v) (lN k) = 0 ↔ v = k) := fun k hk => by rw [c_eq]; exact lN3 (by omega) k (by omega)
  have L : ∀ k, k < 1000 → (lg_cmp (lN v) (lN k) < 0 ↔ v < k) := fun k hk => by rw [c_lt]; exact pk_lLT (by omega) (by omega)
  have G : ∀ k, k < 1000 → (0 < lg_cmp (lN v) (lN k) ↔ k < v) := fun k hk => by rw [c_gt]; exact pk_lLT (by omega) (by omega)
  rcases one_in ht with rfl | rfl | rfl | rfl | rfl | rfl | rfl | rfl | rfl
  · unfold f_X12_isMay
    rw [if_pos (show nI 256 = 256 from rfl)]
    show _ = some (cI (decide _), _)
    by_cases z : v < 1
    · rw [if_pos (show lg_cmp (lN v) 1 < 0 from (L 1 (by omega)).mpr z), decide_eq_false (by omega)]; rfl
    rw [if_neg (show ¬ lg_cmp (lN v) 1 < 0 from fun y => z ((L 1 (by omega)).mp y))]
    by_cases z2 : 640 < v
    · rw [if_pos (show 0 < lg_cmp (lN v) 640 from (G 640 (by omega)).mpr z2), decide_eq_false (by omega)]; rfl
    rw [if_neg (show ¬ 0 < lg_cmp (lN v) 640 from fun y => z2 ((G 640 (by omega)).mp y)), decide_eq_true (by omega)]; rfl
  · unfold f_X12_isMay
    rw [if_neg (show ¬ nI 257 = 256 by decide), if_pos (show nI 257 = 257 from rfl)]
    show _ = some (cI (decide _), _)
    by_cases z : v < 1
    · rw [if_pos (show lg_cmp (lN v) 1 < 0 from (L 1 (by omega)).mpr z), decide_eq_false (by omega)]; rfl
    rw [if_neg (show ¬ lg_cmp (lN v) 1 < 0 from fun y => z ((L 1 (by omega)).mp y))]
    by_cases z2 : 800 < v
    · rw [if_pos (show 0 < lg_cmp (lN v) 800 from (G 800 (by omega)).mpr z2), decide_eq_false (by omega)]; rfl
    rw [if_neg (show ¬ 0 < lg_cmp (lN v) 800 from fun y => z2 ((G 800 (by omega)).mp y)), decide_eq_true (by omega)]; rfl
  · unfold f_X12_isMay
    rw [if_neg (show ¬ nI 258 = 256 by decide), if_neg (show ¬ nI 258 = 257 by decide), if_pos (show nI 258 = 258 from rfl)]
    show _ = some (cI (decide _), _)
    unfold f_X12_isMay_68
    by_cases z : v = 1
    · rw [if_pos (show lg_cmp (lN v) 1 = 0 from (Z 1 (by omega)).mpr z), decide_eq_true z]; rfl
    · rw [if_neg (show ¬ lg_cmp (lN v) 1 = 0 from fun y => z ((Z 1 (by omega)).mp y)), decide_eq_false z]; rfl
  · unfold f_X12_isMay
    rw [if_neg (show ¬ nI 259 = 256 by decide), if_neg (show ¬ nI 259 = 257 by decide), if_neg (show ¬ nI 259 = 258 by decide), if_neg (show ¬ nI 259 = 277 by decide), if_pos (show nI 259 = 259 from rfl)]
    show _ = some (cI (decide _), _)
    by_cases z : v = 4
    · rw [if_pos (show lg_cmp (lN v) 4 = 0 from (Z 4 (by omega)).mpr z), decide_eq_true z]; rfl
    · rw [if_neg (show ¬ lg_cmp (lN v) 4 = 0 from fun y => z ((Z 4 (by omega)).mp y)), decide_eq_false z]; rfl
  · unfold f_X12_isMay
    rw [if_neg (show ¬ nI 262 = 256 by decide), if_neg (show ¬ nI 262 = 257 by decide), if_neg (show ¬ nI 262 = 258 by decide), if_neg (show ¬ nI 262 = 277 by decide), if_neg (show ¬ nI 262 = 259 by decide), if_pos (show nI 262 = 262 from rfl)]
    show _ = some (cI (decide _), _)
    by_cases z : v = 0
    · rw [if_pos (show lg_cmp (lN v) 0 = 0 from (Z 0 (by omega)).mpr z), decide_eq_true (Or.inl z)]; rfl
    rw [if_neg (show ¬ lg_cmp (lN v) 0 = 0 from fun y => z ((Z 0 (by omega)).mp y))]
    by_cases z2 : v = 1
    · rw [if_pos (show lg_cmp (lN v) 1 = 0 from (Z 1 (by omega)).mpr z2), decide_eq_true (Or.inr z2)]; rfl
    · rw [if_neg (show ¬ lg_cmp (lN v) 1 = 0 from fun y => z2 ((Z 1 (by omega)).mp y)), decide_eq_false (fun y => y.elim z z2)]; rfl
  · unfold f_X12_isMay
    rw [if_neg (show ¬ nI 266 = 256 by decide), if_neg (show ¬ nI 266 = 257 by decide), if_neg (show ¬ nI 266 = 258 by decide), if_neg (show ¬ nI 266 = 277 by decide), if_neg (show ¬ nI 266 = 259 by decide), if_neg (show ¬ nI 266 = 262 by decide), if_pos (show nI 266 = 266 from rfl)]
    show _ = some (cI (decide _), _)
    by_cases z : v = 1
    · rw [if_pos (show lg_cmp (lN v) 1 = 0 from (Z 1 (by omega)).mpr z), decide_eq_true (Or.inl z)]; rfl
    rw [if_neg (show ¬ lg_cmp (lN v) 1 = 0 from fun y => z ((Z 1 (by omega)).mp y))]
    by_cases z2 : v = 2
    · rw [if_pos (show lg_cmp (lN v) 2 = 0 from (Z 2 (by omega)).mpr z2), decide_eq_true (Or.inr z2)]; rfl
    · rw [if_neg (show ¬ lg_cmp (lN v) 2 = 0 from fun y => z2 ((Z 2 (by omega)).mp y)), decide_eq_false (fun y => y.elim z z2)]; rfl
  · unfold f_X12_isMay
    rw [if_neg (show ¬ nI 277 = 256 by decide), if_neg (show ¬ nI 277 = 257 by decide), if_neg (show ¬ nI 277 = 258 by decide), if_pos (show nI 277 = 277 from rfl)]
    show _ = some (cI (decide _), _)
    unfold f_X12_isMay_68
    by_cases z : v = 1
    · rw [if_pos (show lg_cmp (lN v) 1 = 0 from (Z 1 (by omega)).mpr z), decide_eq_true z]; rfl
    · rw [if_neg (show ¬ lg_cmp (lN v) 1 = 0 from fun y => z ((Z 1 (by omega)).mp y)), decide_eq_false z]; rfl
  · unfold f_X12_isMay
    rw [if_neg (show ¬ nI 278 = 256 by decide), if_neg (show ¬ nI 278 = 257 by decide), if_neg (show ¬ nI 278 = 258 by decide), if_neg (show ¬ nI 278 = 277 by decide), if_neg (show ¬ nI 278 = 259 by decide), if_neg (show ¬ nI 278 = 262 by decide), if_neg (show ¬ nI 278 = 266 by decide), if_pos (show nI 278 = 278 from rfl)]
    show _ = some (cI (decide _), _)
    by_cases z : v < 1
    · rw [if_pos (show lg_cmp (lN v) 1 < 0 from (L 1 (by omega)).mpr z), decide_eq_false (by omega)]; rfl
    · rw [if_neg (show ¬ lg_cmp (lN v) 1 < 0 from fun y => z ((L 1 (by omega)).mp y)), decide_eq_true (by omega)]; rfl
  · unfold f_X12_isMay
    rw [if_neg (show ¬ nI 293 = 256 by decide), if_neg (show ¬ nI 293 = 257 by decide), if_neg (show ¬ nI 293 = 258 by decide), if_neg (show ¬ nI 293 = 277 by decide), if_neg (show ¬ nI 293 = 259 by decide), if_neg (show ¬ nI 293 = 262 by decide), if_neg (show ¬ nI 293 = 266 by decide), if_neg (show ¬ nI 293 = 278 by decide)]
    show _ = some (cI (decide _), _)
    by_cases z : v = 0
    · rw [if_pos (show lg_cmp (lN v) 0 = 0 from (Z 0 (by omega)).mpr z), decide_eq_true z]; rfl
    · rw [if_neg (show ¬ lg_cmp (lN v) 0 = 0 from fun y => z ((Z 0 (by omega)).mp y)), decide_eq_false z]; rfl
