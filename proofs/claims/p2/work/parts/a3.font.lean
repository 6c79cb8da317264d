/-! The font in use: the class's choice. -/
theorem nI_or (a b : Nat) : nI a ||| nI b = nI (a ||| b) := b_ext fun i hi => by rw [b_or, nI_bt hi, nI_bt hi, nI_bt hi, Nat.testBit_or]
theorem one_shl : ∀ f, f < 17 → (1 : Int32) <<< (nI f &&& 31) = nI (2 ^ f) := by decide +kernel
theorem any17 {p : Nat → Bool} : (List.range 17).any p = true ↔ ∃ f, f < 17 ∧ p f = true := by
  rw [List.any_eq_true]
  constructor
  · rintro ⟨f, h1, h2⟩; exact ⟨f, List.mem_range.mp h1, h2⟩
  · rintro ⟨f, h1, h2⟩; exact ⟨f, List.mem_range.mpr h1, h2⟩
theorem all17 {p : Nat → Bool} : (List.range 17).all p = true ↔ ∀ f, f < 17 → p f = true := by
  rw [List.all_eq_true]
  constructor
  · intro h f hf; exact h f (List.mem_range.mpr hf)
  · intro h f hf; exact h f (List.mem_range.mp hf)
theorem fkeep_y {C P : Nat → Bool} (h : ∃ f, f < 17 ∧ C f = true ∧ P f = true) (f : Nat) : fkeep C P f = (C f && P f) := by
  unfold fkeep
  rw [if_pos]
  obtain ⟨j, h1, h2, h3⟩ := h
  exact any17.mpr ⟨j, h1, by rw [h2, h3]; rfl⟩
theorem fkeep_n {C P : Nat → Bool} (h : ∀ f, f < 17 → C f = true → P f = false) (f : Nat) : fkeep C P f = C f := by
  unfold fkeep
  rw [if_neg]
  intro q
  obtain ⟨j, h1, h2⟩ := any17.mp q
  have h3 : C j = true := by
    cases e : C j
    · rw [e] at h2; exact h2
    · rfl
  rw [h3, h j h1 h3] at h2; cases h2
theorem ffr_eq {C : Nat → Bool} : ∀ (n k r : Nat), k ≤ r → r < k + n → C r = true → (∀ j, k ≤ j → j < r → C j = false) → ffr C n k = r := by
  intro n
  induction n with
  | zero => intro k r h1 h2; omega
  | succ n ih =>
    intro k r h1 h2 h3 h4
    unfold ffr
    by_cases e : k = r
    · rw [e, if_pos h3]
    · rw [h4 k (by omega) (by omega), if_neg (by decide)]
      exact ih (k + 1) r (by omega) (by omega) h3 (fun j a b => h4 j (by omega) b)
def NE (C : Nat → Bool) : Prop := ∃ f, f < 17 ∧ C f = true
theorem NE.least {C : Nat → Bool} (h : NE C) : ∃ r, r < 17 ∧ C r = true ∧ (∀ j, j < r → C j = false) ∧ ffirst C = r := by
  obtain ⟨f, hf, hc⟩ := h
  obtain ⟨r, h1, h2⟩ := pk_least (fun k => C k = true) ⟨f, hc⟩
  have hr : r < 17 := by
    by_cases q : r ≤ f
    · omega
    · exact absurd hc (h2 f (by omega))
  have h3 : ∀ j, j < r → C j = false := fun j hj => by
    cases e : C j
    · rfl
    · exact absurd e (h2 j hj)
  exact ⟨r, hr, h1, h3, ffr_eq 17 0 r (by omega) (by omega) h1 (fun j _ hj => h3 j hj)⟩
theorem NE.keep {C P : Nat → Bool} (h : NE C) : NE (fkeep C P) := by
  by_cases q : ∃ f, f < 17 ∧ C f = true ∧ P f = true
  · obtain ⟨j, h1, h2, h3⟩ := q
    exact ⟨j, h1, by rw [fkeep_y ⟨j, h1, h2, h3⟩, h2, h3]; rfl⟩
  · obtain ⟨j, h1, h2⟩ := h
    exact ⟨j, h1, by rw [fkeep_n (fun f a b => by
      cases e : P f
      · rfl
      · exact absurd ⟨f, a, b, e⟩ q)]; exact h2⟩
theorem NE.min {C : Nat → Bool} {n : Nat → Int} {v : Int} (h : NE C) : ∃ j, j < 17 ∧ C j = true ∧ ∀ f, f < 17 → C f = true → ffar (n j) v ≤ ffar (n f) v := by
  have go : ∀ k, k ≤ 17 → (∀ f, f < k → C f = false) ∨ ∃ j, j < k ∧ C j = true ∧ ∀ f, f < k → C f = true → ffar (n j) v ≤ ffar (n f) v := by
    intro k
    induction k with
    | zero => intro _; exact Or.inl (fun f hf => by omega)
    | succ k ih =>
      intro hk
      rcases ih (by omega) with a | ⟨j, b1, b2, b3⟩
      · cases e : C k
        · exact Or.inl (fun f hf => by
            by_cases q : f = k
            · rw [q]; exact e
            · exact a f (by omega))
        · refine Or.inr ⟨k, by omega, e, fun f hf hc => ?_⟩
          by_cases q : f = k
          · rw [q]; exact Int.le_refl _
          · rw [a f (by omega)] at hc; cases hc
      · by_cases q : C k = true ∧ ffar (n k) v < ffar (n j) v
        · refine Or.inr ⟨k, by omega, q.1, fun f hf hc => ?_⟩
          by_cases z : f = k
          · rw [z]; exact Int.le_refl _
          · have := b3 f (by omega) hc; omega
        · refine Or.inr ⟨j, by omega, b2, fun f hf hc => ?_⟩
          by_cases z : f = k
          · rw [z]
            by_cases y : ffar (n k) v < ffar (n j) v
            · exact absurd ⟨z ▸ hc, y⟩ q
            · omega
          · exact b3 f (by omega) hc
  rcases go 17 (by omega) with a | a
  · obtain ⟨f, h1, h2⟩ := h
    rw [a f h1] at h2; cases h2
  · exact a
theorem fnear_t {C : Nat → Bool} {n : Nat → Int} {v : Int} {f : Nat} : fnear C n v f = true ↔ C f = true ∧ ∀ j, j < 17 → C j = true → ffar (n f) v ≤ ffar (n j) v := by
  unfold fnear
  rw [Bool.and_eq_true, all17]
  constructor
  · rintro ⟨a, b⟩
    refine ⟨a, fun j hj hc => ?_⟩
    have := b j hj
    rw [hc] at this
    simpa using this
  · rintro ⟨a, b⟩
    refine ⟨a, fun j hj => ?_⟩
    cases e : C j
    · rfl
    · have := b j hj e
      simpa using this
theorem NE.near {C : Nat → Bool} {n : Nat → Int} {v : Int} (h : NE C) : NE (fnear C n v) := by
  obtain ⟨j, h1, h2, h3⟩ := h.min (n := n) (v := v)
  exact ⟨j, h1, fnear_t.mpr ⟨h2, h3⟩⟩
theorem ffar_inj {a b v : Int} (h : ffar a v = ffar b v) : a = b := by
  unfold ffar at h
  split at h <;> split at h <;> omega
/-- fonts as bits -/
def MK (x : Int32) (C : Nat → Bool) : Prop := ∃ v, x = nI v ∧ v < 2 ^ 17 ∧ ∀ f, f < 17 → v.testBit f = C f
theorem MK.congr {x : Int32} {C D : Nat → Bool} (h : MK x C) (e : ∀ f, f < 17 → D f = C f) : MK x D := by
  obtain ⟨v, h1, h2, h3⟩ := h
  exact ⟨v, h1, h2, fun f hf => (h3 f hf).trans (e f hf).symm⟩
section A3
variable {c : Mm}
theorem c_al {x v : Int32} {w : Nat} {C : Nat → Bool} (hx : MK x C) (hw : w < 7) : ∀ (n f u : Nat), 17 - f < n → f ≤ 17 → u < 2 ^ 17 → (∀ j, j < 17 → u.testBit j = (decide (j < f) && C j && decide (gA c 30 (7 * j + w) = v))) → ∃ u', u' < 2 ^ 17 ∧ (∀ j, j < 17 → u'.testBit j = (C j && decide (gA c 30 (7 * j + w) = v))) ∧ f_X2_alike_l6 n x (nI w) v (nI u) (nI f) c = some (if nI u' = 0 then x else nI u', c) := by
  intro n
  induction n with
  | zero => intro f u h; omega
  | succ n ih =>
    intro f u h1 h2 h3 h4
    show ∃ u', _ ∧ _ ∧ f_X2_alike_b6 (f_X2_alike_l6 n) x (nI w) v (nI u) (nI f) c = _
    unfold f_X2_alike_b6
    by_cases hf : f = 17
    · subst hf
      rw [if_pos (by decide)]
      refine ⟨u, h3, fun j hj => by rw [h4 j hj, decide_eq_true hj, Bool.true_and], ?_⟩
      split <;> rfl
    · rw [if_neg (show ¬ (16 : Int32) < nI f from nI_nlt (a := 16) (by omega) (by omega)), show nI f * (7 : Int32) = nI (f * 7) from pk_mul f 7, nI_add, lb_eq]
      have e7 : f * 7 + w = 7 * f + w := by omega
      have nx : nI f + 1 = nI (f + 1) := nI_add f 1
      obtain ⟨y, y1, y2, y3⟩ := hx
      have eb : (x >>> (nI f &&& 31)) &&& 1 = cI (C f) := by rw [sdot x (by omega), y1, nI_bt (by omega), y3 f (by omega)]
      have stay : (C f && decide (gA c 30 (7 * f + w) = v)) = false → ∀ j, j < 17 → u.testBit j = (decide (j < f + 1) && C j && decide (gA c 30 (7 * j + w) = v)) := fun e j hj => by
        rw [h4 j hj]
        by_cases q : j = f
        · subst q
          rw [decide_eq_false (by omega), decide_eq_true (show j < j + 1 by omega), Bool.true_and, e]; rfl
        · rw [show decide (j < f + 1) = decide (j < f) from by rw [decide_eq_decide]; omega]
      rw [eb]
      cases hc : C f
      · rw [if_pos (by rfl)]
        unfold f_X2_alike_51
        rw [if_pos rfl, nx]
        exact ih (f + 1) u (by omega) (by omega) h3 (stay (by rw [hc]; rfl))
      · rw [if_neg (by decide), if_neg (nI_pos (by omega)), if_neg (show ¬ (119 : Int32) ≤ nI (f * 7 + w) from nI_ge (b := 119) (by omega) (by omega))]
        unfold f_X2_alike_51
        rw [if_neg (by decide), ix_in (j := f * 7 + w) (nI_pos (by omega)) (nI_clamp (by omega)) (by omega), e7]
        by_cases q : gA c 30 (7 * f + w) = v
        · rw [if_pos q, one_shl f (by omega), nI_or, lb_eq, nx]
          refine ih (f + 1) (u ||| 2 ^ f) (by omega) (by omega) (Nat.or_lt_two_pow h3 (Nat.pow_lt_pow_right (by decide) (by omega))) (fun j hj => ?_)
          rw [Nat.testBit_or, h4 j hj, Nat.testBit_two_pow]
          by_cases z : f = j
          · subst z
            rw [decide_eq_true rfl, decide_eq_true (by omega : f < f + 1), hc, decide_eq_true q]; simp
          · rw [decide_eq_false z, Bool.or_false, show decide (j < f + 1) = decide (j < f) from by rw [decide_eq_decide]; omega]
        · rw [if_neg q, nx]
          exact ih (f + 1) u (by omega) (by omega) h3 (stay (by rw [hc, decide_eq_false q]; rfl))
theorem c_alike {x v : Int32} {w : Nat} {C : Nat → Bool} (hx : MK x C) (hw : w < 7) : ∃ y, f_X2_alike x (nI w) v c = some (y, c) ∧ MK y (fkeep C (fun f => decide (gA c 30 (7 * f + w) = v))) := by
  obtain ⟨u, u1, u2, u3⟩ := c_al (c := c) (v := v) hx hw FU 0 0 (FU_gt (by omega)) (by omega) (by decide) (fun j _ => by simp)
  refine ⟨_, u3, ?_⟩
  by_cases q : u = 0
  · subst q
    rw [if_pos (show nI 0 = 0 from rfl)]
    refine hx.congr (fun f hf => fkeep_n (fun j hj hc => ?_) f)
    have := u2 j hj
    rw [hc, Nat.zero_testBit, Bool.true_and] at this
    exact this.symm
  · rw [if_neg (nI_ne0 (by omega) (by omega))]
    obtain ⟨i, hi⟩ := Nat.exists_testBit_of_ne_zero q
    have i17 : i < 17 := by
      by_cases z : i < 17
      · exact z
      · have : u < 2 ^ i := Nat.lt_of_lt_of_le u1 (Nat.pow_le_pow_right (by decide) (by omega))
        rw [Nat.testBit_lt_two_pow this] at hi; cases hi
    have hi2 := u2 i i17
    rw [hi] at hi2
    have hh := (Bool.and_eq_true _ _).mp hi2.symm
    exact ⟨u, rfl, u1, fun f hf => by rw [u2 f hf, fkeep_y ⟨i, i17, hh.1, hh.2⟩]⟩
theorem f_abs {z : Int} (h1 : -2147483647 ≤ z) (h2 : z < 2147483648) : f_J9_abs_0f7a4 (iz z) c = some (iz (if z < 0 then -z else z), c) := by
  unfold f_J9_abs_0f7a4
  by_cases q : z < 0
  · rw [if_neg (fun y => by rw [iz_0, iz_le (by omega) (by omega) (by omega) (by omega)] at y; omega), if_pos q, iz_neg]
  · rw [if_pos (by rw [iz_0, iz_le (by omega) (by omega) (by omega) (by omega)]; omega), if_neg q]
/-- numbers within bounds -/
def NB (c : Mm) : Prop := ∀ j, j < 119 → -2000000 ≤ (gA c 30 j).toInt ∧ (gA c 30 j).toInt ≤ 2000000
theorem near_if {α : Type} {A B V D : Int} (h1 : 0 ≤ A) (h2 : A < 1073741824) (h3 : 0 ≤ B) (h4 : B < 1073741824) (h5 : -1073741824 ≤ V) (h6 : V < 1073741824) (h7 : -1073741824 ≤ D) (h8 : D < 1073741824) {k1 k2 : α} : (if (0 : Int32) < iz (A - B) then k1 else if iz (A - B) = 0 then (if iz V ≤ iz D then k2 else k1) else k2) = if B < A ∨ (A = B ∧ D < V) then k1 else k2 := by
  have e1 : ((0 : Int32) < iz (A - B)) ↔ 0 < A - B := by rw [iz_0]; exact iz_lt (by omega) (by omega) (by omega) (by omega)
  have e2 : (iz (A - B) = 0) ↔ A - B = 0 := by rw [iz_0]; exact iz_inj (by omega) (by omega) (by omega) (by omega)
  have e3 : iz V ≤ iz D ↔ V ≤ D := iz_le (by omega) (by omega) (by omega) (by omega)
  by_cases q1 : 0 < A - B
  · rw [if_pos (e1.mpr q1), if_pos (Or.inl (by omega))]
  rw [if_neg (fun y => q1 (e1.mp y))]
  by_cases q2 : A - B = 0
  · rw [if_pos (e2.mpr q2)]
    by_cases q3 : V ≤ D
    · rw [if_pos (e3.mpr q3), if_neg (by omega)]
    · rw [if_neg (fun y => q3 (e3.mp y)), if_pos (Or.inr ⟨by omega, by omega⟩)]
  · rw [if_neg (fun y => q2 (e2.mp y)), if_neg (by omega)]
theorem c_ne {x : Int32} {w : Nat} {wv : Int} {C : Nat → Bool} (hx : MK x C) (hw : w < 7) (nb : NB c) (w1 : -2000000 ≤ wv) (w2 : wv ≤ 2000000) (ne : NE C) : ∀ (n f : Nat) (b : Int32) (fl : Bool), 17 - f < n → f ≤ 17 → ((fl = false ∧ b = 0 ∧ ∀ j, j < f → C j = false) ∨ (fl = true ∧ ∃ j0, j0 < f ∧ C j0 = true ∧ b = gA c 30 (7 * j0 + w) ∧ ∀ j, j < f → C j = true → ffar (gA c 30 (7 * j0 + w)).toInt wv ≤ ffar (gA c 30 (7 * j + w)).toInt wv)) → ∃ j0, j0 < 17 ∧ C j0 = true ∧ (∀ j, j < 17 → C j = true → ffar (gA c 30 (7 * j0 + w)).toInt wv ≤ ffar (gA c 30 (7 * j + w)).toInt wv) ∧ f_X2_nearest_l16 n x (nI w) (iz wv) b (cI fl) (nI f) c = some (gA c 30 (7 * j0 + w), c) := by
  intro n
  induction n with
  | zero => intro f b fl h; omega
  | succ n ih =>
    intro f b fl h1 h2 h3
    show ∃ j0, _ ∧ _ ∧ _ ∧ f_X2_nearest_b16 (f_X2_nearest_l16 n) x (nI w) (iz wv) b (cI fl) (nI f) c = _
    unfold f_X2_nearest_b16
    by_cases hf : f = 17
    · subst hf
      rw [if_pos (by decide)]
      rcases h3 with ⟨_, _, a⟩ | ⟨_, j0, a1, a2, a3, a4⟩
      · obtain ⟨j, b1, b2⟩ := ne
        rw [a j b1] at b2; cases b2
      · exact ⟨j0, a1, a2, a4, by rw [a3]⟩
    · rw [if_neg (show ¬ (16 : Int32) < nI f from nI_nlt (a := 16) (by omega) (by omega)), show nI f * (7 : Int32) = nI (f * 7) from pk_mul f 7, nI_add, lb_eq]
      have e7 : f * 7 + w = 7 * f + w := by omega
      have nx : nI f + 1 = nI (f + 1) := nI_add f 1
      obtain ⟨y, y1, y2, y3⟩ := hx
      have eb : (x >>> (nI f &&& 31)) &&& 1 = cI (C f) := by rw [sdot x (by omega), y1, nI_bt (by omega), y3 f (by omega)]
      rw [eb]
      cases hc : C f
      · rw [if_pos (by rfl), nx]
        refine ih (f + 1) b fl (by omega) (by omega) ?_
        rcases h3 with ⟨a1, a2, a3⟩ | ⟨a0, j0, a1, a2, a3, a4⟩
        · refine Or.inl ⟨a1, a2, fun j hj => ?_⟩
          by_cases q : j = f
          · rw [q]; exact hc
          · exact a3 j (by omega)
        · refine Or.inr ⟨a0, j0, by omega, a2, a3, fun j hj hcj => ?_⟩
          by_cases q : j = f
          · rw [q, hc] at hcj; cases hcj
          · exact a4 j (by omega) hcj
      · rw [if_neg (by decide), if_neg (nI_pos (by omega)), if_neg (show ¬ (119 : Int32) ≤ nI (f * 7 + w) from nI_ge (b := 119) (by omega) (by omega)), ix_in (j := f * 7 + w) (nI_pos (by omega)) (nI_clamp (by omega)) (by omega), lb_eq, e7]
        have n1 := nb (7 * f + w) (by omega)
        have take : (fl = false ∨ ∃ j0, j0 < f ∧ C j0 = true ∧ (∀ j, j < f → C j = true → ffar (gA c 30 (7 * j0 + w)).toInt wv ≤ ffar (gA c 30 (7 * j + w)).toInt wv) ∧ ffar (gA c 30 (7 * f + w)).toInt wv ≤ ffar (gA c 30 (7 * j0 + w)).toInt wv) → (fl = false → ∀ j, j < f → C j = false) → ∃ j0, j0 < 17 ∧ C j0 = true ∧ (∀ j, j < 17 → C j = true → ffar (gA c 30 (7 * j0 + w)).toInt wv ≤ ffar (gA c 30 (7 * j + w)).toInt wv) ∧ f_X2_nearest_l16 n x (nI w) (iz wv) (gA c 30 (7 * f + w)) 1 (nI f + 1) c = some (gA c 30 (7 * j0 + w), c) := by
          intro hh h9
          rw [nx]
          refine ih (f + 1) _ true (by omega) (by omega) (Or.inr ⟨rfl, f, by omega, hc, rfl, fun j hj hcj => ?_⟩)
          by_cases q : j = f
          · rw [q]; exact Int.le_refl _
          · rcases hh with hh | ⟨j0, _, _, a3, a4⟩
            · rw [h9 hh j (by omega)] at hcj; cases hcj
            · have := a3 j (by omega) hcj; omega
        rcases h3 with ⟨a1, a2, a3⟩ | ⟨a0, j0, a1, a2, a3, a4⟩
        · subst a2
          rw [iz_of (gA c 30 (7 * f + w)), show (0 : Int32) = iz 0 from rfl, iz_sub, f_abs (by omega) (by omega), bd_eq, iz_sub, f_abs (by omega) (by omega), bd_eq, lb_eq, a1, if_pos (by rfl), ← iz_of (gA c 30 (7 * f + w))]
          exact take (Or.inl a1) (fun _ => a3)
        · have n0 := nb (7 * j0 + w) (by omega)
          rw [a3, iz_of (gA c 30 (7 * f + w)), iz_of (gA c 30 (7 * j0 + w)), iz_sub, f_abs (by omega) (by omega), bd_eq, iz_sub, f_abs (by omega) (by omega), bd_eq, iz_sub, lb_eq, a0, if_neg (by decide), near_if (by split <;> omega) (by split <;> omega) (by split <;> omega) (by split <;> omega) (by omega) (by omega) (by omega) (by omega), ← iz_of (gA c 30 (7 * f + w)), ← iz_of (gA c 30 (7 * j0 + w))]
          have hif : ((if (gA c 30 (7 * f + w)).toInt - wv < 0 then -((gA c 30 (7 * f + w)).toInt - wv) else (gA c 30 (7 * f + w)).toInt - wv) < (if (gA c 30 (7 * j0 + w)).toInt - wv < 0 then -((gA c 30 (7 * j0 + w)).toInt - wv) else (gA c 30 (7 * j0 + w)).toInt - wv) ∨ ((if (gA c 30 (7 * j0 + w)).toInt - wv < 0 then -((gA c 30 (7 * j0 + w)).toInt - wv) else (gA c 30 (7 * j0 + w)).toInt - wv) = (if (gA c 30 (7 * f + w)).toInt - wv < 0 then -((gA c 30 (7 * f + w)).toInt - wv) else (gA c 30 (7 * f + w)).toInt - wv) ∧ (gA c 30 (7 * j0 + w)).toInt < (gA c 30 (7 * f + w)).toInt)) ↔ ffar (gA c 30 (7 * f + w)).toInt wv < ffar (gA c 30 (7 * j0 + w)).toInt wv := by
            unfold ffar
            split <;> split <;> omega
          by_cases q : ffar (gA c 30 (7 * f + w)).toInt wv < ffar (gA c 30 (7 * j0 + w)).toInt wv
          · rw [if_pos (hif.mpr q)]
            exact take (Or.inr ⟨j0, a1, a2, a4, by omega⟩) (fun e => by rw [a0] at e; cases e)
          · rw [if_neg (fun y => q (hif.mp y)), nx]
            refine ih (f + 1) _ true (by omega) (by omega) (Or.inr ⟨rfl, j0, by omega, a2, rfl, fun j hj hcj => ?_⟩)
            by_cases z : j = f
            · rw [z]; omega
            · exact a4 j (by omega) hcj
theorem c_nearest {x : Int32} {w : Nat} {wv : Int} {C : Nat → Bool} (hx : MK x C) (hw : w < 7) (nb : NB c) (ew : gA c 35 w = iz wv) (w1 : -2000000 ≤ wv) (w2 : wv ≤ 2000000) (ne : NE C) : ∃ b y, f_X2_nearest x (nI w) c = some (b, c) ∧ f_X2_alike x (nI w) b c = some (y, c) ∧ MK y (fnear C (fun f => (gA c 30 (7 * f + w)).toInt) wv) := by
  obtain ⟨j0, h1, h2, h3, h4⟩ := c_ne hx hw nb w1 w2 ne FU 0 0 false (FU_gt (by omega)) (by omega) (Or.inl ⟨rfl, rfl, fun j hj => by omega⟩)
  obtain ⟨y, y1, y2⟩ := c_alike (c := c) (v := gA c 30 (7 * j0 + w)) hx hw
  refine ⟨_, y, ?_, y1, y2.congr (fun f hf => ?_)⟩
  · unfold f_X2_nearest
    rw [ix_in (j := w) (nI_pos (by omega)) (nI_clamp (by omega)) (by omega), lb_eq, ew]
    exact h4
  · rw [fkeep_y ⟨j0, h1, h2, by simp⟩, Bool.eq_iff_iff, fnear_t, Bool.and_eq_true, decide_eq_true_eq]
    constructor
    · rintro ⟨a, b⟩
      refine ⟨a, ?_⟩
      have e := Int.le_antisymm (b j0 h1 h2) (h3 f hf a)
      exact Int32.toInt_inj.mp (ffar_inj e)
    · rintro ⟨a, b⟩
      exact ⟨a, fun j hj hc => by rw [b]; exact h3 j hj hc⟩
theorem low_bit {x : Int32} {C : Nat → Bool} (hx : MK x C) (ne : NE C) : (31 : Int32) - nI (lz (x &&& -x)) = nI (ffirst C) := by
  obtain ⟨r, r1, r2, r3, r4⟩ := ne.least
  obtain ⟨v, v1, v2, v3⟩ := hx
  have hb : ∀ i, i < 32 → bt (x &&& -x) i = decide (i = r) := by
    intro i hi
    have e1 : bt (-x) i = (bt x i ^^ decide (i < 32) && decide (∃ j, j < i ∧ bt x j = true)) := by
      unfold bt
      rw [Int32.toBitVec_neg, BitVec.getLsbD_neg]
    have ex : ∀ j, j < 32 → bt x j = v.testBit j := fun j hj => by rw [v1, nI_bt hj]
    have er : bt x r = true := by rw [ex r (by omega), v3 r r1]; exact r2
    have el : ∀ j, j < r → bt x j = false := fun j hj => by rw [ex j (by omega), v3 j (by omega)]; exact r3 j hj
    rw [b_and, e1, decide_eq_true hi, Bool.true_and]
    rcases Nat.lt_trichotomy i r with h | h | h
    · rw [el i h, decide_eq_false (by omega : ¬ i = r)]; rfl
    · rw [h, er, decide_eq_true rfl, decide_eq_false]
      · rfl
      · rintro ⟨j, h1, h2⟩
        rw [el j h1] at h2; cases h2
    · rw [decide_eq_true (show ∃ j, j < i ∧ bt x j = true from ⟨r, h, er⟩), decide_eq_false (by omega : ¬ i = r)]
      cases bt x i <;> rfl
  have nz : ¬ (x &&& -x) = 0 := fun e => by
    have := hb r (by omega)
    rw [e, b_0, decide_eq_true rfl] at this; cases this
  have hl := lz_lt nz
  have hy := lz_yes hl
  rw [hb _ (by omega)] at hy
  have : 31 - lz (x &&& -x) = r := by simpa using hy
  rw [r4, ← this, show (31 : Int32) = nI 31 from rfl, pk_sub (by omega)]
theorem sp_has {o : Nat} {f : Nat} (hf : f < 16) : f_X8_has o (nI f) c = some (cI (!decide (gA c (o + 1) f = 0)), c) := by
  unfold f_X8_has
  rw [if_neg (nI_pos (by omega)), if_neg (show ¬ (16 : Int32) ≤ nI f from nI_ge (b := 16) (by omega) (by omega)), ix_in (j := f) (nI_pos (by omega)) (nI_clamp (by omega)) (by omega)]
  by_cases q : gA c (o + 1) f = 0
  · rw [if_pos q, decide_eq_true q]; rfl
  · rw [if_neg q, decide_eq_false q]; rfl
theorem c_among : ∀ (n f : Nat) (x : Int32), 16 - f < n → f ≤ 16 → MK x (fun j => (decide (j < f) || j == 16) && thC c j) → ∃ y, MK y (thC c) ∧ f_X2_choose_l5 n x (nI f) c = f_X2_choose_b5 (fun _ _ _ => none) y (nI 16) c := by
  intro n
  induction n with
  | zero => intro f x h; omega
  | succ n ih =>
    intro f x h1 h2 h3
    by_cases hf : f = 16
    · subst hf
      refine ⟨x, h3.congr (fun j hj => ?_), ?_⟩
      · have : (decide (j < 16) || j == 16) = true := by simp; omega
        rw [this, Bool.true_and]
      · show f_X2_choose_b5 (f_X2_choose_l5 n) x (nI 16) c = _
        unfold f_X2_choose_b5
        rw [if_pos (by decide), if_pos (by decide)]
    · show ∃ y, _ ∧ f_X2_choose_b5 (f_X2_choose_l5 n) x (nI f) c = _
      have e0 : f_X2_choose_b5 (f_X2_choose_l5 n) x (nI f) c = f_X2_choose_l5 n (x ||| (if thC c f = true then (1 : Int32) <<< (nI f &&& 31) else 0)) (nI (f + 1)) c := by
        unfold f_X2_choose_b5
        rw [if_neg (show ¬ (16 : Int32) ≤ nI f from nI_ge (b := 16) (by omega) (by omega)), sp_has (by omega), bd_eq]
        have et : thC c f = !decide (gA c (28 + 1) f = 0) := by
          unfold thC
          rw [show (f == 16) = false by simp; omega]; rfl
        rw [← et]
        cases thC c f
        · rw [if_pos (by rfl), lb_eq, show nI f + 1 = nI (f + 1) from nI_add f 1]; rfl
        · rw [if_neg (by decide), lb_eq, show nI f + 1 = nI (f + 1) from nI_add f 1]; rfl
      rw [e0]
      obtain ⟨v, v1, v2, v3⟩ := h3
      refine ih (f + 1) _ (by omega) (by omega) ?_
      cases ht : thC c f
      · refine ⟨v, ?_, v2, fun j hj => ?_⟩
        · rw [if_neg (by decide), v1, show (0 : Int32) = nI 0 from rfl, nI_or, Nat.or_zero]
        · have e := v3 j hj
          dsimp only at e ⊢
          rw [e]
          by_cases q : j = f
          · rw [q, ht]; simp
          · rw [show decide (j < f + 1) = decide (j < f) from by rw [decide_eq_decide]; omega]
      · refine ⟨v ||| 2 ^ f, ?_, Nat.or_lt_two_pow v2 (Nat.pow_lt_pow_right (by decide) (by omega)), fun j hj => ?_⟩
        · rw [if_pos rfl, v1, one_shl f (by omega), nI_or]
        · have e := v3 j hj
          dsimp only at e ⊢
          rw [Nat.testBit_or, e, Nat.testBit_two_pow]
          by_cases q : f = j
          · subst q
            rw [ht, decide_eq_true rfl, decide_eq_true (by omega : f < f + 1)]; simp
          · rw [decide_eq_false q, Bool.or_false, show decide (j < f + 1) = decide (j < f) from by rw [decide_eq_decide]; omega]
def wC (c : Mm) : Nat → Int32 := fun k => gA c 35 (iwp k)
theorem c_choose (nb : NB c) (wb : WB8 (wC c)) : f_X2_choose c = some (nI (fcho (thC c) (nmC c) (wC c)), c) := by
  obtain ⟨x, x1, x2⟩ := c_among (c := c) FU 0 65536 (FU_gt (by omega)) (by omega) ⟨2 ^ 16, by decide, by decide, fun j hj => by
    rw [Nat.testBit_two_pow]
    unfold thC
    by_cases q : 16 = j
    · subst q; rfl
    · rw [decide_eq_false q]
      have : (j == 16) = false := by simp; omega
      dsimp only
      rw [this]; simp⟩
  have ne : NE (thC c) := ⟨16, by omega, rfl⟩
  have wz : ∀ k, k < 7 → ∃ z : Int, gA c 35 (iwp k) = iz z ∧ -2000000 ≤ z ∧ z ≤ 2000000 := fun k hk => iz_lh (wb.1 k hk)
  obtain ⟨z1, y1, y2, y3⟩ := wz 1 (by omega)
  obtain ⟨z2, u1, u2, u3⟩ := wz 2 (by omega)
  obtain ⟨z4, t1, t2, t3⟩ := wz 4 (by omega)
  have e16 : f_X2_choose c = f_X2_choose_b5 (fun _ _ _ => none) x (nI 16) c := x2
  rw [e16]
  unfold f_X2_choose_b5
  rw [if_pos (by decide)]
  obtain ⟨a, a1, a2⟩ := c_alike (c := c) (v := gA c 35 0) (w := 0) x1 (by omega)
  have a1' : f_X2_alike x 0 (gA c 35 0) c = some (a, c) := a1
  rw [a1', bd_eq]
  obtain ⟨b, b1, b2⟩ := c_alike (c := c) (v := gA c 35 1) (w := 1) a2 (by omega)
  have b1' : f_X2_alike a 1 (gA c 35 1) c = some (b, c) := b1
  rw [b1', bd_eq]
  have nea := ne.keep (P := fun f => decide (gA c 30 (7 * f + 0) = gA c 35 0))
  have neb := nea.keep (P := fun f => decide (gA c 30 (7 * f + 1) = gA c 35 1))
  -- behind the pitch
  have rest : ∀ (x : Int32) (C : Nat → Bool), MK x C → NE C → f_X2_choose_86 x c = some (nI (ffirst (fkeep (fnear (fkeep (fnear C (fun f => (nmC c f 2).toInt) (wC c 2).toInt) (fun f => decide (nmC c f 3 = wC c 3))) (fun f => (nmC c f 4).toInt) (wC c 4).toInt) (fun f => decide (nmC c f 5 = wC c 5)))), c) := by
    intro x C hx ne
    have q2 : (wC c 2).toInt = z2 := by show (gA c 35 (iwp 2)).toInt = z2; rw [u1, iz_int (by omega) (by omega)]
    have q4 : (wC c 4).toInt = z4 := by show (gA c 35 (iwp 4)).toInt = z4; rw [t1, iz_int (by omega) (by omega)]
    unfold f_X2_choose_86
    obtain ⟨b3, y3, g1, g2, g3⟩ := c_nearest (c := c) (w := 3) hx (by omega) nb u1 u2 u3 ne
    have g1' : f_X2_nearest x 3 c = some (b3, c) := g1
    have g2' : f_X2_alike x 3 b3 c = some (y3, c) := g2
    rw [g1', bd_eq, g2', bd_eq]
    have ne3 := ne.near (n := fun f => (gA c 30 (7 * f + 3)).toInt) (v := z2)
    obtain ⟨y4, h1, h2⟩ := c_alike (c := c) (v := gA c 35 4) (w := 4) g3 (by omega)
    have h1' : f_X2_alike y3 4 (gA c 35 4) c = some (y4, c) := h1
    rw [h1', bd_eq]
    have ne4 := ne3.keep (P := fun f => decide (gA c 30 (7 * f + 4) = gA c 35 4))
    obtain ⟨b5, y5, k1, k2, k3⟩ := c_nearest (c := c) (w := 5) h2 (by omega) nb t1 t2 t3 ne4
    have k1' : f_X2_nearest y4 5 c = some (b5, c) := k1
    have k2' : f_X2_alike y4 5 b5 c = some (y5, c) := k2
    rw [k1', bd_eq, k2', bd_eq]
    have ne5 := ne4.near (n := fun f => (gA c 30 (7 * f + 5)).toInt) (v := z4)
    obtain ⟨y6, l1, l2⟩ := c_alike (c := c) (v := gA c 35 6) (w := 6) k3 (by omega)
    have l1' : f_X2_alike y5 6 (gA c 35 6) c = some (y6, c) := l1
    rw [l1', bd_eq, f_za, bd_eq, low_bit l2 (ne5.keep), q2, q4]
    rfl
  unfold fcho
  by_cases q : gA c 35 1 = 0
  · rw [if_pos q]
    obtain ⟨b2', y2', m1, m2, m3⟩ := c_nearest (c := c) (w := 2) b2 (by omega) nb y1 y2 y3 neb
    have m1' : f_X2_nearest b 2 c = some (b2', c) := m1
    have m2' : f_X2_alike b 2 b2' c = some (y2', c) := m2
    have q1 : (wC c 1).toInt = z1 := by show (gA c 35 (iwp 1)).toInt = z1; rw [y1, iz_int (by omega) (by omega)]
    rw [m1', bd_eq, m2', bd_eq, rest _ _ m3 (neb.near)]
    simp only []
    rw [if_pos (show wC c 0 = 0 from q), q1]
    rfl
  · rw [if_neg q, rest _ _ b2 neb]
    simp only []
    rw [if_neg (show ¬ wC c 0 = 0 from q)]
    rfl
end A3
