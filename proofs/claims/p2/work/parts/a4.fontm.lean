/-! The font in use: the reference's choice, and both together. -/
def a164 (a : Nat) : Bool := a == 164
def CA (T : Mm) (C : Nat → Bool) : Prop := ∀ f, f < 17 → gA T 164 f = cI (C f)
section A4
variable {m : Mm}
theorem m_kp1 {v : Int32} {k : Nat} {C : Nat → Bool} {T : Mm} (hC : CA T C) (hk : k < 7) : ∀ (n f : Nat) (fl : Bool), 17 - f < n → f ≤ 17 → (fl = true ↔ ∃ j, j < f ∧ C j = true ∧ nmM T j k = v) → ∃ fl', (fl' = true ↔ ∃ j, j < 17 ∧ C j = true ∧ nmM T j k = v) ∧ f_X12_keep_l5 n (nI k) v (cI fl) (nI f) T = f_X12_keep_l57 FU (nI k) v (cI fl') 0 T := by
  intro n
  induction n with
  | zero => intro f fl h; omega
  | succ n ih =>
    intro f fl h1 h2 h3
    show ∃ fl', _ ∧ f_X12_keep_b5 (f_X12_keep_l5 n) (nI k) v (cI fl) (nI f) T = _
    unfold f_X12_keep_b5
    by_cases hf : f = 17
    · subst hf
      rw [if_pos (by decide)]
      exact ⟨fl, h3, rfl⟩
    have nx : nI f + 1 = nI (f + 1) := nI_add f 1
    rw [if_neg (show ¬ (17 : Int32) ≤ nI f from nI_ge (b := 17) (by omega) (by omega))]
    have up : ∀ b, (b = true ↔ (fl = true ∨ (C f = true ∧ nmM T f k = v))) → (b = true ↔ ∃ j, j < f + 1 ∧ C j = true ∧ nmM T j k = v) := fun b hb => by
      rw [hb, h3]
      constructor
      · rintro (⟨j, a1, a2⟩ | a)
        · exact ⟨j, by omega, a2⟩
        · exact ⟨f, by omega, a⟩
      · rintro ⟨j, a1, a2⟩
        by_cases q : j = f
        · rw [q] at a2; exact Or.inr a2
        · exact Or.inl ⟨j, by omega, a2⟩
    have l1 : 17 - (f + 1) < n := by omega
    have l2 : f + 1 ≤ 17 := by omega
    cases fl
    · rw [if_pos (by rfl), ix_in (j := f) (nI_pos (by omega)) (nI_clamp (by omega)) (by omega), hC f (by omega)]
      cases hc : C f
      · rw [if_pos (by rfl), nx]
        exact ih (f + 1) false l1 l2 (up false (by rw [hc]; simp))
      · rw [if_neg (by decide), show (7 : Int32) * nI f = nI (7 * f) from pk_mul 7 f, nI_add, ix_in (j := 7 * f + k) (nI_pos (by omega)) (nI_clamp (by omega)) (by omega), nx]
        by_cases q : gA T 138 (7 * f + k) = v
        · rw [if_pos q]
          exact ih (f + 1) true l1 l2 (up true ⟨fun _ => Or.inr ⟨hc, q⟩, fun _ => rfl⟩)
        · rw [if_neg q]
          exact ih (f + 1) false l1 l2 (up false ⟨fun e => (by cases e), fun e => e.elim id (fun e => absurd e.2 q)⟩)
    · rw [if_neg (by decide), nx]
      exact ih (f + 1) true l1 l2 (up true ⟨fun _ => Or.inl rfl, fun _ => rfl⟩)
theorem m_kp2 {v : Int32} {k : Nat} {C : Nat → Bool} {T0 : Mm} (hk : k < 7) : ∀ (n f : Nat) (T : Mm), 17 - f < n → f ≤ 17 → Fr nF a164 T0 T → (∀ j, j < 17 → gA T 164 j = cI (C j && (decide (f ≤ j) || decide (nmM T0 j k = v)))) → ∃ T', f_X12_keep_l57 n (nI k) v 1 (nI f) T = some ((), T') ∧ Fr nF a164 T0 T' ∧ CA T' (fun j => C j && decide (nmM T0 j k = v)) := by
  intro n
  induction n with
  | zero => intro f T h; omega
  | succ n ih =>
    intro f T h1 h2 h3 h4
    show ∃ T', f_X12_keep_b57 (f_X12_keep_l57 n) (nI k) v 1 (nI f) T = _ ∧ _
    unfold f_X12_keep_b57
    by_cases hf : f = 17
    · subst hf
      rw [if_pos (by decide)]
      exact ⟨T, rfl, h3, fun j hj => by rw [h4 j hj, decide_eq_false (by omega), Bool.false_or]⟩
    have nx : nI f + 1 = nI (f + 1) := nI_add f 1
    rw [if_neg (show ¬ (17 : Int32) ≤ nI f from nI_ge (b := 17) (by omega) (by omega)), if_neg (by decide), ix_in (j := f) (nI_pos (by omega)) (nI_clamp (by omega)) (by omega), h4 f (by omega), decide_eq_true (Nat.le_refl f), Bool.true_or, Bool.and_true]
    have go : ∀ b : Bool, b = (C f && decide (nmM T0 f k = v)) → ∃ T', f_X12_keep_l57 n (nI k) v 1 (nI (f + 1)) (uA T 164 f (cI b)) = some ((), T') ∧ Fr nF a164 T0 T' ∧ CA T' (fun j => C j && decide (nmM T0 j k = v)) := fun b hb => by
      refine ih (f + 1) _ (by omega) (by omega) (h3.uA _ _ rfl) (fun j hj => ?_)
      rw [gA_wr]
      by_cases q : j = f
      · rw [q, wr_s, hb, show decide (f + 1 ≤ f) = false from decide_eq_false (by omega), Bool.false_or]
      · rw [wr_o _ q, h4 j hj, show decide (f + 1 ≤ j) = decide (f ≤ j) from by rw [decide_eq_decide]; omega]
    cases hc : C f
    · rw [if_pos (by rfl), ix_in (j := f) (nI_pos (by omega)) (nI_clamp (by omega)) (by omega), lb_eq, nx]
      exact go false (by rw [hc]; rfl)
    · rw [if_neg (by decide), show (7 : Int32) * nI f = nI (7 * f) from pk_mul 7 f, nI_add, ix_in (j := 7 * f + k) (nI_pos (by omega)) (nI_clamp (by omega)) (by omega), nx, h3.a rfl]
      by_cases q : gA T0 138 (7 * f + k) = v
      · rw [if_pos q, ix_in (j := f) (nI_pos (by omega)) (nI_clamp (by omega)) (by omega), lb_eq]
        exact go true (by rw [hc, decide_eq_true (show nmM T0 f k = v from q)]; rfl)
      · rw [if_neg q, ix_in (j := f) (nI_pos (by omega)) (nI_clamp (by omega)) (by omega), lb_eq]
        exact go false (by rw [hc, decide_eq_false (show ¬ nmM T0 f k = v from q)]; rfl)
theorem m_keep {v : Int32} {k : Nat} {C : Nat → Bool} {T : Mm} (hC : CA T C) (hk : k < 7) : ∃ T', f_X12_keep (nI k) v T = some ((), T') ∧ Fr nF a164 T T' ∧ CA T' (fkeep C (fun f => decide (nmM T f k = v))) := by
  obtain ⟨fl, h1, h2⟩ := m_kp1 (v := v) hC hk FU 0 false (FU_gt (by omega)) (by omega) ⟨fun e => (by cases e), fun ⟨j, hj, _⟩ => (by omega)⟩
  have e1 : f_X12_keep (nI k) v T = f_X12_keep_l57 FU (nI k) v (cI fl) 0 T := h2
  rw [e1]
  cases fl
  · refine ⟨T, ?_, Fr.refl, fun f hf => ?_⟩
    · rw [show FU = 3999999999 + 1 from rfl]
      show f_X12_keep_b57 (f_X12_keep_l57 3999999999) (nI k) v 0 0 T = _
      unfold f_X12_keep_b57
      rw [if_neg (by decide), if_pos (by decide)]
    · rw [fkeep_n (fun j hj hc => ?_) f]
      · exact hC f hf
      · refine decide_eq_false (fun q => ?_)
        exact absurd (h1.mpr ⟨j, hj, hc, q⟩) (by decide)
  · obtain ⟨j, j1, j2, j3⟩ := h1.mp rfl
    obtain ⟨T', t1, t2, t3⟩ := m_kp2 (v := v) (C := C) (T0 := T) hk FU 0 T (FU_gt (by omega)) (by omega) Fr.refl (fun i hi => by rw [hC i hi, decide_eq_true (Nat.zero_le i), Bool.true_or, Bool.and_true])
    exact ⟨T', t1, t2, fun f hf => by rw [t3 f hf, fkeep_y ⟨j, j1, j2, decide_eq_true j3⟩]⟩
theorem m_far {a b : Int} {T : Mm} (h1 : -2147483648 ≤ a) (h2 : a < 2147483648) (h3 : -2147483648 ≤ b) (h4 : b < 2147483648) : f_X12_far (iz a) (iz b) T = some (jz (ffar a b), T) := by
  unfold f_X12_far ffar
  rw [iz_j h1 h2, iz_j h3 h4, jz_sub, lb_eq]
  by_cases q : a - b < 0
  · rw [if_neg (fun y => by rw [c_ge, show (0 : Int64) = jz 0 from rfl, jz_le (by omega) (by omega) (by omega) (by omega)] at y; omega), if_pos q, show (-2 : Int64) = jz (-2) from by decide, jz_mul, show (1 : Int64) = jz 1 from rfl, jz_add]
  · rw [if_pos (by rw [c_ge, show (0 : Int64) = jz 0 from rfl, jz_le (by omega) (by omega) (by omega) (by omega)]; omega), if_neg q, show (2 : Int64) = jz 2 from rfl, jz_mul]
theorem m_small {a b : Int} {T : Mm} (h1 : -9223372036854775808 ≤ a) (h2 : a < 9223372036854775808) (h3 : -9223372036854775808 ≤ b) (h4 : b < 9223372036854775808) : f_X12_smaller (jz a) (jz b) T = some (jz (if a < b then a else b), T) := by
  unfold f_X12_smaller
  by_cases q : a < b
  · rw [if_neg (fun y => by rw [c_ge, jz_le h3 h4 h1 h2] at y; omega), if_pos q]
  · rw [if_pos (by rw [c_ge, jz_le h3 h4 h1 h2]; omega), if_neg q]
def NBm (m : Mm) : Prop := ∀ j, j < 119 → -2000000 ≤ (gA m 138 j).toInt ∧ (gA m 138 j).toInt ≤ 2000000
theorem ffar_b {a b : Int} (h1 : -2000000 ≤ a) (h2 : a ≤ 2000000) (h3 : -2000000 ≤ b) (h4 : b ≤ 2000000) : 0 ≤ ffar a b ∧ ffar a b ≤ 16000000 := by unfold ffar; split <;> omega
theorem m_nr1 {wv : Int} {k : Nat} {C : Nat → Bool} {T : Mm} (hC : CA T C) (hk : k < 7) (nb : NBm T) (w1 : -2000000 ≤ wv) (w2 : wv ≤ 2000000) : ∀ (n f : Nat) (B : Int), 17 - f < n → f ≤ 17 → 0 ≤ B → B ≤ 9223372036854775807 → ((B = 9223372036854775807 ∧ ∀ j, j < f → C j = false) ∨ ((∃ j, j < f ∧ C j = true ∧ B = ffar (nmM T j k).toInt wv) ∧ ∀ j, j < f → C j = true → B ≤ ffar (nmM T j k).toInt wv)) → ∃ B' : Int, ((∀ j, j < 17 → C j = false) ∨ ((∃ j, j < 17 ∧ C j = true ∧ B' = ffar (nmM T j k).toInt wv) ∧ ∀ j, j < 17 → C j = true → B' ≤ ffar (nmM T j k).toInt wv)) ∧ f_X12_nearest_l7 n (nI k) (iz wv) (jz B) (nI f) T = f_X12_nearest_l54 FU (nI k) (iz wv) (jz B') 0 T := by
  intro n
  induction n with
  | zero => intro f B h; omega
  | succ n ih =>
    intro f B h1 h2 b1 b2 h3
    show ∃ B', _ ∧ f_X12_nearest_b7 (f_X12_nearest_l7 n) (nI k) (iz wv) (jz B) (nI f) T = _
    unfold f_X12_nearest_b7
    by_cases hf : f = 17
    · subst hf
      rw [if_pos (by decide)]
      refine ⟨B, ?_, rfl⟩
      rcases h3 with ⟨_, a⟩ | a
      · exact Or.inl a
      · exact Or.inr a
    have nx : nI f + 1 = nI (f + 1) := nI_add f 1
    rw [if_neg (show ¬ (17 : Int32) ≤ nI f from nI_ge (b := 17) (by omega) (by omega)), ix_in (j := f) (nI_pos (by omega)) (nI_clamp (by omega)) (by omega), hC f (by omega)]
    cases hc : C f
    · rw [if_pos (by rfl), nx]
      refine ih (f + 1) B (by omega) (by omega) b1 b2 ?_
      rcases h3 with ⟨a1, a2⟩ | ⟨⟨j, a1, a2, a3⟩, a4⟩
      · refine Or.inl ⟨a1, fun j hj => ?_⟩
        by_cases q : j = f
        · rw [q]; exact hc
        · exact a2 j (by omega)
      · refine Or.inr ⟨⟨j, by omega, a2, a3⟩, fun i hi hci => ?_⟩
        by_cases q : i = f
        · rw [q, hc] at hci; cases hci
        · exact a4 i (by omega) hci
    · have n1 := nb (7 * f + k) (by omega)
      have fb := ffar_b n1.1 n1.2 w1 w2
      rw [if_neg (by decide), show (7 : Int32) * nI f = nI (7 * f) from pk_mul 7 f, nI_add, ix_in (j := 7 * f + k) (nI_pos (by omega)) (nI_clamp (by omega)) (by omega), iz_of (gA T 138 (7 * f + k)), m_far (by omega) (by omega) (by omega) (by omega), bd_eq, m_small (by omega) (by omega) (by omega) (by omega), bd_eq, nx]
      refine ih (f + 1) _ (by omega) (by omega) (by split <;> omega) (by split <;> omega) (Or.inr ?_)
      have en : (nmM T f k) = gA T 138 (7 * f + k) := rfl
      by_cases q : B < ffar (gA T 138 (7 * f + k)).toInt wv
      · rw [if_pos q]
        rcases h3 with ⟨a1, a2⟩ | ⟨⟨j, a1, a2, a3⟩, a4⟩
        · omega
        · refine ⟨⟨j, by omega, a2, a3⟩, fun i hi hci => ?_⟩
          by_cases z : i = f
          · rw [z, en]; omega
          · exact a4 i (by omega) hci
      · rw [if_neg q]
        refine ⟨⟨f, by omega, hc, rfl⟩, fun i hi hci => ?_⟩
        by_cases z : i = f
        · rw [z, en]; exact Int.le_refl _
        · rcases h3 with ⟨a1, a2⟩ | ⟨_, a4⟩
          · rw [a2 i (by omega)] at hci; cases hci
          · have := a4 i (by omega) hci; omega
theorem m_nr2 {wv B : Int} {k : Nat} {C : Nat → Bool} {T0 : Mm} (hk : k < 7) (nb : NBm T0) (w1 : -2000000 ≤ wv) (w2 : wv ≤ 2000000) (b1 : 0 ≤ B) (b2 : B ≤ 9223372036854775807) : ∀ (n f : Nat) (T : Mm), 17 - f < n → f ≤ 17 → Fr nF a164 T0 T → (∀ j, j < 17 → gA T 164 j = cI (C j && (decide (f ≤ j) || decide (ffar (nmM T0 j k).toInt wv = B)))) → ∃ T', f_X12_nearest_l54 n (nI k) (iz wv) (jz B) (nI f) T = some ((), T') ∧ Fr nF a164 T0 T' ∧ CA T' (fun j => C j && decide (ffar (nmM T0 j k).toInt wv = B)) := by
  intro n
  induction n with
  | zero => intro f T h; omega
  | succ n ih =>
    intro f T h1 h2 h3 h4
    show ∃ T', f_X12_nearest_b54 (f_X12_nearest_l54 n) (nI k) (iz wv) (jz B) (nI f) T = _ ∧ _
    unfold f_X12_nearest_b54
    by_cases hf : f = 17
    · subst hf
      rw [if_pos (by decide)]
      exact ⟨T, rfl, h3, fun j hj => by rw [h4 j hj, decide_eq_false (by omega), Bool.false_or]⟩
    have nx : nI f + 1 = nI (f + 1) := nI_add f 1
    rw [if_neg (show ¬ (17 : Int32) ≤ nI f from nI_ge (b := 17) (by omega) (by omega)), ix_in (j := f) (nI_pos (by omega)) (nI_clamp (by omega)) (by omega), h4 f (by omega), decide_eq_true (Nat.le_refl f), Bool.true_or, Bool.and_true]
    have go : ∀ b : Bool, b = (C f && decide (ffar (nmM T0 f k).toInt wv = B)) → ∃ T', f_X12_nearest_l54 n (nI k) (iz wv) (jz B) (nI (f + 1)) (uA T 164 f (cI b)) = some ((), T') ∧ Fr nF a164 T0 T' ∧ CA T' (fun j => C j && decide (ffar (nmM T0 j k).toInt wv = B)) := fun b hb => by
      refine ih (f + 1) _ (by omega) (by omega) (h3.uA _ _ rfl) (fun j hj => ?_)
      rw [gA_wr]
      by_cases q : j = f
      · rw [q, wr_s, hb, show decide (f + 1 ≤ f) = false from decide_eq_false (by omega), Bool.false_or]
      · rw [wr_o _ q, h4 j hj, show decide (f + 1 ≤ j) = decide (f ≤ j) from by rw [decide_eq_decide]; omega]
    cases hc : C f
    · rw [if_pos (by rfl), ix_in (j := f) (nI_pos (by omega)) (nI_clamp (by omega)) (by omega), lb_eq, nx]
      exact go false (by rw [hc]; rfl)
    · have n1 := nb (7 * f + k) (by omega)
      have fb := ffar_b n1.1 n1.2 w1 w2
      rw [if_neg (by decide), show (7 : Int32) * nI f = nI (7 * f) from pk_mul 7 f, nI_add, ix_in (j := 7 * f + k) (nI_pos (by omega)) (nI_clamp (by omega)) (by omega), nx, h3.a rfl, iz_of (gA T0 138 (7 * f + k)), m_far (by omega) (by omega) (by omega) (by omega), bd_eq]
      by_cases q : ffar (gA T0 138 (7 * f + k)).toInt wv = B
      · rw [if_pos (c_eq.mpr (by rw [q])), ix_in (j := f) (nI_pos (by omega)) (nI_clamp (by omega)) (by omega), lb_eq]
        exact go true (by rw [hc, decide_eq_true (show ffar (nmM T0 f k).toInt wv = B from q)]; rfl)
      · rw [if_neg (fun y => q ((jz_inj (by omega) (by omega) (by omega) (by omega)).mp (c_eq.mp y))), ix_in (j := f) (nI_pos (by omega)) (nI_clamp (by omega)) (by omega), lb_eq]
        exact go false (by rw [hc, decide_eq_false (show ¬ ffar (nmM T0 f k).toInt wv = B from q)]; rfl)
theorem m_nearest {wv : Int} {k : Nat} {C : Nat → Bool} {T : Mm} (hC : CA T C) (hk : k < 7) (nb : NBm T) (w1 : -2000000 ≤ wv) (w2 : wv ≤ 2000000) (ne : NE C) : ∃ T', f_X12_nearest (nI k) (iz wv) T = some ((), T') ∧ Fr nF a164 T T' ∧ CA T' (fnear C (fun f => (nmM T f k).toInt) wv) := by
  obtain ⟨B, h1, h2⟩ := m_nr1 hC hk nb w1 w2 FU 0 9223372036854775807 (FU_gt (by omega)) (by omega) (by omega) (by omega) (Or.inl ⟨rfl, fun j hj => by omega⟩)
  have e1 : f_X12_nearest (nI k) (iz wv) T = f_X12_nearest_l54 FU (nI k) (iz wv) (jz B) 0 T := h2
  rw [e1]
  obtain ⟨j0, n1, n2⟩ := ne
  rcases h1 with h1 | ⟨⟨j, a1, a2, a3⟩, a4⟩
  · rw [h1 j0 n1] at n2; cases n2
  · have n9 := nb (7 * j + k) (by omega)
    have fb := ffar_b n9.1 n9.2 w1 w2
    have eB : ffar (nmM T j k).toInt wv = ffar (gA T 138 (7 * j + k)).toInt wv := rfl
    obtain ⟨T', t1, t2, t3⟩ := m_nr2 (C := C) (B := B) (T0 := T) hk nb w1 w2 (by omega) (by omega) FU 0 T (FU_gt (by omega)) (by omega) Fr.refl (fun i hi => by rw [hC i hi, decide_eq_true (Nat.zero_le i), Bool.true_or, Bool.and_true])
    refine ⟨T', t1, t2, fun f hf => ?_⟩
    rw [t3 f hf]
    congr 1
    rw [Bool.eq_iff_iff, fnear_t, Bool.and_eq_true, decide_eq_true_eq]
    constructor
    · rintro ⟨x, y⟩
      exact ⟨x, fun i hi hci => by rw [y]; exact a4 i hi hci⟩
    · rintro ⟨x, y⟩
      refine ⟨x, Int.le_antisymm ?_ (a4 f hf x)⟩
      rw [a3]; exact y j a1 a2
theorem m_first {C : Nat → Bool} {T : Mm} (hC : CA T C) {r : Nat} (r1 : r < 17) (r2 : C r = true) (r3 : ∀ j, j < r → C j = false) : ∀ (n f : Nat), r - f < n → f ≤ r → f_X12_fontInUse_l131 n (nI f) T = some (nI r, T) := by
  intro n
  induction n with
  | zero => intro f h; omega
  | succ n ih =>
    intro f h1 h2
    show f_X12_fontInUse_b131 (f_X12_fontInUse_l131 n) (nI f) T = _
    unfold f_X12_fontInUse_b131
    rw [ix_in (j := f) (nI_pos (by omega)) (nI_clamp (by omega)) (by omega), hC f (by omega)]
    by_cases q : f = r
    · rw [q, r2, if_neg (by decide)]
    · rw [r3 f (by omega), if_pos (by rfl), show nI f + 1 = nI (f + 1) from nI_add f 1]
      exact ih (f + 1) (by omega) (by omega)
/-- the wishes of the reference's font in use -/
def wM (m : Mm) : Nat → Int32 := fun k => gA m 134 (12 + 8 * (gA m 134 28).toNatClampNeg + k)
theorem m_wish {s k : Nat} (hs : gA m 134 28 = nI s) (hs1 : s ≤ 1) (hk : k < 8) : f_X12_wish (nI k) m = some (wM m k, m) := by
  unfold f_X12_wish wM
  rw [hs, nI_clamp (by omega), show (8 : Int32) * nI s = nI (8 * s) from pk_mul 8 s, show (12 : Int32) + nI (8 * s) = nI (12 + 8 * s) from nI_add 12 _, nI_add, ix_in (j := 12 + 8 * s + k) (nI_pos (by omega)) (nI_clamp (by omega)) (by omega)]
theorem m_cand : ∀ (n f : Nat) (T : Mm), 17 - f < n → f ≤ 17 → Fr nF a164 m T → (∀ j, j < 17 → gA m 136 j = 0 ∨ gA m 136 j = 1) → (∀ j, j < f → gA T 164 j = gA m 136 j) → ∃ T', Fr nF a164 m T' ∧ CA T' (thM m) ∧ f_X12_fontInUse_l25 n (nI f) T = f_X12_fontInUse_b25 (fun _ _ => none) (nI 17) T' := by
  intro n
  induction n with
  | zero => intro f T h; omega
  | succ n ih =>
    intro f T h1 h2 h3 hb h4
    show ∃ T', _ ∧ _ ∧ f_X12_fontInUse_b25 (f_X12_fontInUse_l25 n) (nI f) T = _
    by_cases hf : f = 17
    · subst hf
      refine ⟨T, h3, fun j hj => ?_, ?_⟩
      · rw [h4 j hj]
        unfold thM
        rcases hb j hj with e | e
        · rw [e]; rfl
        · rw [e]; rfl
      · unfold f_X12_fontInUse_b25
        rw [if_pos (by decide), if_pos (by decide)]
    · have e0 : f_X12_fontInUse_b25 (f_X12_fontInUse_l25 n) (nI f) T = f_X12_fontInUse_l25 n (nI (f + 1)) (uA T 164 f (gA m 136 f)) := by
        unfold f_X12_fontInUse_b25
        rw [if_neg (show ¬ (17 : Int32) ≤ nI f from nI_ge (b := 17) (by omega) (by omega)), ix_in (j := f) (nI_pos (by omega)) (nI_clamp (by omega)) (by omega), h3.a rfl, gd_eq (hb f (by omega)), ix_in (j := f) (nI_pos (by omega)) (nI_clamp (by omega)) (by omega), lb_eq, show nI f + 1 = nI (f + 1) from nI_add f 1]
      rw [e0]
      refine ih (f + 1) _ (by omega) (by omega) (h3.uA _ _ rfl) hb (fun j hj => ?_)
      rw [gA_wr]
      by_cases q : j = f
      · rw [q, wr_s]
      · rw [wr_o _ q]; exact h4 j (by omega)
theorem m_fiu {s : Nat} (hs : gA m 134 28 = nI s) (hs1 : s ≤ 1) (nb : NBm m) (wb : WB8 (wM m)) (hb : ∀ j, j < 17 → gA m 136 j = 0 ∨ gA m 136 j = 1) (h16 : gA m 136 16 = 1) : ∃ m', f_X12_fontInUse m = some (nI (fiu (thM m) (nmM m) (wM m)), m') ∧ Fr nF a164 m m' := by
  have cho : ∃ m', f_X12_fontInUse_l25 FU 0 m = some (nI (fcho (thM m) (nmM m) (wM m)), m') ∧ Fr nF a164 m m' := by
    obtain ⟨T0, f0, c0, e0⟩ := m_cand FU 0 m (FU_gt (by omega)) (by omega) Fr.refl hb (fun j hj => by omega)
    have e0' : f_X12_fontInUse_l25 FU 0 m = f_X12_fontInUse_b25 (fun _ _ => none) (nI 17) T0 := e0
    rw [e0']
    have W : ∀ {T : Mm}, Fr nF a164 m T → ∀ k, k < 8 → f_X12_wish (nI k) T = some (wM m k, T) := fun {T} f k hk => by
      have := m_wish (m := T) (s := s) (by rw [f.a rfl]; exact hs) hs1 hk
      rw [this]
      unfold wM
      rw [f.a rfl]
    have N : ∀ {T : Mm}, Fr nF a164 m T → nmM T = nmM m := fun {T} f => by unfold nmM; rw [f.a rfl]
    have NBt : ∀ {T : Mm}, Fr nF a164 m T → NBm T := fun {T} f => by unfold NBm; rw [f.a rfl]; exact nb
    have wz : ∀ k, k < 7 → ∃ z : Int, wM m k = iz z ∧ (wM m k).toInt = z ∧ -2000000 ≤ z ∧ z ≤ 2000000 := fun k hk => by
      obtain ⟨z, a1, a2, a3⟩ := iz_lh (wb.1 k hk)
      exact ⟨z, a1, by rw [a1, iz_int (by omega) (by omega)], a2, a3⟩
    obtain ⟨z1, y1, y1', y2, y3⟩ := wz 1 (by omega)
    obtain ⟨z2, u1, u1', u2, u3⟩ := wz 2 (by omega)
    obtain ⟨z4, t1, t1', t2, t3⟩ := wz 4 (by omega)
    have ne : NE (thM m) := ⟨16, by omega, by unfold thM; rw [h16]; rfl⟩
    unfold f_X12_fontInUse_b25
    rw [if_pos (by decide), show (6 : Int32) = nI 6 from rfl, show (0 : Int32) = nI 0 from rfl, show (1 : Int32) = nI 1 from rfl, W f0 6 (by omega), bd_eq]
    obtain ⟨T1, e1, f1, c1⟩ := m_keep (v := wM m 6) (k := 6) c0 (by omega)
    rw [N f0] at c1
    have F1 := f0.trans f1
    rw [e1, bd_eq, W F1 0 (by omega), bd_eq]
    obtain ⟨T2, e2, f2, c2⟩ := m_keep (v := wM m 0) (k := 0) c1 (by omega)
    rw [N F1] at c2
    have F2 := F1.trans f2
    rw [e2, bd_eq, W F2 0 (by omega), bd_eq]
    have ne2 := (ne.keep (P := fun f => decide (nmM m f 6 = wM m 6))).keep (P := fun f => decide (nmM m f 0 = wM m 0))
    have rest : ∀ (T : Mm) (C : Nat → Bool), Fr nF a164 m T → CA T C → NE C → ∃ m', f_X12_fontInUse_89 T = some (nI (ffirst (fkeep (fnear (fkeep (fnear C (fun f => (nmM m f 2).toInt) (wM m 2).toInt) (fun f => decide (nmM m f 3 = wM m 3))) (fun f => (nmM m f 4).toInt) (wM m 4).toInt) (fun f => decide (nmM m f 5 = wM m 5)))), m') ∧ Fr nF a164 m m' := by
      intro T C F hC hne
      unfold f_X12_fontInUse_89
      rw [show (2 : Int32) = nI 2 from rfl, show (3 : Int32) = nI 3 from rfl, show (4 : Int32) = nI 4 from rfl, show (5 : Int32) = nI 5 from rfl, W F 2 (by omega), bd_eq]
      obtain ⟨T3, e3, f3, c3⟩ := m_nearest (wv := z2) (k := 2) hC (by omega) (NBt F) u2 u3 hne
      rw [N F] at c3
      have F3 := F.trans f3
      rw [u1, e3, bd_eq, W F3 3 (by omega), bd_eq]
      obtain ⟨T4, e4, f4, c4⟩ := m_keep (v := wM m 3) (k := 3) c3 (by omega)
      rw [N F3] at c4
      have F4 := F3.trans f4
      rw [e4, bd_eq, W F4 4 (by omega), bd_eq, t1]
      have ne4 := (hne.near (n := fun f => (nmM m f 2).toInt) (v := z2)).keep (P := fun f => decide (nmM m f 3 = wM m 3))
      obtain ⟨T5, e5, f5, c5⟩ := m_nearest (wv := z4) (k := 4) c4 (by omega) (NBt F4) t2 t3 ne4
      rw [N F4] at c5
      have F5 := F4.trans f5
      rw [e5, bd_eq, W F5 5 (by omega), bd_eq]
      obtain ⟨T6, e6, f6, c6⟩ := m_keep (v := wM m 5) (k := 5) c5 (by omega)
      rw [N F5] at c6
      have F6 := F5.trans f6
      rw [e6, bd_eq]
      have ne6 := (ne4.near (n := fun f => (nmM m f 4).toInt) (v := z4)).keep (P := fun f => decide (nmM m f 5 = wM m 5))
      obtain ⟨r, r1, r2, r3, r4⟩ := ne6.least
      refine ⟨T6, ?_, F6⟩
      have := m_first c6 r1 r2 r3 FU 0 (FU_gt (by omega)) (by omega)
      rw [← u1, ← t1, u1', t1', r4]
      exact this
    unfold fcho
    by_cases q : wM m 0 = 0
    · rw [if_pos (show wM m 0 = nI 0 from q), W F2 1 (by omega), bd_eq, y1]
      obtain ⟨T3, e3, f3, c3⟩ := m_nearest (wv := z1) (k := 1) c2 (by omega) (NBt F2) y2 y3 ne2
      rw [N F2] at c3
      rw [e3, bd_eq]
      obtain ⟨m', g1, g2⟩ := rest T3 _ (F2.trans f3) c3 ne2.near
      refine ⟨m', ?_, g2⟩
      rw [g1]
      simp only []
      rw [if_pos q, iz_int (by omega) (by omega)]
    · rw [if_neg (show ¬ wM m 0 = nI 0 from q)]
      obtain ⟨m', g1, g2⟩ := rest T2 _ F2 c2 ne2
      refine ⟨m', ?_, g2⟩
      rw [g1]
      simp only []
      rw [if_neg q]
  unfold f_X12_fontInUse fiu
  rw [show (7 : Int32) = nI 7 from rfl, m_wish hs hs1 (by omega), bd_eq]
  by_cases q : wM m 7 = -1
  · rw [if_pos q, if_neg (fun z => z.1 q)]; exact cho
  · obtain ⟨z, z1, z2, z3⟩ := iz_lh ⟨wb.2.1, wb.2.2⟩
    have zn : ¬ z = -1 := fun e => q (by rw [z1, e]; decide)
    obtain ⟨u, rfl⟩ : ∃ u : Nat, z = (u : Int) := ⟨z.toNat, by omega⟩
    rw [← nI_iz] at z1
    rw [if_neg q, z1, ix_in (j := u) (nI_pos (by omega)) (nI_clamp (by omega)) (by omega), nI_clamp (by omega)]
    rw [z1] at q
    rcases hb u (by omega) with e | e
    · rw [if_pos e, if_neg (fun z => by
        have := z.2
        unfold thM at this
        rw [e] at this; cases this)]
      exact cho
    · rw [if_neg (by rw [e]; decide), if_pos ⟨q, by unfold thM; rw [e]; rfl⟩]
      exact ⟨m, rfl, Fr.refl⟩
end A4
