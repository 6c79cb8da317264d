/-! One row of a picture in the code, read on both sides. -/
theorem n_b1 {m : Mm} {w fr a : Nat} {B : Nat → Bool} {col first : Bool} (h : gI m 1260 133 = nI w) (hB0 : ∀ k, k < w → gA m 167 k = cI (B k)) (hw : w ≤ 640) (h1 : gI m 1261 133 = nI a) (h2 : gI m 1262 133 = cI first) (h3 : gI m 1263 133 = cI col) (hf : fr = if first then 0 else a + 1) (hfr : fr ≤ w + 1) : f_X12_b1 m = some (nI (fch B col fr w), m) := by
  have go : ∀ (n k : Nat), k ≤ w + 1 → w + 1 - k < n → f_X12_b1_l18 n (nI k) m = some (nI (fch B col k w), m) := by
    intro n
    induction n with
    | zero => intro k _ h; omega
    | succ n ih =>
      intro k hk hn
      show f_X12_b1_b18 (f_X12_b1_l18 n) _ _ = _
      unfold f_X12_b1_b18
      rw [h]
      rcases Nat.lt_or_ge k w with hlt | hge
      · rw [if_neg (nI_ge hlt (by omega))]
        have tail : ∀ b : Bool, b = lf B k → f_X12_b1_42 (f_X12_b1_l18 n) (nI k) (cI b) m = some (nI (fch B col k w), m) := by
          intro b hb
          unfold f_X12_b1_42
          rw [ix_in (j := k) (nI_pos (by omega)) (nI_clamp (by omega)) (by omega), hB0 k hlt, h3, fch_step hlt, ← hb]
          by_cases q1 : B k = col
          · rw [if_pos (by rw [q1]), if_neg (fun q => q.1 q1), nI_1, ih (k + 1) (by omega) (by omega)]
          · rw [if_neg (fun q => q1 (cI_inj.mp q))]
            by_cases q2 : b = col
            · rw [if_pos (by rw [q2]), if_pos ⟨q1, q2⟩]
            · rw [if_neg (fun q => q2 (cI_inj.mp q)), if_neg (fun q => q2 q.2), nI_1, ih (k + 1) (by omega) (by omega)]
        by_cases h0 : k = 0
        · subst h0
          rw [if_pos nI_0]
          exact tail false rfl
        · rw [if_neg (nI_ne0 (by omega) (by omega)), show nI k - 1 = nI (k - 1) from pk_sub (b := 1) (by omega), ix_in (j := k - 1) (nI_pos (by omega)) (nI_clamp (by omega)) (by omega), hB0 (k - 1) (by omega)]
          exact tail _ (by unfold lf; rw [if_neg h0])
      · rw [if_pos (nI_le hge (by omega)), fch_out hge]
  unfold f_X12_b1
  rw [h2]
  cases first
  · rw [if_pos (by decide), h1, nI_1, lb_eq, hf]
    exact go FU (a + 1) (by simp at hf; omega) (FU_gt (by omega))
  · rw [if_neg (by decide), hf]
    exact go FU 0 (by omega) (FU_gt (by omega))
theorem n_b2 {m : Mm} {w b : Nat} {B : Nat → Bool} {col : Bool} (h : gI m 1260 133 = nI w) (hB0 : ∀ k, k < w → gA m 167 k = cI (B k)) (hw : w ≤ 640) (hb : b ≤ w) (hB : b < w → B b = !col) : f_X12_b2 (nI b) m = some (nI (fo B b w (!col)), m) := by
  unfold f_X12_b2
  rw [nI_1, lb_eq]
  have hend : ∀ k, k ≤ w + 1 → (b < w → fo B b w (!col) = k) → f_X12_b2_33 (nI b) (nI k) m = some (nI (fo B b w (!col)), m) := by
    intro k _ hk
    unfold f_X12_b2_33
    rw [h]
    rcases Nat.lt_or_ge b w with hlt | hge
    · rw [if_pos (nI_lt hlt (by omega)), hk hlt]
    · rw [if_neg (nI_nlt hge (by omega)), fo_out hge]
  have go : ∀ (n k : Nat), b < k → (b < w → k ≤ w) → k ≤ w + 1 → w + 1 - k < n → (b < w → fo B b w (!col) = fo B k w (!col)) → f_X12_b2_l4 n (nI b) (nI k) m = some (nI (fo B b w (!col)), m) := by
    intro n
    induction n with
    | zero => intro k _ _ _ h; omega
    | succ n ih =>
      intro k hk1 hk3 hk hn he
      show f_X12_b2_b4 (f_X12_b2_l4 n) _ _ _ = _
      unfold f_X12_b2_b4
      rw [h]
      rcases Nat.lt_or_ge k w with hlt | hge
      · rw [if_neg (nI_ge hlt (by omega)), ix_in (j := k) (nI_pos (by omega)) (nI_clamp (by omega)) (by omega), ix_in (j := b) (nI_pos (by omega)) (nI_clamp (by omega)) (by omega), hB0 k hlt, hB0 b (by omega), hB (by omega)]
        by_cases e : B k = !col
        · rw [if_pos (by rw [e]), nI_1]
          exact ih (k + 1) (by omega) (by omega) (by omega) (by omega) (fun q => by rw [he q, fo_skip hlt e])
        · rw [if_neg (fun q => e (cI_inj.mp q))]
          exact hend k (by omega) (fun q => by rw [he q, fo_here hlt e])
      · rw [if_pos (nI_le hge (by omega))]
        unfold f_X12_b2_33
        rw [h]
        rcases Nat.lt_or_ge b w with hlt | hge2
        · have : fo B b w (!col) = w := by rw [he hlt, fo_out hge]
          rw [if_pos (nI_lt hlt (by omega)), this]
          have := hk3 hlt
          congr 3
          omega
        · rw [if_neg (nI_nlt hge2 (by omega)), fo_out hge2]
  exact go FU (b + 1) (by omega) (by omega) (by omega) (FU_gt (by omega)) (fun q => fo_skip q (hB q))
theorem fo_congr {P Q : Nat → Bool} {fr w : Nat} {c : Bool} (hfr : fr ≤ w) (h : ∀ x, x < w → P x = Q x) : fo P fr w c = fo Q fr w c := by
  refine fo_is (fo_ge hfr) fo_le (fun j h1 h2 => ?_) (fun h1 => ?_)
  · rw [h j (Nat.lt_of_lt_of_le h2 fo_le)]; exact fo_eq h1 h2
  · rw [h _ h1]; exact fo_ne h1
theorem fch_ge {B : Nat → Bool} {col : Bool} {k w : Nat} (h : k ≤ w) : k ≤ fch B col k w := by
  rw [fch_lf]
  split
  · exact fo_ge h
  · exact Nat.le_trans (fo_ge h) (fo_ge fo_le)
theorem fch_congr {P Q : Nat → Bool} {col : Bool} {k w : Nat} (hk : k ≤ w) (h : ∀ x, x < w → P x = Q x) : fch P col k w = fch Q col k w := by
  rw [fch_lf, fch_lf]
  have e : lf P k = lf Q k := by
    unfold lf
    by_cases z : k = 0
    · rw [if_pos z, if_pos z]
    · rw [if_neg z, if_neg z, h _ (by omega)]
  rw [e]
  split
  · exact fo_congr hk h
  · rw [fo_congr hk h (c := !col)]; exact fo_congr fo_le h
theorem fch_col {B : Nat → Bool} {col : Bool} {k w : Nat} (h : fch B col k w < w) : B (fch B col k w) = !col := by
  have : B (fch B col k w) ≠ col := by rw [fch_lf] at h ⊢; exact fo_ne h
  exact bne this
def mPtF (f i : Nat) : Bool := i == 133 && f == 1261
theorem m_paint {a0 t : Nat} {b : Bool} (h1 : a0 ≤ t) (h2 : t ≤ 640) : ∀ n m, t - a0 < n → gI m 1261 133 = nI a0 → ∃ m', f_X12_paint_l0 n (nI t) (cI b) m = some ((), m') ∧ gI m' 1261 133 = nI t ∧ (∀ x, gA m' 168 x = if a0 ≤ x ∧ x < t then cI b else gA m 168 x) ∧ Fr mPtF (fun a => a == 168) m m' := by
  intro n
  induction n generalizing a0 with
  | zero => intro m h; omega
  | succ n ih =>
    intro m hn he
    have ev : f_X12_paint_l0 (n + 1) (nI t) (cI b) m = f_X12_paint_b0 (f_X12_paint_l0 n) (nI t) (cI b) m := rfl
    rw [ev]
    unfold f_X12_paint_b0
    rw [he]
    rcases Nat.lt_or_ge a0 t with hlt | hge
    · rw [if_neg (nI_ge hlt (by omega)), ix_in (j := a0) (nI_pos (by omega)) (nI_clamp (by omega)) (by omega), lb_eq, lb_eq]
      have e1 : gI (uA m 168 a0 (cI b)) 1261 133 = nI a0 := he
      rw [e1, nI_1]
      obtain ⟨m', r1, r2, r3, r4⟩ := ih (a0 := a0 + 1) (by omega) (uI (uA m 168 a0 (cI b)) 1261 133 (nI (a0 + 1))) (by omega) (by rw [gI_uI, if_pos ⟨rfl, rfl⟩])
      refine ⟨m', r1, r2, fun x => ?_, ((Fr.refl.uA a0 (cI b) (by rfl)).uI _ (by rfl)).trans r4⟩
      rw [r3 x]
      show (if a0 + 1 ≤ x ∧ x < t then cI b else gA (uA m 168 a0 (cI b)) 168 x) = _
      rw [gA_uA]
      by_cases q : x = a0
      · subst q
        rw [if_neg (by omega), if_pos ⟨rfl, rfl⟩, if_pos (by omega)]
      · rw [if_neg (show ¬ ((168 : Nat) = 168 ∧ x = a0) from fun z => q z.2)]
        by_cases q2 : a0 + 1 ≤ x ∧ x < t
        · rw [if_pos q2, if_pos (by omega)]
        · rw [if_neg q2, if_neg (by omega)]
    · have : a0 = t := by omega
      subst this
      rw [if_pos (nI_le (Nat.le_refl _) (by omega))]
      exact ⟨m, rfl, he, fun x => by rw [if_neg (by omega)], Fr.refl⟩
theorem n_paint {a0 t : Nat} {b : Bool} {m : Mm} (h1 : a0 ≤ t) (h2 : t ≤ 640) (he : gI m 1261 133 = nI a0) : ∃ m', f_X12_paint (nI t) (cI b) m = some ((), m') ∧ gI m' 1261 133 = nI t ∧ (∀ x, gA m' 168 x = if a0 ≤ x ∧ x < t then cI b else gA m 168 x) ∧ Fr mPtF (fun a => a == 168) m m' := m_paint h1 h2 FU m (FU_gt (by omega)) he
/-- the class paints a step of the code -/
theorem c_181 {a rw w a0 t1 t2 : Nat} {col : Bool} {c : Mm} {ra k v5 : Int32} (hN : LN a = 16000) (hrw : rw + 20 ≤ 16000) (hw : w ≤ 640) (h1 : a0 ≤ t1) (h2 : t1 ≤ t2) (h3 : t2 ≤ w) (k16 : Nat → Int32 → Int32 → Int32 → Int32 → Int32 → Int32 → Mm → Option (Int32 × Mm)) : ∃ g, f_X3_readRow_181 k16 a (nI rw) ra (nI w) (nI t2) (cI col) k (nI a0) v5 (nI t1) c = k16 a (nI rw) ra (nI w) (nI t2) (cI (if 3 < v5 then col else !col)) (k + 1) (vA c a g) ∧ (∀ x, dotW g rw x = (dotW (gA c a) rw x || (if a0 ≤ x ∧ x < t1 then col else if t1 ≤ x ∧ x < t2 then !col else false))) ∧ ∀ j, (j < rw ∨ rw + 20 ≤ j) → g j = gA c a j := by
  have t208 : ∀ T, f_X3_readRow_208 k16 a (nI rw) ra (nI w) (nI t2) (cI col) k v5 T = k16 a (nI rw) ra (nI w) (nI t2) (cI (if 3 < v5 then col else !col)) (k + 1) T := by
    intro T
    unfold f_X3_readRow_208
    by_cases z : 3 < v5
    · rw [if_pos z, if_pos z]
    · rw [if_neg z, if_neg z, lb_eq, one_cI]
  have dd : ∀ (s t x : Nat), (decide (s ≤ x) && decide (x < t)) = decide (s ≤ x ∧ x < t) := fun s t x => (Bool.decide_and _ _).symm
  unfold f_X3_readRow_181
  cases col
  · obtain ⟨g, e, r1, r2⟩ := c_black (a := a) (rw := rw) (fr := t1) (t := t2) (T := c) (fun x hx => by omega) (by omega) (by omega) (by omega)
    rw [if_neg (by decide), e, bd_eq, t208]
    refine ⟨g, rfl, fun x => ?_, fun j hj => r2 j (hj.imp id (fun h x hx => by omega))⟩
    rw [r1 x, dd]
    congr 1
    by_cases q : a0 ≤ x ∧ x < t1
    · rw [if_pos q, decide_eq_false (by omega)]
    · rw [if_neg q]
      by_cases q2 : t1 ≤ x ∧ x < t2
      · rw [if_pos q2, decide_eq_true q2]; rfl
      · rw [if_neg q2, decide_eq_false q2]
  · obtain ⟨g, e, r1, r2⟩ := c_black (a := a) (rw := rw) (fr := a0) (t := t1) (T := c) (fun x hx => by omega) (by omega) (by omega) (by omega)
    rw [if_pos (by decide), e, bd_eq, t208]
    refine ⟨g, rfl, fun x => ?_, fun j hj => r2 j (hj.imp id (fun h x hx => by omega))⟩
    rw [r1 x, dd]
    congr 1
    by_cases q : a0 ≤ x ∧ x < t1
    · rw [if_pos q, decide_eq_true q]
    · rw [if_neg q, decide_eq_false q]
      by_cases q2 : t1 ≤ x ∧ x < t2
      · rw [if_pos q2]; rfl
      · rw [if_neg q2]
