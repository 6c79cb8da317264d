/-! The code's modes, on both sides. -/
def ml (v : Nat) : Nat := if 64 ≤ v then 1 else if 16 ≤ v then 3 else if 8 ≤ v then 4 else if 4 ≤ v then 6 else 7
def mcode (v : Nat) : Int := if 64 ≤ v then 0 else if 48 ≤ v then 1 else if 32 ≤ v then -1 else if 16 ≤ v then 9 else if 8 ≤ v then 8 else if 6 ≤ v then 2 else if 4 ≤ v then -2 else if v = 3 then 3 else if v = 2 then -3 else 10
def mmode (v : Nat) : Int := if mcode v = 9 then 5 else if mcode v = 8 then 4 else mcode v
theorem ml_tab : ∀ v, v < 128 → (v / 8 = 1 → ml v = 4 ∧ mcode v = 8) ∧ (v / 16 = 1 → ml v = 3 ∧ mcode v = 9) ∧ (v / 2 = 2 → ml v = 6 ∧ mcode v = -2) ∧ (v / 16 = 2 → ml v = 3 ∧ mcode v = -1) ∧ (v / 64 = 1 → ml v = 1 ∧ mcode v = 0) ∧ (v / 16 = 3 → ml v = 3 ∧ mcode v = 1) ∧ (v / 2 = 3 → ml v = 6 ∧ mcode v = 2) := by decide +kernel
theorem near_step {c : Mm} {v i nb' nc n q : Nat} {nbs : Nat} {bs : Nat → Bool} (h : StC c nbs bs) (hq : gI c 318 129 = nI q) (hq2 : q < 2 ^ 27) (hi : i < 7) (h1 : st_NEAR_BITS.getD i 0 = nI nb') (h2 : st_NEAR_CODES.getD i 0 = nI nc) (hnb : nb' ≤ 7) (hv : v < 128) (hk : nc < 128) : f_X3_readMode_l55 (n + 1) (nI v) (nI i) c = if v / 2 ^ (7 - nb') = nc then some (if q + nb' ≤ nbs then iz ((i : Int) - 3) else 10, uI c 318 129 (nI (q + nb'))) else f_X3_readMode_l55 n (nI v) (nI (i + 1)) c := by
  show f_X3_readMode_b55 (f_X3_readMode_l55 n) _ _ _ = _
  unfold f_X3_readMode_b55
  rw [if_neg (show ¬ (7 : Int32) ≤ nI i from nI_ge (b := 7) hi (by omega)), if_neg (show ¬ (7 : Int32) ≤ nI i from nI_ge (b := 7) hi (by omega)), ix_in (j := i) (nI_pos (by omega)) (nI_clamp (by omega)) hi, ix_in (j := i) (nI_pos (by omega)) (nI_clamp (by omega)) hi, ix_in (j := i) (nI_pos (by omega)) (nI_clamp (by omega)) hi, h1, h2, show (7 : Int32) - nI nb' = nI (7 - nb') from pk_sub (a := 7) hnb, pk_shrN (n := v) (by omega) _ (7 - nb') (s_l _ (by omega)), c_skip h hq (by omega), bd_eq, nI_1]
  have hlt : v / 2 ^ (7 - nb') < 128 := Nat.lt_of_le_of_lt (Nat.div_le_self _ _) hv
  by_cases e : v / 2 ^ (7 - nb') = nc
  · rw [if_pos (by rw [e]), if_pos e]
    by_cases z : q + nb' ≤ nbs
    · rw [decide_eq_true z, if_neg (by decide), if_pos z, nI_iz]
      rw [show (3 : Int32) = iz 3 from rfl, iz_sub]
    · rw [decide_eq_false z, if_pos (by decide), if_neg z]
  · rw [if_neg (fun y => e ((nI_eq (by omega) (by omega)).mp y)), if_neg e]
theorem c_mode {c : Mm} {nb q : Nat} {bs : Nat → Bool} (h : StC c nb bs) (hq : gI c 318 129 = nI q) (hq2 : q < 2 ^ 27) : f_X3_readMode c = if pkb bs q 7 < 2 then some (10, c) else some (if q + ml (pkb bs q 7) ≤ nb then iz (mcode (pkb bs q 7)) else 10, uI c 318 129 (nI (q + ml (pkb bs q 7)))) := by
  have hv := pkb_lt bs q 7
  unfold f_X3_readMode
  rw [show (7 : Int32) = nI 7 from rfl, c_peek h hq (by omega) (by omega), bd_eq]
  generalize pkb bs q 7 = v at hv
  rw [pk_shrN (n := v) (by omega) _ 3 (by decide), pk_shrN (n := v) (by omega) _ 4 (by decide)]
  have c3 : nI (v / 2 ^ 3) = 1 ↔ v / 8 = 1 := nI_eq (a := v / 8) (b := 1) (by omega) (by omega)
  have c4 : nI (v / 2 ^ 4) = 1 ↔ v / 16 = 1 := nI_eq (a := v / 16) (b := 1) (by omega) (by omega)
  by_cases e3 : v / 8 = 1
  · rw [if_pos (c3.mpr e3), show (4 : Int32) = nI 4 from rfl, c_skip h hq (by omega), bd_eq, if_neg (show ¬ v < 2 by omega)]
    obtain ⟨e1, e2⟩ := (ml_tab v hv).1 e3
    rw [e1, e2]
    by_cases z : q + 4 ≤ nb
    · rw [decide_eq_true z, if_neg (by decide), if_pos z]; rfl
    · rw [decide_eq_false z, if_pos (by decide), if_neg z]
  · rw [if_neg (fun y => e3 (c3.mp y))]
    by_cases e4 : v / 16 = 1
    · rw [if_pos (c4.mpr e4), show (3 : Int32) = nI 3 from rfl, c_skip h hq (by omega), bd_eq, if_neg (show ¬ v < 2 by omega)]
      obtain ⟨e1, e2⟩ := (ml_tab v hv).2.1 e4
      rw [e1, e2]
      by_cases z : q + 3 ≤ nb
      · rw [decide_eq_true z, if_neg (by decide), if_pos z]; rfl
      · rw [decide_eq_false z, if_pos (by decide), if_neg z]
    · rw [if_neg (fun y => e4 (c4.mp y)), show (0 : Int32) = nI 0 from rfl, show FU = 3999999992 + 1 + 1 + 1 + 1 + 1 + 1 + 1 + 1 from rfl]
      rw [near_step (nb' := 7) (nc := 2) h hq hq2 (by omega) (by decide) (by decide) (by omega) hv (by omega), near_step (nb' := 6) (nc := 2) h hq hq2 (by omega) (by decide) (by decide) (by omega) hv (by omega), near_step (nb' := 3) (nc := 2) h hq hq2 (by omega) (by decide) (by decide) (by omega) hv (by omega), near_step (nb' := 1) (nc := 1) h hq hq2 (by omega) (by decide) (by decide) (by omega) hv (by omega), near_step (nb' := 3) (nc := 3) h hq hq2 (by omega) (by decide) (by decide) (by omega) hv (by omega), near_step (nb' := 6) (nc := 3) h hq hq2 (by omega) (by decide) (by decide) (by omega) hv (by omega), near_step (nb' := 7) (nc := 3) h hq hq2 (by omega) (by decide) (by decide) (by omega) hv (by omega)]
      simp only [Nat.reduceAdd, Nat.reduceSub, Nat.reducePow, Nat.div_one]
      by_cases g0 : v = 2
      · subst g0; rfl
      rw [if_neg g0]
      by_cases g1 : v / 2 = 2
      · rw [if_pos g1, if_neg (show ¬ v < 2 by omega)]
        obtain ⟨e1, e2⟩ := (ml_tab v hv).2.2.1 g1
        rw [e1, e2]; rfl
      rw [if_neg g1]
      by_cases g2 : v / 16 = 2
      · rw [if_pos g2, if_neg (show ¬ v < 2 by omega)]
        obtain ⟨e1, e2⟩ := (ml_tab v hv).2.2.2.1 g2
        rw [e1, e2]; rfl
      rw [if_neg g2]
      by_cases g3 : v / 64 = 1
      · rw [if_pos g3, if_neg (show ¬ v < 2 by omega)]
        obtain ⟨e1, e2⟩ := (ml_tab v hv).2.2.2.2.1 g3
        rw [e1, e2]; rfl
      rw [if_neg g3]
      by_cases g4 : v / 16 = 3
      · rw [if_pos g4, if_neg (show ¬ v < 2 by omega)]
        obtain ⟨e1, e2⟩ := (ml_tab v hv).2.2.2.2.2.1 g4
        rw [e1, e2]; rfl
      rw [if_neg g4]
      by_cases g5 : v / 2 = 3
      · rw [if_pos g5, if_neg (show ¬ v < 2 by omega)]
        obtain ⟨e1, e2⟩ := (ml_tab v hv).2.2.2.2.2.2 g5
        rw [e1, e2]; rfl
      rw [if_neg g5]
      by_cases g6 : v = 3
      · subst g6; rfl
      rw [if_neg g6, if_pos (show v < 2 by omega)]
      show f_X3_readMode_b55 (f_X3_readMode_l55 3999999992) _ _ _ = _
      unfold f_X3_readMode_b55
      rw [if_pos (by decide)]
/-- the reference's mode from the k-th bit on -/
theorem m_mode {m : Mm} {nb q : Nat} {bs : Nat → Bool} (h : StM m nb bs) (hq : gJ m 1278 133 = lN q) (hq2 : q < 2 ^ 26) (hf : ∀ t, nb ≤ t → bs t = false) : ∃ x, f_X12_mode m = some (if 2 ≤ pkb bs q 7 ∧ q + ml (pkb bs q 7) ≤ nb then iz (mmode (pkb bs q 7)) else 6, uJ m 1278 133 x) ∧ (2 ≤ pkb bs q 7 ∧ q + ml (pkb bs q 7) ≤ nb → x = lN (q + ml (pkb bs q 7))) := by
  have uu : ∀ (x y : Int64), uJ (uJ m 1278 133 x) 1278 133 y = uJ m 1278 133 y := fun x y => by
    refine Prod.ext rfl (Prod.ext (funext fun g => funext fun j => ?_) rfl)
    show (if g = 1278 ∧ j = 133 then y else if g = 1278 ∧ j = 133 then x else gJ m g j) = if g = 1278 ∧ j = 133 then y else gJ m g j
    split <;> rfl
  have sb : ∀ k, k < 2 ^ 27 → f_X12_bit (uJ m 1278 133 (lN k)) = if k < nb then some (cI (bs k), uJ m 1278 133 (lN (k + 1))) else some (2, uJ m 1278 133 (lN k)) := fun k hk => by
    rw [m_bit (q := k) (nb := nb) (bs := bs) (by exact h) (by rw [gJ_uJ, if_pos ⟨rfl, rfl⟩]) (by omega), uu]
  have em : m = uJ m 1278 133 (lN q) := by
    rw [← hq]
    refine Prod.ext rfl (Prod.ext (funext fun g => funext fun j => ?_) rfl)
    show gJ m g j = if g = 1278 ∧ j = 133 then gJ m 1278 133 else gJ m g j
    split
    · rename_i e; rw [e.1, e.2]
    · rfl
  -- v by its bits
  have ev : pkb bs q 7 = 64 * bN (bs q) + 32 * bN (bs (q + 1)) + 16 * bN (bs (q + 2)) + 8 * bN (bs (q + 3)) + 4 * bN (bs (q + 4)) + 2 * bN (bs (q + 5)) + bN (bs (q + 6)) := by
    simp only [pkb, Nat.add_zero]; omega
  have hb : ∀ k, bN (bs k) < 2 := fun k => bN_lt _
  have b0 := hb q; have b1 := hb (q + 1); have b2 := hb (q + 2); have b3 := hb (q + 3); have b4 := hb (q + 4); have b5 := hb (q + 5); have b6 := hb (q + 6)
  generalize pkb bs q 7 = v at ev
  have stop : ∀ (n k : Nat) (T : Mm), f_X12_mode_l7 (n + 1) (nI k) 2 T = some (6, T) := by
    intro n k T
    show f_X12_mode_b7 (f_X12_mode_l7 n) _ _ _ = _
    unfold f_X12_mode_b7
    rw [if_neg (by decide)]; unfold f_X12_mode_28; rw [if_neg (by decide)]
  have one : ∀ (n k : Nat) (T : Mm), f_X12_mode_l7 (n + 1) (nI k) 1 T = f_X12_mode_28 (nI k) 1 T := by
    intro n k T
    show f_X12_mode_b7 (f_X12_mode_l7 n) _ _ _ = _
    unfold f_X12_mode_b7
    rw [if_neg (by decide)]
  have zero : ∀ (n k : Nat) (T : Mm), k < 6 → f_X12_mode_l7 (n + 1) (nI k) 0 T = bd (f_X12_bit T) fun v1 T2 => f_X12_mode_l7 n (nI (k + 1)) v1 T2 := by
    intro n k T hk
    show f_X12_mode_b7 (f_X12_mode_l7 n) _ _ _ = _
    unfold f_X12_mode_b7
    rw [if_pos rfl, if_neg (show ¬ (6 : Int32) ≤ nI k from nI_ge (b := 6) hk (by omega)), nI_1]
  have zero6 : ∀ (n : Nat) (T : Mm), f_X12_mode_l7 (n + 1) (nI 6) 0 T = some (6, T) := by
    intro n T
    show f_X12_mode_b7 (f_X12_mode_l7 n) _ _ _ = _
    unfold f_X12_mode_b7
    rw [if_pos rfl, if_pos (by decide)]; unfold f_X12_mode_28; rw [if_neg (by decide)]
  have bT : ∀ k, bs k = true → cI (bs k) = 1 ∧ bN (bs k) = 1 := fun k e => by rw [e]; exact ⟨rfl, rfl⟩
  have bF : ∀ k, bs k = false → cI (bs k) = 0 ∧ bN (bs k) = 0 := fun k e => by rw [e]; exact ⟨rfl, rfl⟩
  have out0 : ∀ k, nb ≤ k → bN (bs k) = 0 := fun k e => by rw [hf k e]; rfl
  have M : ∀ (k n : Nat), k ≤ 6 → (bd (f_X12_bit (uJ m 1278 133 (lN (q + k)))) fun v1 T2 => f_X12_mode_l7 (n + 1) (nI k) v1 T2) = if q + k < nb then (if bs (q + k) = true then f_X12_mode_28 (nI k) 1 (uJ m 1278 133 (lN (q + k + 1))) else (if k < 6 then (bd (f_X12_bit (uJ m 1278 133 (lN (q + (k + 1))))) fun v1 T2 => f_X12_mode_l7 n (nI (k + 1)) v1 T2) else some (6, uJ m 1278 133 (lN (q + k + 1))))) else some (6, uJ m 1278 133 (lN (q + k))) := by
    intro k n hk
    rw [sb _ (by omega)]
    by_cases h1 : q + k < nb
    · rw [if_pos h1, if_pos h1, bd_eq]
      cases hbk : bs (q + k) with
      | true => rw [if_pos rfl]; exact one n k _
      | false =>
        rw [if_neg (by decide)]
        by_cases h6 : k < 6
        · rw [if_pos h6]; exact zero n k _ h6
        · have : k = 6 := by omega
          subst this
          rw [if_neg h6]; exact zero6 n _
    · rw [if_neg h1, if_neg h1, bd_eq]; exact stop n k _
  have S : ∀ (k p : Nat) (d : Int), p < 2 ^ 27 → (k = 1 ∧ d = 1 ∨ k = 4 ∧ d = 2 ∨ k = 5 ∧ d = 3) → f_X12_mode_28 (nI k) 1 (uJ m 1278 133 (lN p)) = if p < nb then some (if bs p = true then iz d else iz (-d), uJ m 1278 133 (lN (p + 1))) else some (6, uJ m 1278 133 (lN p)) := by
    intro k p d hp hk
    unfold f_X12_mode_28
    rw [if_pos rfl, sb p hp]
    have fin : ∀ (x : Int32), x = iz d → (if p < nb then some (cI (bs p), uJ m 1278 133 (lN (p + 1))) else some (2, uJ m 1278 133 (lN p))) = (if p < nb then some (cI (bs p), uJ m 1278 133 (lN (p + 1))) else some (2, uJ m 1278 133 (lN p))) → (bd (if p < nb then some (cI (bs p), uJ m 1278 133 (lN (p + 1))) else some (2, uJ m 1278 133 (lN p))) fun v1 T2 => if v1 = 2 then some (6, T2) else f_X12_mode_90 v1 x T2) = if p < nb then some (if bs p = true then iz d else iz (-d), uJ m 1278 133 (lN (p + 1))) else some (6, uJ m 1278 133 (lN p)) := by
      intro x hx _
      by_cases h1 : p < nb
      · rw [if_pos h1, if_pos h1, bd_eq, hx]
        unfold f_X12_mode_90
        cases bs p
        · rw [if_neg (by decide), if_neg (by decide), if_neg (by decide), iz_neg]
        · rw [if_neg (by decide), if_pos (by decide), if_pos rfl]
      · rw [if_neg h1, if_neg h1, bd_eq, if_pos rfl]
    rcases hk with ⟨rfl, rfl⟩ | ⟨rfl, rfl⟩ | ⟨rfl, rfl⟩
    · rw [if_neg (by decide), if_neg (by decide), if_neg (by decide), if_neg (by decide)]
      have e1 : (nI 1 = 1) = True := eq_true (by decide)
      simp only [e1, if_true]
      exact fin 1 rfl rfl
    · rw [if_neg (by decide), if_neg (by decide), if_neg (by decide), if_neg (by decide)]
      have e1 : (nI 4 = 1) = False := eq_false (by decide)
      simp only [e1, if_false]
      exact fin _ (by decide) rfl
    · rw [if_neg (by decide), if_neg (by decide), if_neg (by decide), if_neg (by decide)]
      have e1 : (nI 5 = 1) = False := eq_false (by decide)
      simp only [e1, if_false]
      exact fin _ (by decide) rfl
  have lit28 : ∀ (k : Nat) (T : Mm), (k = 0 → f_X12_mode_28 (nI k) 1 T = some (0, T)) ∧ (k = 2 → f_X12_mode_28 (nI k) 1 T = some (5, T)) ∧ (k = 3 → f_X12_mode_28 (nI k) 1 T = some (4, T)) ∧ (k = 6 → f_X12_mode_28 (nI k) 1 T = some (6, T)) := by
    intro k T
    refine ⟨?_, ?_, ?_, ?_⟩ <;> rintro rfl <;> unfold f_X12_mode_28 <;> rw [if_pos rfl]
    · rw [if_pos (by decide)]
    · rw [if_neg (by decide), if_pos (by decide)]
    · rw [if_neg (by decide), if_neg (by decide), if_pos (by decide)]
    · rw [if_neg (by decide), if_neg (by decide), if_neg (by decide), if_pos (by decide)]
  -- the answer at a leaf
  have leaf : ∀ (r : Int) (L : Nat) (x : Int64), 2 ≤ v → ml v = L → mmode v = r → q + L ≤ nb → ∃ x, some (iz r, uJ m 1278 133 (lN (q + L))) = some (if 2 ≤ v ∧ q + ml v ≤ nb then iz (mmode v) else 6, uJ m 1278 133 x) ∧ (2 ≤ v ∧ q + ml v ≤ nb → x = lN (q + ml v)) := by
    intro r L x h1 h2 h3 h4
    exact ⟨lN (q + L), by rw [if_pos ⟨h1, by rw [h2]; exact h4⟩, h3], fun _ => by rw [h2]⟩
  have bad : ∀ (x : Int64), ¬ (2 ≤ v ∧ q + ml v ≤ nb) → ∃ x, some ((6 : Int32), uJ m 1278 133 x) = some (if 2 ≤ v ∧ q + ml v ≤ nb then iz (mmode v) else 6, uJ m 1278 133 x) ∧ (2 ≤ v ∧ q + ml v ≤ nb → x = lN (q + ml v)) := by
    intro x h1
    exact ⟨x, by rw [if_neg h1], fun h => absurd h h1⟩
  have bad' : ∀ (x : Int64), ¬ (2 ≤ v ∧ q + ml v ≤ nb) → ∃ y, some ((6 : Int32), uJ m 1278 133 x) = some (if 2 ≤ v ∧ q + ml v ≤ nb then iz (mmode v) else 6, uJ m 1278 133 y) ∧ (2 ≤ v ∧ q + ml v ≤ nb → y = lN (q + ml v)) := fun x h1 => ⟨x, by rw [if_neg h1], fun h => absurd h h1⟩
  have mlb1 : ∀ v, v < 128 → (v / 64 = 1 → ml v = 1 ∧ mmode v = 0) ∧ (v / 16 = 3 → ml v = 3 ∧ mmode v = 1) ∧ (v / 16 = 2 → ml v = 3 ∧ mmode v = -1) ∧ (v / 16 = 1 → ml v = 3 ∧ mmode v = 5) := by decide +kernel
  have mlb2 : ∀ v, v < 128 → (v / 8 = 1 → ml v = 4 ∧ mmode v = 4) ∧ (v / 2 = 3 → ml v = 6 ∧ mmode v = 2) ∧ (v / 2 = 2 → ml v = 6 ∧ mmode v = -2) ∧ (v = 3 → ml v = 7 ∧ mmode v = 3) ∧ (v = 2 → ml v = 7 ∧ mmode v = -3) := by decide +kernel
  have mlb3 : ∀ v, v < 128 → (v < 64 → 3 ≤ ml v) ∧ (v < 32 → 3 ≤ ml v) ∧ (v < 16 → 4 ≤ ml v) ∧ (v < 8 → 6 ≤ ml v) ∧ (v < 4 → 7 ≤ ml v) := by decide +kernel
  obtain ⟨t0, t1, t2, t3⟩ := mlb1 v (by omega)
  obtain ⟨t4, t5, t6, t7, t8⟩ := mlb2 v (by omega)
  obtain ⟨u0, u1, u2, u3, u4⟩ := mlb3 v (by omega)
  clear mlb1 mlb2 mlb3
  have e0 : (bd (f_X12_bit m) fun v1 T2 => f_X12_mode_l7 FU 0 v1 T2) = (bd (f_X12_bit (uJ m 1278 133 (lN (q + 0)))) fun v1 T2 => f_X12_mode_l7 (3999999993 + 1 + 1 + 1 + 1 + 1 + 1 + 1) (nI 0) v1 T2) := by rw [Nat.add_zero, ← em]; rfl
  have goal9 := f_X12_mode m
  unfold f_X12_mode
  rw [e0, M 0 _ (by omega)]
  by_cases n0' : ¬ q + 0 < nb
  · have n0 := n0'
    rw [if_neg n0]
    have := out0 q (by omega); have := out0 (q + 1) (by omega); have := out0 (q + 2) (by omega); have := out0 (q + 3) (by omega); have := out0 (q + 4) (by omega); have := out0 (q + 5) (by omega); have := out0 (q + 6) (by omega)
    exact bad' _ (by omega)
  have n0 := Classical.not_not.mp n0'
  rw [if_pos n0, Nat.add_zero]
  by_cases d0 : bs q = true
  · have := (bT _ d0).2
    obtain ⟨g1, g2⟩ := t0 (by omega)
    rw [if_pos d0, (lit28 0 _).1 rfl]
    exact leaf 0 1 0 (by omega) g1 g2 (by omega)
  have z0 := (bF q (by simpa using d0)).2
  rw [if_neg d0, if_pos (by decide), M 1 _ (by omega)]
  by_cases n1' : ¬ q + 1 < nb
  · have n1 := n1'
    rw [if_neg n1]
    have := u0 (by omega)
    exact bad' _ (by omega)
  have n1 := Classical.not_not.mp n1'
  rw [if_pos n1]
  by_cases d1 : bs (q + 1) = true
  · have := (bT _ d1).2
    rw [if_pos d1, S 1 (q + 1 + 1) 1 (by omega) (Or.inl ⟨rfl, rfl⟩)]
    by_cases n2 : q + 1 + 1 < nb
    · rw [if_pos n2]
      by_cases d2 : bs (q + 1 + 1) = true
      · have : bN (bs (q + 2)) = 1 := (bT _ d2).2
        obtain ⟨g1, g2⟩ := t1 (by omega)
        rw [if_pos d2]; exact leaf 1 3 0 (by omega) g1 g2 (by omega)
      · have : bN (bs (q + 2)) = 0 := (bF (q + 1 + 1) (by simpa using d2)).2
        obtain ⟨g1, g2⟩ := t2 (by omega)
        rw [if_neg d2]; exact leaf (-1) 3 0 (by omega) g1 g2 (by omega)
    · rw [if_neg n2]; have := u0 (by omega); exact bad' _ (by omega)
  have z1 := (bF (q + 1) (by simpa using d1)).2
  rw [if_neg d1, if_pos (by decide), M 2 _ (by omega)]
  by_cases n2' : ¬ q + 2 < nb
  · have n2 := n2'
    rw [if_neg n2]; have := u1 (by omega); exact bad' _ (by omega)
  have n2 := Classical.not_not.mp n2'
  rw [if_pos n2]
  by_cases d2 : bs (q + 2) = true
  · have := (bT _ d2).2
    obtain ⟨g1, g2⟩ := t3 (by omega)
    rw [if_pos d2, (lit28 2 _).2.1 rfl]
    exact leaf 5 3 0 (by omega) g1 g2 (by omega)
  have z2 := (bF (q + 2) (by simpa using d2)).2
  rw [if_neg d2, if_pos (by decide), M 3 _ (by omega)]
  by_cases n3' : ¬ q + 3 < nb
  · have n3 := n3'
    rw [if_neg n3]; have := u2 (by omega); exact bad' _ (by omega)
  have n3 := Classical.not_not.mp n3'
  rw [if_pos n3]
  by_cases d3 : bs (q + 3) = true
  · have := (bT _ d3).2
    obtain ⟨g1, g2⟩ := t4 (by omega)
    rw [if_pos d3, (lit28 3 _).2.2.1 rfl]
    exact leaf 4 4 0 (by omega) g1 g2 (by omega)
  have z3 := (bF (q + 3) (by simpa using d3)).2
  rw [if_neg d3, if_pos (by decide), M 4 _ (by omega)]
  by_cases n4' : ¬ q + 4 < nb
  · have n4 := n4'
    rw [if_neg n4]; have := u3 (by omega); exact bad' _ (by omega)
  have n4 := Classical.not_not.mp n4'
  rw [if_pos n4]
  by_cases d4 : bs (q + 4) = true
  · have := (bT _ d4).2
    rw [if_pos d4, S 4 (q + 4 + 1) 2 (by omega) (Or.inr (Or.inl ⟨rfl, rfl⟩))]
    by_cases n5 : q + 4 + 1 < nb
    · rw [if_pos n5]
      by_cases d5 : bs (q + 4 + 1) = true
      · have : bN (bs (q + 5)) = 1 := (bT _ d5).2
        obtain ⟨g1, g2⟩ := t5 (by omega)
        rw [if_pos d5]; exact leaf 2 6 0 (by omega) g1 g2 (by omega)
      · have : bN (bs (q + 5)) = 0 := (bF (q + 4 + 1) (by simpa using d5)).2
        obtain ⟨g1, g2⟩ := t6 (by omega)
        rw [if_neg d5]; exact leaf (-2) 6 0 (by omega) g1 g2 (by omega)
    · rw [if_neg n5]; have := u3 (by omega); exact bad' _ (by omega)
  have z4 := (bF (q + 4) (by simpa using d4)).2
  rw [if_neg d4, if_pos (by decide), M 5 _ (by omega)]
  by_cases n5' : ¬ q + 5 < nb
  · have n5 := n5'
    rw [if_neg n5]; have := u4 (by omega); exact bad' _ (by omega)
  have n5 := Classical.not_not.mp n5'
  rw [if_pos n5]
  by_cases d5 : bs (q + 5) = true
  · have := (bT _ d5).2
    rw [if_pos d5, S 5 (q + 5 + 1) 3 (by omega) (Or.inr (Or.inr ⟨rfl, rfl⟩))]
    by_cases n6 : q + 5 + 1 < nb
    · rw [if_pos n6]
      by_cases d6 : bs (q + 5 + 1) = true
      · have : bN (bs (q + 6)) = 1 := (bT _ d6).2
        obtain ⟨g1, g2⟩ := t7 (by omega)
        rw [if_pos d6]; exact leaf 3 7 0 (by omega) g1 g2 (by omega)
      · have : bN (bs (q + 6)) = 0 := (bF (q + 5 + 1) (by simpa using d6)).2
        obtain ⟨g1, g2⟩ := t8 (by omega)
        rw [if_neg d6]; exact leaf (-3) 7 0 (by omega) g1 g2 (by omega)
    · rw [if_neg n6]; have := u4 (by omega); exact bad' _ (by omega)
  have z5 := (bF (q + 5) (by simpa using d5)).2
  rw [if_neg d5, if_pos (by decide), M 6 _ (by omega)]
  by_cases n6' : ¬ q + 6 < nb
  · have n6 := n6'
    rw [if_neg n6]; have := u4 (by omega); exact bad' _ (by omega)
  have n6 := Classical.not_not.mp n6'
  rw [if_pos n6]
  by_cases d6 : bs (q + 6) = true
  · have := (bT _ d6).2
    rw [if_pos d6, (lit28 6 _).2.2.2 rfl]
    exact bad' _ (by omega)
  · have := (bF (q + 6) (by simpa using d6)).2
    rw [if_neg d6, if_neg (by decide)]
    exact bad' _ (by omega)
