/-! Dots made black in a row of words. -/
theorem f_maskOf {w fr t : Nat} {T : Mm} (h1 : fr < t) (h2 : fr < w * 32 + 32) (h3 : w * 32 < t) (h4 : t < 2 ^ 20) : f_X11_maskOf (nI w) (nI fr) (nI t) T = some (mskW w fr t, T) := by
  have e1 : nI w <<< ((5 : Int32) &&& 31) = nI (w * 32) := pk_shlN (n := w) _ 5 (by decide) (by omega)
  unfold f_X11_maskOf
  rw [e1, f_max, bd_eq, max_sub (by omega) (by omega), show nI t - nI (w * 32) = nI (t - w * 32) from pk_sub (by omega), f_min, bd_eq, min_32 (by omega), if_pos (nI_lt (by split <;> omega) (by split <;> omega)), show (32 : Int32) - nI (if 32 < t - w * 32 then 32 else t - w * 32) = nI (32 - (if 32 < t - w * 32 then 32 else t - w * 32)) from pk_sub (a := 32) (by split <;> omega)]
  rfl
theorem f_black {a rw fr t : Nat} {T : Mm} (hin : rw + (t - 1) / 32 < LN a) (hN : LN a < 2 ^ 26) (h : fr < t) (ht : t < 2 ^ 20) : f_X11_blacken a (nI rw) (nI fr) (nI t) T = some ((), vA T a (fun j => if rw + fr / 32 ≤ j ∧ j < rw + (t - 1) / 32 + 1 then gA T a j ||| mskW (j - rw) fr t else gA T a j)) := by
  have go : ∀ n w g, w ≤ (t - 1) / 32 + 1 → fr / 32 ≤ w → (t - 1) / 32 + 1 - w < n → (∀ j, g j = if rw + fr / 32 ≤ j ∧ j < rw + w then gA T a j ||| mskW (j - rw) fr t else gA T a j) → f_X11_blacken_l36 n a (nI rw) (nI fr) (nI t) (nI ((t - 1) / 32)) (nI w) (vA T a g) = some ((), vA T a (fun j => if rw + fr / 32 ≤ j ∧ j < rw + (t - 1) / 32 + 1 then gA T a j ||| mskW (j - rw) fr t else gA T a j)) := by
    intro n
    induction n with
    | zero => intro w g _ _ h; omega
    | succ n ih =>
      intro w g hw hf hn hg
      have ev : f_X11_blacken_l36 (n + 1) a (nI rw) (nI fr) (nI t) (nI ((t - 1) / 32)) (nI w) (vA T a g) = f_X11_blacken_b36 (f_X11_blacken_l36 n) a (nI rw) (nI fr) (nI t) (nI ((t - 1) / 32)) (nI w) (vA T a g) := rfl
      rw [ev]
      unfold f_X11_blacken_b36
      rcases Nat.lt_or_ge ((t - 1) / 32) w with hlt | hge
      · have : w = (t - 1) / 32 + 1 := by omega
        rw [if_pos (nI_lt hlt (by omega))]
        congr 3
        funext j; rw [hg j, this]; rfl
      · rw [if_neg (nI_nlt hge (by omega)), nI_add, ix_in (j := rw + w) (nI_pos (by omega)) (nI_clamp (by omega)) (by omega), f_maskOf h (by omega) (by omega) ht, bd_eq, ix_in (j := rw + w) (nI_pos (by omega)) (nI_clamp (by omega)) (by omega), lb_eq, uA_vA, nI_1, gA_vA_s]
        refine ih (w + 1) _ (by omega) (by omega) (by omega) (fun j => ?_)
        show (if j = rw + w then _ else g j) = _
        by_cases e : j = rw + w
        · subst e
          rw [if_pos rfl, if_pos (by omega), hg, if_neg (by omega), show rw + w - rw = w by omega]
        · rw [if_neg e, hg j]
          by_cases q : rw + fr / 32 ≤ j ∧ j < rw + w
          · rw [if_pos q, if_pos (by omega)]
          · rw [if_neg q, if_neg (by omega)]
  unfold f_X11_blacken
  rw [if_neg (nI_pos (by omega)), if_neg (nI_pos (by omega)), if_pos (nI_lt h (by omega)), show nI t - 1 = nI (t - 1) from pk_sub (b := 1) (by omega), pk_shrN (n := t - 1) (by omega) _ 5 (by decide), lb_eq, nI_add, onat, if_pos (nI_lt (by omega) (by omega)), pk_shrN (n := fr) (by omega) _ 5 (by decide), lb_eq]
  have := go FU (fr / 32) (gA T a) (by omega) (by omega) (FU_gt (by omega)) (fun j => by rw [if_neg (by omega)])
  rw [vA_id] at this
  exact this
theorem f_black0 {a fr t : Nat} {ra : Int32} {T : Mm} (h : t ≤ fr) (hf : fr < 2 ^ 20) : f_X11_blacken a ra (nI fr) (nI t) T = some ((), T) := by
  unfold f_X11_blacken
  rw [if_neg (show ¬ nI fr < nI t from nI_nlt h (by omega))]
  split
  · rfl
  split <;> rfl
/-- a row's dots from fr to t are black now -/
theorem c_black {a rw fr t : Nat} {T : Mm} (hin : ∀ x, x < t → rw + x / 32 < LN a) (hN : LN a < 2 ^ 26) (hf : fr < 2 ^ 20) (ht : t < 2 ^ 20) : ∃ g, f_X11_blacken a (nI rw) (nI fr) (nI t) T = some ((), vA T a g) ∧ (∀ x, dotW g rw x = (dotW (gA T a) rw x || (decide (fr ≤ x) && decide (x < t)))) ∧ ∀ j, (j < rw ∨ ∀ x, x < t → rw + x / 32 ≠ j) → g j = gA T a j := by
  rcases Nat.lt_or_ge fr t with h | h
  · refine ⟨_, f_black (hin (t - 1) (by omega)) hN h ht, fun x => ?_, fun j hj => ?_⟩
    · show bt (if rw + fr / 32 ≤ rw + x / 32 ∧ rw + x / 32 < rw + (t - 1) / 32 + 1 then gA T a (rw + x / 32) ||| mskW (rw + x / 32 - rw) fr t else gA T a (rw + x / 32)) (31 - x % 32) = (bt (gA T a (rw + x / 32)) (31 - x % 32) || _)
      by_cases q : rw + fr / 32 ≤ rw + x / 32 ∧ rw + x / 32 < rw + (t - 1) / 32 + 1
      · rw [if_pos q, b_or, show rw + x / 32 - rw = x / 32 by omega, mskW_bt (by omega) (by omega) (by omega), show x / 32 * 32 + x % 32 = x by omega]
      · rw [if_neg q]
        rcases Nat.lt_or_ge x fr with h1 | h1
        · rw [decide_eq_false (show ¬ fr ≤ x by omega), Bool.false_and, Bool.or_false]
        · rw [decide_eq_false (show ¬ x < t by omega), Bool.and_false, Bool.or_false]
    · show (if rw + fr / 32 ≤ j ∧ j < rw + (t - 1) / 32 + 1 then _ else gA T a j) = gA T a j
      rw [if_neg]
      rintro ⟨h1, h2⟩
      rcases hj with hj | hj
      · omega
      · by_cases z : (j - rw) * 32 < t
        · exact hj ((j - rw) * 32) z (by omega)
        · omega
  · exact ⟨gA T a, by rw [f_black0 h hf, vA_id], fun x => by
      have : (decide (fr ≤ x) && decide (x < t)) = false := by
        rcases Nat.lt_or_ge x fr with h1 | h1
        · rw [decide_eq_false (show ¬ fr ≤ x by omega), Bool.false_and]
        · rw [decide_eq_false (show ¬ x < t by omega), Bool.and_false]
      rw [this, Bool.or_false], fun _ _ => rfl⟩
