/-! The fields of fonts' wishes, on both sides. -/
section E9
variable {c c' c0 c1 c2 c3 m m' m0 m1 m2 m3 T : Mm} {d w b s : Nat} {ov ov' ng sg : Bool} {g L : Nat → Int32} {Gc Gm : Gty} {PF QF : Nat → Nat → Bool} {PA QA : Nat → Bool}
theorem env_w : ∀ q, q ∈ envT → q.2.2 < 12 ∨ 28 ≤ q.2.2 := by decide +kernel
theorem wpi_7 : wpi 7 = 7 := rfl
theorem wpi_lt {k : Nat} (h : k < 7) : wpi k < 7 := by unfold wpi; split <;> omega
theorem wpi_8 {k : Nat} (h : k < 8) : wpi k < 8 := by unfold wpi; split <;> omega
theorem wpi_inj {k j : Nat} (h : k < 8) (h2 : j < 8) (e : wpi k = wpi j) : k = j := by
  unfold wpi at e; revert e; split <;> split <;> omega
theorem lo_w {k : Nat} (h : k < 7) : lo (12 + k) = -2000000 ∧ hi (12 + k) = 2000000 ∧ lo (20 + k) = -2000000 ∧ hi (20 + k) = 2000000 := by
  have : ∀ k, k < 7 → lo (12 + k) = -2000000 ∧ hi (12 + k) = 2000000 ∧ lo (20 + k) = -2000000 ∧ hi (20 + k) = 2000000 := by decide
  exact this k h
theorem lo_7 : lo 19 = -1 ∧ hi 19 = 16 ∧ lo 27 = -1 ∧ hi 27 = 16 := by decide
/-- a row of wishes has changed -/
theorem EP.wsh (hs : s ≤ 1) (h : EVq c 45 (gA m 134)) (e : EB (gA m 134)) (fc : Fr nF (fun a => a == 52 + s) c c') (fm : Fr nF meA m m') (o : ∀ j, (j < 12 + 8 * s ∨ 20 + 8 * s ≤ j) → gA m' 134 j = gA m 134 j) (hw : ∀ k, k < 8 → gA c' (52 + s) k = gA m' 134 (12 + 8 * s + wpi k)) (hb : ∀ k, k < 7 → -2000000 ≤ (gA m' 134 (12 + 8 * s + k)).toInt ∧ (gA m' 134 (12 + 8 * s + k)).toInt ≤ 2000000) (hb7 : -1 ≤ (gA m' 134 (12 + 8 * s + 7)).toInt ∧ (gA m' 134 (12 + 8 * s + 7)).toInt ≤ 16) : EP c m c' m' := by
  have ka : ∀ a, a ≠ 52 + s → (a == 52 + s) = false := fun a z => by simpa using z
  have l7 := lo_7
  refine EP_mk (EVq_mk ?_ ?_ ?_ ?_ ?_ ?_ ?_ ?_ ?_) (EB_mk ?_ ?_ ?_ ?_) (fc.weak (fun _ _ _ => rfl) (fun a z => ?_)) fm (o 0 (by omega)) (o 1 (by omega))
  · intro q hq
    have := env_w q hq
    rw [o _ (by omega), fc.i rfl]; exact h.i q hq
  · rw [o _ (by omega), fc.i rfl]; exact h.w
  · rw [o _ (by omega), fc.i rfl]; exact h.h
  · rw [o _ (by omega), o _ (by omega), o _ (by omega), fc.i rfl]; exact h.r
  · rw [o _ (by omega), fc.a (ka _ (by omega))]
    intro j hj hj2
    rw [o _ (by omega)]; exact h.p j hj hj2
  · rw [fc.a (ka _ (by omega))]
    intro i hi
    rw [o _ (by omega)]; exact h.b i hi
  · exact (h.t.fr (fc.i rfl) (fc.i rfl) (fc.i rfl) (fc.b (ka _ (by omega)))).congr (fun k hk => o _ (by omega))
  · intro k hk
    rcases (show s = 0 ∨ s = 1 by omega) with rfl | rfl
    · exact hw k hk
    · have := wpi_8 hk
      rw [fc.a (ka _ (by omega)), o _ (by omega)]; exact h.f k hk
  · intro k hk
    rcases (show s = 0 ∨ s = 1 by omega) with rfl | rfl
    · have := wpi_8 hk
      rw [fc.a (ka _ (by omega)), o _ (by omega)]; exact h.s k hk
    · exact hw k hk
  · intro k hk
    by_cases q : k < 12 + 8 * s ∨ 20 + 8 * s ≤ k
    · rw [o _ q]; exact e.r k hk
    · by_cases q7 : k = 12 + 8 * s + 7
      · rw [q7]
        rcases (show s = 0 ∨ s = 1 by omega) with rfl | rfl
        · show lo 19 ≤ _ ∧ _ ≤ hi 19
          rw [l7.1, l7.2.1]; exact hb7
        · show lo 27 ≤ _ ∧ _ ≤ hi 27
          rw [l7.2.2.1, l7.2.2.2]; exact hb7
      · obtain ⟨j, rfl, hj⟩ : ∃ j, k = 12 + 8 * s + j ∧ j < 7 := ⟨k - (12 + 8 * s), by omega, by omega⟩
        have lw := lo_w hj
        rcases (show s = 0 ∨ s = 1 by omega) with rfl | rfl
        · rw [show 12 + 8 * 0 + j = 12 + j by omega, lw.1, lw.2.1]; exact hb j hj
        · rw [show 12 + 8 * 1 + j = 20 + j by omega, lw.2.2.1, lw.2.2.2]; exact hb j hj
  · rw [o _ (by omega), o _ (by omega)]; exact e.z
  · rw [o _ (by omega), o _ (by omega), o _ (by omega)]; exact e.o
  · rw [o _ (by omega), lgW_eq (o 0 (by omega)) (o 1 (by omega))]; exact e.x
  · cases q : (a == 52 + s)
    · rfl
    · have : a = 52 + s := by simpa using q
      subst this
      unfold eA at z; revert z; simp; omega
theorem EP.wish {j : Nat} {x : Int32} (hs : s ≤ 1) (hj : j < 7) (h : EVq c 45 (gA m 134)) (e : EB (gA m 134)) (x1 : -2000000 ≤ x.toInt) (x2 : x.toInt ≤ 2000000) : EP c m (uA (uA c (52 + s) j x) (52 + s) 7 (-1)) (uA (uA m 134 (12 + 8 * s + wpi j) x) 134 (12 + 8 * s + 7) (-1)) := by
  have hw := wpi_lt hj
  have gm : ∀ k, gA (uA (uA m 134 (12 + 8 * s + wpi j) x) 134 (12 + 8 * s + 7) (-1)) 134 k = if k = 12 + 8 * s + 7 then -1 else if k = 12 + 8 * s + wpi j then x else gA m 134 k := fun k => by
    rw [gA_one]; split
    · rfl
    · rw [gA_one]
  refine EP.wsh hs h e ((Fr.refl.uA _ _ (by simp)).uA _ _ (by simp)) ((Fr.refl.uA _ _ (by rfl)).uA _ _ (by rfl)) (fun k hk => ?_) (fun k hk => ?_) (fun k hk => ?_) ?_
  · rw [gm, if_neg (by omega), if_neg (by omega)]
  · rw [gm, gA_one]
    by_cases q7 : k = 7
    · rw [if_pos q7, q7, if_pos (by rw [wpi_7])]
    · have w7 : wpi k < 7 := wpi_lt (by omega)
      rw [if_neg q7, if_neg (by omega), gA_one]
      by_cases q : k = j
      · rw [if_pos q, if_pos (by rw [q])]
      · rw [if_neg q, if_neg (fun z => q (wpi_inj hk (by omega) (by omega)))]
        rcases (show s = 0 ∨ s = 1 by omega) with rfl | rfl
        · exact h.f k hk
        · exact h.s k hk
  · rw [gm, if_neg (by omega)]
    by_cases q : 12 + 8 * s + k = 12 + 8 * s + wpi j
    · rw [if_pos q]; exact ⟨x1, x2⟩
    · rw [if_neg q]
      have lw := lo_w hk
      rcases (show s = 0 ∨ s = 1 by omega) with rfl | rfl
      · have := e.r (12 + k) (by omega)
        rw [lw.1, lw.2.1] at this
        exact this
      · have := e.r (20 + k) (by omega)
        rw [lw.2.2.1, lw.2.2.2] at this
        exact this
  · rw [gm, if_pos rfl]; decide
theorem ln_w (hs : s ≤ 1) : LN (52 + s) = 8 := by
  rcases (show s = 0 ∨ s = 1 by omega) with rfl | rfl <;> rfl
theorem c_wish {j : Nat} {x : Int32} (hs : s ≤ 1) (hj : j < 7) : f_X9_wish (52 + s) (nI j) x c = some (1, uA (uA c (52 + s) j x) (52 + s) 7 (-1)) := by
  have e8 := ln_w hs
  unfold f_X9_wish
  rw [if_neg (nI_pos (by omega)), if_neg (show ¬ (7 : Int32) ≤ nI j from nI_ge (b := 7) (by omega) (by omega)), e8, if_pos (by decide), ix_in (j := j) (nI_pos (by omega)) (nI_clamp (by omega)) (by omega), lb_eq, ix_in (j := 7) (by decide) rfl (by omega), lb_eq]
theorem ixB {α : Type} {k : Nat} (hs : s ≤ 1) (hk : k < 8) (K : Nat → Option α) : ix (nI (12 + 8 * s) + nI k) 192 K = K (12 + 8 * s + k) := by
  rw [nI_add, ix_in (j := 12 + 8 * s + k) (nI_pos (by omega)) (nI_clamp (by omega)) (by omega)]
theorem c_199 : f_X9_obeyFont_199 0 T = some ((), T) := by unfold f_X9_obeyFont_199; rw [if_pos rfl]
theorem m_393 {a : Int32} : f_X12_fontField_393 a 0 T = some ((), T) := by unfold f_X12_fontField_393; rw [if_pos rfl]
/-- behind a wish both sides look for the font in use -/
theorem font_fin {j : Nat} {x : Int32} (hs : s ≤ 1) (hj : j < 7) (h : RR d ov c m) (x1 : -2000000 ≤ x.toInt) (x2 : x.toInt ≤ 2000000) : P2 (f_X9_obeyFont_199 1 (uA (uA c (52 + s) j x) (52 + s) 7 (-1))) (f_X12_fontField_393 (nI (12 + 8 * s)) 1 (uA m 134 (12 + 8 * s + wpi j) x)) (fun _ c' _ m' => OU d ov c m c' m') := by
  have ep := EP.wish (c := c) (m := m) (x := x) hs hj h.ev h.eb x1 x2
  have ou := OU.env h ep
  obtain ⟨c2, m2, e1, e2, e3, _⟩ := two_pitch (h.env ep.fc ep.fm ep.v ep.b ep.e0 ep.e1)
  unfold f_X9_obeyFont_199 f_X12_fontField_393
  rw [if_neg (show ¬ (1 : Int32) = 0 by decide), if_neg (show ¬ (1 : Int32) = 0 by decide), bd_u, e1, show (7 : Int32) = nI 7 from rfl, ixB hs (by omega), lb_eq]
  have e2' : (bd (f_X12_fontInUse (uA (uA m 134 (12 + 8 * s + wpi j) x) 134 (12 + 8 * s + 7) (-1))) fun v4 T5 => ix ((nI 7 * v4) + 1) 119 fun j6 => lb (uA T5 134 7 ((gA T5 138 j6))) fun T8 => some ((), T8)) = some ((), m2) := e2
  rw [e2']
  exact P2_ret (OU.pre ou.2.1 ou.2.2 e3)
end E9
