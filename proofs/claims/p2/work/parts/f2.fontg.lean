/-! The field of fonts by its letter, on both sides. -/
section F2
variable {c c' c0 c1 c2 c3 m m' m0 m1 m2 m3 T : Mm} {d w b s : Nat} {ov ov' ng sg : Bool} {g L : Nat → Int32} {Gc Gm : Gty} {PF QF : Nat → Nat → Bool} {PA QA : Nat → Bool}
/-- which row of wishes -/
theorem c_obeyF (hs : s ≤ 1) (h : RR d ov c m) (h3 : gI c 503 (125 + d) = nI (40 + s)) : f_X9_obeyFont c = f_X9_obeyFont_56 (nI (1 - s)) (52 + s) c := by
  unfold f_X9_obeyFont
  rw [rd_eq h, h3]
  unfold f_X9_obeyFont_17 f_X9_obeyFont_35
  rcases (show s = 0 ∨ s = 1 by omega) with rfl | rfl
  · rw [if_pos (show nI (40 + 0) = 40 from rfl), if_neg (by decide), if_neg (by decide)]; rfl
  · rw [if_neg (show ¬ nI (40 + 1) = 40 by decide), if_pos rfl, rd_eq h, h3, if_pos (show nI (40 + 1) = 41 from rfl), if_pos rfl]; rfl
theorem wi_end {j : Nat} {x : Int32} (hs : s ≤ 1) (hj : j < 7) : (bd (bd (f_X9_wish (52 + s) (nI j) x c) fun v1 T2 => if v1 = 0 then (some (0, T2)) else (some (1, T2))) fun v17 T18 => f_X9_obeyFont_199 v17 T18) = f_X9_obeyFont_199 1 (uA (uA c (52 + s) j x) (52 + s) 7 (-1)) := by
  rw [c_wish hs hj, bd_eq, if_neg (by decide), bd_eq]
theorem wi_end2 {j : Nat} {x : Int32} (hs : s ≤ 1) (hj : j < 7) : (bd (bd (f_X9_wish (52 + s) (nI j) x c) fun v1 T2 => gd (v1 = 0 ∨ v1 = 1) <| some (v1, T2)) fun v17 T18 => f_X9_obeyFont_199 v17 T18) = f_X9_obeyFont_199 1 (uA (uA c (52 + s) j x) (52 + s) 7 (-1)) := by
  rw [c_wish hs hj, bd_eq, gd_eq (Or.inr rfl), bd_eq]
/-- the group without a letter: a set, or a font by its number -/
theorem P2_font0 {k : Nat} (hk : k < 256) (q87 : ¬ k = 87) (hs : s ≤ 1) (h : RR d ov c m) (v : VL c m d w b ng sg) (hl : gI c 505 (125 + d) = nI k) : P2 (bd (f_X9_fontField (52 + s) (iz (vz w ng)) c) fun v17 T18 => f_X9_obeyFont_199 v17 T18) (if nI k = 88 then (if (gI m 1251 133) < 0 then (some ((), m)) else (if 16 < (gI m 1251 133) then (some ((), m)) else (ix (gI m 1251 133) 17 fun j12 => if (gA m 136 j12) = 0 then (some ((), m)) else (f_X12_fontField_l53 FU (nI (12 + 8 * s)) 0 m)))) else (if nI k < 65 then (f_X12_fontField_139 (nI k) (nI (12 + 8 * s)) 0 m) else (if nI k ≤ 86 then (f_X12_fontField_151 (nI k) (nI (12 + 8 * s)) m) else (f_X12_fontField_139 (nI k) (nI (12 + 8 * s)) 0 m)))) (fun _ c' _ m' => OU d ov c m c' m') := by
  have zb := vz_b (ng := ng) v.1
  have nm := v.nm
  have n : ∀ a, a < 256 → ¬ k = a → ¬ nI k = nI a := fun a ha q => nI_ne hk ha q
  have stay : P2 (some ((), c)) (some ((), m)) (fun _ c' _ m' => OU d ov c m c' m') := P2_ret (OU.refl h)
  revert nm zb
  generalize vz w ng = z
  intro zb nm
  unfold f_X9_fontField
  rw [rd_eq h, lb_eq, hl]
  by_cases q88 : k = 88
  · subst q88
    rw [if_pos (show nI 88 = 88 from rfl), if_pos (show nI 88 = 88 from rfl)]
    exact P2_wishFor hs h zb.1 zb.2 nm
  have h88 : ¬ nI k = 88 := n 88 (by decide) q88
  rw [if_neg h88, if_neg h88]
  -- a set is wished
  have yes : 65 ≤ k → k ≤ 90 → P2 (bd (f_X9_fontField_47 (52 + s) (iz z) (nI k) 1 c) fun v17 T18 => f_X9_obeyFont_199 v17 T18) (f_X12_fontField_151 (nI k) (nI (12 + 8 * s)) m) (fun _ c' _ m' => OU d ov c m c' m') := fun k1 k2 => by
    unfold f_X9_fontField_47 f_X12_fontField_151
    have ex : (((32 : Int32) * iz z) + nI k) - 64 = iz (32 * z + k - 64) := by
      rw [show (32 : Int32) = iz 32 from rfl, iz_mul, nI_iz, iz_add, show (64 : Int32) = iz 64 from rfl, iz_sub]
    have ei := iz_int (a := 32 * z + k - 64) (by omega) (by omega)
    rw [if_neg (show ¬ (1 : Int32) = 0 by decide), nm, ex, show (0 : Int32) = nI 0 from rfl, show (6 : Int32) = nI 6 from rfl, ixB hs (by omega), lb_eq]
    refine P2_el (wi_end (j := 0) hs (by omega)) ?_
    exact font_fin (j := 0) hs (by omega) h (by rw [ei]; omega) (by rw [ei]; omega)
  have no : P2 (bd (f_X9_fontField_47 (52 + s) (iz z) (nI k) 0 c) fun v17 T18 => f_X9_obeyFont_199 v17 T18) (some ((), m)) (fun _ c' _ m' => OU d ov c m c' m') := by
    unfold f_X9_fontField_47
    rw [if_pos rfl, bd_eq, c_199]; exact stay
  by_cases l65 : k < 65
  · rw [if_pos (show nI k < 65 from nI_lt (b := 65) l65 (by omega)), if_pos (show nI k < 65 from nI_lt (b := 65) l65 (by omega))]
    unfold f_X12_fontField_139
    rw [if_neg (show ¬ nI k = 89 from n 89 (by decide) (by omega)), if_neg (show ¬ nI k = 90 from n 90 (by decide) (by omega)), m_393]
    exact no
  rw [if_neg (show ¬ nI k < 65 from nI_nlt (b := 65) (by omega) (by omega)), if_neg (show ¬ nI k < 65 from nI_nlt (b := 65) (by omega) (by omega))]
  by_cases l90 : 90 < k
  · rw [if_pos (show 90 < nI k from nI_lt (a := 90) l90 (by omega)), if_neg (show ¬ nI k ≤ 86 from nI_ge (b := k) (a := 86) (by omega) (by omega))]
    unfold f_X12_fontField_139
    rw [if_neg (show ¬ nI k = 89 from n 89 (by decide) (by omega)), if_neg (show ¬ nI k = 90 from n 90 (by decide) (by omega)), m_393]
    exact no
  rw [if_neg (show ¬ 90 < nI k from nI_nlt (a := 90) (by omega) (by omega)), if_neg (show ¬ nI k = 87 from n 87 (by decide) q87)]
  by_cases l86 : k ≤ 86
  · rw [if_pos (show nI k ≤ 86 from nI_le (b := 86) l86 (by omega))]
    exact yes (by omega) (by omega)
  · rw [if_neg (show ¬ nI k ≤ 86 from nI_ge (b := k) (a := 86) (by omega) (by omega))]
    have e139 : f_X12_fontField_139 (nI k) (nI (12 + 8 * s)) 0 m = f_X12_fontField_151 (nI k) (nI (12 + 8 * s)) m := by
      unfold f_X12_fontField_139
      rcases (show k = 89 ∨ k = 90 by omega) with rfl | rfl
      · rw [if_pos (show nI 89 = 89 from rfl)]
      · rw [if_neg (by decide), if_pos (show nI 90 = 90 from rfl)]
    rw [e139]
    exact yes (by omega) (by omega)
end F2
