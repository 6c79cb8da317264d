/-! The style of wishes, and the field of fonts whole but its data, on both sides. -/
section F3
variable {c c' c0 c1 c2 c3 m m' m0 m1 m2 m3 T : Mm} {d w b s : Nat} {ov ov' ng sg : Bool} {g L : Nat → Int32} {Gc Gm : Gty} {PF QF : Nat → Nat → Bool} {PA QA : Nat → Bool}
theorem c_none0 : (bd (some ((0 : Int32), c)) fun v17 T18 => f_X9_obeyFont_199 v17 T18) = some ((), c) := by rw [bd_eq, c_199]
theorem P2_pitchW (hs : s ≤ 1) (h : RR d ov c m) (v : VL c m d w b ng sg) : P2 (bd (bd (f_X9_wishPitch (52 + s) c) fun v8 T9 => gd (v8 = 0 ∨ v8 = 1) <| some (v8, T9)) fun v17 T18 => f_X9_obeyFont_199 v17 T18) (if (lg_cmp (gJ m 1253 133) 0) ≤ 0 then (f_X12_fontField_243 (nI (12 + 8 * s)) 0 0 m) else (gd (¬ (gJ m 1253 133) = 0) <| f_X12_fontField_243 (nI (12 + 8 * s)) 0 ((72000000 : Int64) / (gJ m 1253 133)) m)) (fun _ c' _ m' => OU d ov c m c' m') := by
  have stay : P2 (some ((), c)) (some ((), m)) (fun _ c' _ m' => OU d ov c m c' m') := P2_ret (OU.refl h)
  have vb := ve_b (ng := ng) v.1 v.2.1
  unfold f_X9_wishPitch
  rw [rd_eq h, v.exact, bd_eq, v.2.2.2.2.2.2.2.1]
  by_cases q : ve w b ng ≤ 0
  · have e1 : ¬ 0 < lg_cmp (jz (ve w b ng)) 0 := fun y => by
      rw [c_gt, show (0 : Int64) = jz 0 from rfl, jz_lt (by omega) (by omega) (by omega) (by omega)] at y
      omega
    have e2 : lg_cmp (jz (ve w b ng)) 0 ≤ 0 := by
      rw [c_le, show (0 : Int64) = jz 0 from rfl, jz_le (by omega) (by omega) (by omega) (by omega)]
      exact q
    rw [if_neg e1, if_pos e2, bd_eq, gd_eq (Or.inl rfl), bd_eq, c_199]
    unfold f_X12_fontField_243
    rw [if_pos (by decide), m_393]
    exact stay
  · have e1 : 0 < lg_cmp (jz (ve w b ng)) 0 := by
      rw [c_gt, show (0 : Int64) = jz 0 from rfl, jz_lt (by omega) (by omega) (by omega) (by omega)]
      omega
    have e2 : ¬ lg_cmp (jz (ve w b ng)) 0 ≤ 0 := fun y => by
      rw [c_le, show (0 : Int64) = jz 0 from rfl, jz_le (by omega) (by omega) (by omega) (by omega)] at y
      omega
    have nz : ¬ jz (ve w b ng) = 0 := fun y => by
      have := (jz_inj (a := ve w b ng) (b := 0) (by omega) (by omega) (by omega) (by omega)).mp y
      omega
    rw [if_pos e1, if_neg e2, gd_eq nz, gd_eq nz, lb_eq, show (72000000 : Int64) = jz 72000000 from rfl, jz_div (by omega) (by omega) (by omega) (by omega)]
    have t0 : (72000000 : Int).tdiv (ve w b ng) = 72000000 / ve w b ng := Int.tdiv_eq_ediv_of_nonneg (by omega)
    have tb : 0 ≤ (72000000 : Int) / ve w b ng ∧ (72000000 : Int) / ve w b ng ≤ 72000000 := ⟨Int.ediv_nonneg (by omega) (by omega), Int.ediv_le_self _ (by omega)⟩
    rw [t0]
    revert tb
    generalize (72000000 : Int) / ve w b ng = p
    intro tb
    unfold f_X12_fontField_243 f_X9_wishPitch_44
    have l1 : lg_cmp (jz p) 1 < 0 ↔ p < 1 := by
      rw [c_lt, show (1 : Int64) = jz 1 from rfl]; exact jz_lt (by omega) (by omega) (by omega) (by omega)
    have l2 : 0 < lg_cmp (jz p) 7200 ↔ 7200 < p := by
      rw [c_gt, show (7200 : Int64) = jz 7200 from rfl]; exact jz_lt (by omega) (by omega) (by omega) (by omega)
    by_cases q1 : p < 1
    · rw [if_pos (l1.mpr q1), if_pos (l1.mpr q1), if_pos rfl, bd_eq, gd_eq (Or.inl rfl), bd_eq, c_199, m_393]; exact stay
    rw [if_neg (fun y => q1 (l1.mp y)), if_neg (fun y => q1 (l1.mp y))]
    by_cases q2 : 7200 < p
    · rw [if_pos (l2.mpr q2), if_pos (l2.mpr q2), if_pos rfl, bd_eq, gd_eq (Or.inl rfl), bd_eq, c_199, m_393]; exact stay
    rw [if_neg (fun y => q2 (l2.mp y)), if_neg (fun y => q2 (l2.mp y)), if_neg (show ¬ (1 : Int32) = 0 by decide), jz_int32, show (1 : Int32) = nI 1 from rfl, ixB hs (by omega), lb_eq, show (2 : Int32) = nI 2 from rfl, c_wish hs (by omega), bd_eq, if_neg (by decide), bd_eq, gd_eq (Or.inr rfl), bd_eq]
    have ei := iz_int (a := p) (by omega) (by omega)
    exact font_fin (j := 2) hs (by omega) h (by rw [ei]; omega) (by rw [ei]; omega)
theorem P2_style {k : Nat} (hk : k < 256) (hs : s ≤ 1) (h : RR d ov c m) (v : VL c m d w b ng sg) (hl : gI c 505 (125 + d) = nI k) : P2 (bd (f_X9_styleField (52 + s) (iz (vz w ng)) c) fun v17 T18 => f_X9_obeyFont_199 v17 T18) (f_X12_fontField (nI s) 115 (nI k) m) (fun _ c' _ m' => OU d ov c m c' m') := by
  have zb := vz_b (ng := ng) v.1
  have n : ∀ a, a < 256 → ¬ k = a → ¬ nI k = nI a := fun a ha q => nI_ne hk ha q
  have stay : P2 (some ((), c)) (some ((), m)) (fun _ c' _ m' => OU d ov c m c' m') := P2_ret (OU.refl h)
  have pw := P2_pitchW hs h v
  have nm := v.nm
  revert nm zb
  generalize vz w ng = z
  intro zb nm
  have p0 : iz z < 0 ↔ z < 0 := iz_neg0 zb.1 zb.2
  have p255 : 255 < iz z ↔ 255 < z := by rw [show (255 : Int32) = iz 255 from rfl]; exact iz_lt (by omega) (by omega) (by omega) (by omega)
  have ei := iz_int (a := z) (by omega) (by omega)
  have e12 : (12 : Int32) + (8 : Int32) * nI s = nI (12 + 8 * s) := by
    rw [show (8 : Int32) * nI s = nI (8 * s) from pk_mul 8 s, show (12 : Int32) + nI (8 * s) = nI (12 + 8 * s) from nI_add 12 _]
  have ec : f_X9_styleField (52 + s) (iz z) c = f_X9_styleField_16 (52 + s) (iz z) (cI (decide (0 ≤ z ∧ z ≤ 255))) c := by
    unfold f_X9_styleField
    by_cases y0 : z < 0
    · rw [if_pos (p0.mpr y0), decide_eq_false (by omega)]; rfl
    · rw [if_neg (fun y => y0 (p0.mp y))]
      by_cases y1 : 255 < z
      · rw [if_pos (p255.mpr y1), decide_eq_false (by omega)]; rfl
      · rw [if_neg (fun y => y1 (p255.mp y)), decide_eq_true (by omega)]; rfl
  unfold f_X12_fontField
  rw [ec, lb_eq, e12, if_neg (show ¬ (115 : Int32) = 0 by decide), if_pos rfl]
  unfold f_X9_styleField_16
  rw [rd_eq h, lb_eq, hl]
  -- a number of one byte
  have byte : ∀ (j : Nat) (K : Mm → Option (Unit × Mm)), j < 7 → (0 ≤ z ∧ z ≤ 255 → K m = f_X12_fontField_393 (nI (12 + 8 * s)) 1 (uA m 134 (12 + 8 * s + wpi j) (iz z))) → P2 (bd (if cI (decide (0 ≤ z ∧ z ≤ 255)) = 0 then (some (0, c)) else (bd (f_X9_wish (52 + s) (nI j) (iz z) c) fun v19 T20 => if v19 = 0 then (some (0, T20)) else (some (1, T20)))) fun v17 T18 => f_X9_obeyFont_199 v17 T18) (if iz z < 0 then (f_X12_fontField_393 (nI (12 + 8 * s)) 0 m) else (if 255 < iz z then (f_X12_fontField_393 (nI (12 + 8 * s)) 0 m) else K m)) (fun _ c' _ m' => OU d ov c m c' m') := fun j K hj hK => by
    by_cases y : 0 ≤ z ∧ z ≤ 255
    · rw [decide_eq_true y, if_neg (show ¬ cI true = 0 by decide), if_neg (fun u => by have := p0.mp u; omega), if_neg (fun u => by have := p255.mp u; omega), hK y, wi_end hs hj]
      exact font_fin hs hj h (by rw [ei]; omega) (by rw [ei]; omega)
    · rw [decide_eq_false y, if_pos (show cI false = 0 from rfl), c_none0]
      by_cases y0 : z < 0
      · rw [if_pos (p0.mpr y0), m_393]; exact stay
      · rw [if_neg (fun u => y0 (p0.mp u)), if_pos (p255.mpr (by omega)), m_393]; exact stay
  by_cases q66 : k = 66
  · subst q66
    rw [if_pos (show nI 66 = 66 from rfl), if_neg (show ¬ nI 66 = 80 by decide), if_neg (show ¬ nI 66 = 72 by decide), if_neg (show ¬ nI 66 = 86 by decide), if_neg (show ¬ nI 66 = 83 by decide), if_neg (show ¬ nI 66 = 84 by decide), if_pos (show nI 66 = 66 from rfl), nm]
    have pm : iz z < -128 ↔ z < -128 := by rw [show (-128 : Int32) = iz (-128) by decide]; exact iz_lt (by omega) (by omega) (by omega) (by omega)
    have pp : 127 < iz z ↔ 127 < z := by rw [show (127 : Int32) = iz 127 from rfl]; exact iz_lt (by omega) (by omega) (by omega) (by omega)
    by_cases y0 : z < -128
    · rw [if_pos (pm.mpr y0), if_pos (pm.mpr y0), c_none0, m_393]; exact stay
    rw [if_neg (fun y => y0 (pm.mp y)), if_neg (fun y => y0 (pm.mp y))]
    by_cases y1 : 127 < z
    · rw [if_pos (pp.mpr y1), if_pos (pp.mpr y1), c_none0, m_393]; exact stay
    rw [if_neg (fun y => y1 (pp.mp y)), if_neg (fun y => y1 (pp.mp y)), show (4 : Int32) = nI 4 from rfl, ixB hs (by omega), lb_eq, show (5 : Int32) = nI 5 from rfl, wi_end hs (by omega)]
    exact font_fin (j := 5) hs (by omega) h (by rw [ei]; omega) (by rw [ei]; omega)
  rw [if_neg (show ¬ nI k = 66 from n 66 (by decide) q66)]
  by_cases q72 : k = 72
  · subst q72
    rw [if_pos (show nI 72 = 72 from rfl), if_neg (show ¬ nI 72 = 80 by decide), if_pos (show nI 72 = 72 from rfl)]
    exact pw
  rw [if_neg (show ¬ nI k = 72 from n 72 (by decide) q72)]
  by_cases q80 : k = 80
  · subst q80
    rw [if_pos (show nI 80 = 80 from rfl), if_pos (show nI 80 = 80 from rfl), nm]
    have ix0 : ∀ {α : Type} (K : Nat → Option α), ix (nI (12 + 8 * s)) 192 K = K (12 + 8 * s) := fun K => ix_in (j := 12 + 8 * s) (nI_pos (by omega)) (nI_clamp (by omega)) (by omega)
    by_cases y : iz z = 0
    · rw [if_pos y, if_pos y, show (1 : Int32) = nI 1 from rfl, ix0, lb_eq]
      have := wi_end2 (c := c) (x := 0) (j := 1) hs (by omega)
      rw [show (nI 1 : Int32) = 1 from rfl] at this ⊢
      rw [this]
      exact font_fin (j := 1) hs (by omega) h (by decide) (by decide)
    · rw [if_neg y, if_neg y, ix0, lb_eq]
      have := wi_end2 (c := c) (x := 1) (j := 1) hs (by omega)
      rw [show (nI 1 : Int32) = 1 from rfl] at this
      rw [this]
      exact font_fin (j := 1) hs (by omega) h (by decide) (by decide)
  rw [if_neg (show ¬ nI k = 80 from n 80 (by decide) q80), if_neg (show ¬ nI k = 80 from n 80 (by decide) q80), if_neg (show ¬ nI k = 72 from n 72 (by decide) q72)]
  have m297 : ∀ k, f_X12_fontField_297 k (nI (12 + 8 * s)) 0 m = (if iz z < 0 then (f_X12_fontField_393 (nI (12 + 8 * s)) 0 m) else (if 255 < iz z then (f_X12_fontField_393 (nI (12 + 8 * s)) 0 m) else (if k = 86 then (f_X12_fontField_393 (nI (12 + 8 * s)) 1 (uA m 134 (12 + 8 * s + 2) (iz z))) else (if k = 83 then (f_X12_fontField_393 (nI (12 + 8 * s)) 1 (uA m 134 (12 + 8 * s + 3) (iz z))) else (f_X12_fontField_393 (nI (12 + 8 * s)) 1 (uA m 134 (12 + 8 * s + 5) (iz z))))))) := fun k => by
    unfold f_X12_fontField_297
    rw [nm, show (2 : Int32) = nI 2 from rfl, ixB hs (by omega), lb_eq, show (3 : Int32) = nI 3 from rfl, ixB hs (by omega), lb_eq, show (5 : Int32) = nI 5 from rfl, ixB hs (by omega), lb_eq]
  by_cases q83 : k = 83
  · subst q83
    rw [if_pos (show nI 83 = 83 from rfl), if_neg (show ¬ nI 83 = 86 by decide), if_pos (show nI 83 = 83 from rfl), m297]
    exact byte 4 (fun m => if nI 83 = 86 then (f_X12_fontField_393 (nI (12 + 8 * s)) 1 (uA m 134 (12 + 8 * s + 2) (iz z))) else (if nI 83 = 83 then (f_X12_fontField_393 (nI (12 + 8 * s)) 1 (uA m 134 (12 + 8 * s + 3) (iz z))) else (f_X12_fontField_393 (nI (12 + 8 * s)) 1 (uA m 134 (12 + 8 * s + 5) (iz z))))) (by omega) (fun _ => by rw [if_neg (show ¬ nI 83 = 86 by decide), if_pos (show nI 83 = 83 from rfl)]; rfl)
  rw [if_neg (show ¬ nI k = 83 from n 83 (by decide) q83)]
  by_cases q84 : k = 84
  · subst q84
    rw [if_pos (show nI 84 = 84 from rfl), if_neg (show ¬ nI 84 = 86 by decide), if_neg (show ¬ nI 84 = 83 by decide), if_pos (show nI 84 = 84 from rfl), m297]
    exact byte 6 (fun m => if nI 84 = 86 then (f_X12_fontField_393 (nI (12 + 8 * s)) 1 (uA m 134 (12 + 8 * s + 2) (iz z))) else (if nI 84 = 83 then (f_X12_fontField_393 (nI (12 + 8 * s)) 1 (uA m 134 (12 + 8 * s + 3) (iz z))) else (f_X12_fontField_393 (nI (12 + 8 * s)) 1 (uA m 134 (12 + 8 * s + 5) (iz z))))) (by omega) (fun _ => by rw [if_neg (show ¬ nI 84 = 86 by decide), if_neg (show ¬ nI 84 = 83 by decide)]; rfl)
  rw [if_neg (show ¬ nI k = 84 from n 84 (by decide) q84)]
  by_cases q86 : k = 86
  · subst q86
    rw [if_pos (show nI 86 = 86 from rfl), if_pos (show nI 86 = 86 from rfl), m297]
    exact byte 3 (fun m => if nI 86 = 86 then (f_X12_fontField_393 (nI (12 + 8 * s)) 1 (uA m 134 (12 + 8 * s + 2) (iz z))) else (if nI 86 = 83 then (f_X12_fontField_393 (nI (12 + 8 * s)) 1 (uA m 134 (12 + 8 * s + 3) (iz z))) else (f_X12_fontField_393 (nI (12 + 8 * s)) 1 (uA m 134 (12 + 8 * s + 5) (iz z))))) (by omega) (fun _ => by rw [if_pos (show nI 86 = 86 from rfl)]; rfl)
  rw [if_neg (show ¬ nI k = 86 from n 86 (by decide) q86), if_neg (show ¬ nI k = 86 from n 86 (by decide) q86), if_neg (show ¬ nI k = 83 from n 83 (by decide) q83), if_neg (show ¬ nI k = 84 from n 84 (by decide) q84), if_neg (show ¬ nI k = 66 from n 66 (by decide) q66), c_none0, m_393]
  exact stay
/-- the fields of fonts without data -/
theorem P2_fontF {k p : Nat} (hk : k < 256) (q87 : ¬ k = 87) (hp : p < 256) (hs : s ≤ 1) (h : RR d ov c m) (v : VL c m d w b ng sg) (hl : gI c 505 (125 + d) = nI k) (h3 : gI c 503 (125 + d) = nI (40 + s)) (h4 : gI c 504 (125 + d) = nI p) : P2 (f_X9_obeyFont c) (f_X12_fontField (nI s) (nI p) (nI k) m) (fun _ c' _ m' => OU d ov c m c' m') := by
  have stay : P2 (some ((), c)) (some ((), m)) (fun _ c' _ m' => OU d ov c m c' m') := P2_ret (OU.refl h)
  have e12 : (12 : Int32) + (8 : Int32) * nI s = nI (12 + 8 * s) := by
    rw [show (8 : Int32) * nI s = nI (8 * s) from pk_mul 8 s, show (12 : Int32) + nI (8 * s) = nI (12 + 8 * s) from nI_add 12 _]
  rw [c_obeyF hs h h3]
  unfold f_X9_obeyFont_56
  simp only [rd_eq h, h4, hl, v.n, bd_eq]
  by_cases p0 : p = 0
  · subst p0
    rw [if_pos (show nI 0 = 0 from rfl)]
    have := P2_font0 hk q87 hs h v hl
    unfold f_X12_fontField
    rw [lb_eq, e12, if_pos (show nI 0 = 0 from rfl)]
    exact this
  have n0 : ¬ nI p = 0 := nI_ne0 (by omega) (by omega)
  rw [if_neg n0]
  by_cases p115 : p = 115
  · subst p115
    rw [if_pos (show nI 115 = 115 from rfl), if_neg (show ¬ nI k = 87 from nI_ne hk (by decide) q87)]
    exact P2_style hk hs h v hl
  have n115 : ¬ nI p = 115 := nI_ne hp (by decide) p115
  have ec : f_X9_obeyFont_125 (nI (1 - s)) 0 c = some ((), c) := by
    unfold f_X9_obeyFont_125 f_X9_obeyFont_169
    simp only [rd_eq h, h4]
    rw [if_neg n115, if_neg n115, c_199]
  unfold f_X12_fontField
  rw [if_neg n115, ec, lb_eq, if_neg n0, if_neg n115, m_393]
  exact stay
end F3
