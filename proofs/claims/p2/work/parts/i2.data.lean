/-! A field with data is obeyed, on both sides. -/
section I2
variable {c c' c0 c1 c2 c3 m m' m0 m1 m2 m3 T T' M' : Mm} {d w b A o M o' n p r q a i s f k u h rb t v kd gp : Nat} {F : Nat → Nat} {ov ov' ng sg z : Bool} {g L : Nat → Int32} {Gc Gm : Gty} {PF QF : Nat → Nat → Bool} {PA QA : Nat → Bool}
/-- the reference's field with data, the count behind it -/
noncomputable def wdT (G : Gty) (a1 a2 a3 b0 : Int32) (T1 : Mm) : Option (Unit × Mm) := lb ((gI T1 1227 133)) fun v2 => if a3 = 88 then (f_X12_withData_l76 G FU b0 v2 0 T1) else (if a1 = 41 then (if a2 = 115 then (bd (f_X12_fontData b0 T1) fun _ T3 => lb (uI T3 1227 133 (v2 + b0)) fun T4 => some ((), T4)) else (f_X12_withData_138 G a1 a2 b0 v2 T1)) else (f_X12_withData_138 G a1 a2 b0 v2 T1))
theorem wd_fin {P B : Option (Unit × Mm)} (h : P2 P B (fun _ c' _ m' => OU d ov c m c' m')) : P2 P (bd B fun _ T3 => lb (uI T3 1227 133 (nI (o' + p) + nI s)) fun T4 => some ((), T4)) (fun _ c' _ m' => OD d ov c m (nI (o' + (p + s))) c' m') := by
  obtain ⟨_, c', _, m', e1, e2, e3⟩ := h
  rw [e1, e2, bd_eq, lb_eq, nI_add, Nat.add_assoc]
  exact P2_ret ⟨m', e3, rfl⟩
theorem wd_idle (h : RR d ov c m) {P : Option (Unit × Mm)} (e : P = some ((), c)) : P2 P (lb (uI m 1227 133 (nI (o' + p) + nI s)) fun T1 => some ((), T1)) (fun _ c' _ m' => OD d ov c m (nI (o' + (p + s))) c' m') := by
  rw [e, lb_eq, nI_add, Nat.add_assoc]
  exact P2_ret ⟨m, OU.refl h, rfl⟩
theorem P2_data (h : RR d ov c m) (gs : GS Gc Gm d) (v : VL c m d w b ng sg) (h9 : DT c m d A o M o' n F p s) (hkd : kd < 256) (hgp : gp < 256) (hk : k = 87 ∨ (k = 88 ∧ kd = 38 ∧ gp = 112)) (h3 : gI c 503 (125 + d) = nI kd) (h4 : gI c 504 (125 + d) = nI gp) (h5 : gI c 505 (125 + d) = nI k) : P2 (f_X9_obey Gc c) (wdT Gm (nI kd) (nI gp) (nI k) (nI s) m) (fun _ c' _ m' => OD d ov c m (nI (o' + (p + s))) c' m') := by
  have nv : ∀ b, b < 70000 → ¬ kd * 256 + gp = b → ¬ nI (kd * 256 + gp) = nI b := fun b hb q y => q ((nI_eq (by omega) (by omega)).mp y)
  have eC : (nI kd <<< ((8 : Int32) &&& 31)) ||| nI gp = nI (kd * 256 + gp) := two_n (by omega) hgp
  have ng' : ∀ a, a < 256 → ¬ gp = a → ¬ nI gp = nI a := fun a ha q => nI_ne hgp ha q
  have nk' : ∀ a, a < 256 → ¬ kd = a → ¬ nI kd = nI a := fun a ha q => nI_ne hkd ha q
  obtain ⟨f, f0, f1⟩ := h.eb.k142
  obtain ⟨kc, k0, k1⟩ := h.eb.k143
  have e116 : gI c 116 45 = nI f := (h.ev.i (116, 0, 142) (by decide)).trans f0
  have e117 : gI c 117 45 = nI kc := (h.ev.i (117, 0, 143) (by decide)).trans k0
  unfold f_X9_obey wdT
  simp only [rd_eq h, h3, h4, h5, v.n, bd_eq, bd_u]
  rw [lb_eq, eC, lb_eq, h9.2.2.2.2]
  rcases hk with rfl | ⟨rfl, rfl, rfl⟩
  case inr =>
    unfold f_X9_showData
    rw [if_neg (show ¬ nI (38 * 256 + 112) = 9825 by decide), if_neg (show ¬ nI (38 * 256 + 112) = 9830 by decide), if_neg (show ¬ nI (38 * 256 + 112) = 9835 by decide), if_neg (show ¬ nI (38 * 256 + 112) = 9836 by decide), if_pos (show nI (38 * 256 + 112) = 9840 from rfl), if_pos (show nI 88 = 88 from rfl), if_pos (show nI 88 = 88 from rfl), rd_eq h]
    exact P2_showData gs FU FU 0 c m (FU_gt (by have := h9.1.n1; have := h9.2.2.2.1; omega)) (FU_gt (by have := h9.1.n1; have := h9.2.2.2.1; omega)) (by omega) h h9
  rw [if_neg (show ¬ nI 87 = 88 by decide), if_neg (show ¬ nI 87 = 88 by decide)]
  -- the reference's idle end
  have m138 : ¬ (kd = 40 ∧ gp = 115) → ¬ (kd = 42 ∧ (gp = 99 ∨ gp = 98)) → f_X12_withData_138 Gm (nI kd) (nI gp) (nI s) (nI (o' + p)) m = lb (uI m 1227 133 (nI (o' + p) + nI s)) fun T1 => some ((), T1) := fun x1 x2 => by
    have e180 : f_X12_withData_180 Gm (nI kd) (nI gp) (nI s) (nI (o' + p)) m = lb (uI m 1227 133 (nI (o' + p) + nI s)) fun T1 => some ((), T1) := by
      unfold f_X12_withData_180
      by_cases y : kd = 42
      · rw [if_neg (show ¬ nI gp = 98 from ng' 98 (by decide) (by omega)), ite_self]
      · rw [if_neg (show ¬ nI kd = 42 from nk' 42 (by decide) y)]
    have e159 : f_X12_withData_159 Gm (nI kd) (nI gp) (nI s) (nI (o' + p)) m = lb (uI m 1227 133 (nI (o' + p) + nI s)) fun T1 => some ((), T1) := by
      unfold f_X12_withData_159
      rw [e180]
      by_cases y : kd = 42
      · rw [if_neg (show ¬ nI gp = 99 from ng' 99 (by decide) (by omega)), ite_self]
      · rw [if_neg (show ¬ nI kd = 42 from nk' 42 (by decide) y)]
    unfold f_X12_withData_138
    rw [e159]
    by_cases y : kd = 40
    · rw [if_neg (show ¬ nI gp = 115 from ng' 115 (by decide) (by omega)), ite_self]
    · rw [if_neg (show ¬ nI kd = 40 from nk' 40 (by decide) y)]
  -- fonts
  have idle : (¬ kd = 40) → (¬ kd = 41) → f_X9_obeyFont c = some ((), c) := fun a b => c_obeyIdle h h3 hkd a b
  have fnt : ∀ s', s' ≤ 1 → kd = 40 + s' → f_X9_obeyFont c = if gp = 115 then (if s' = 0 then f_X2_sendGlyph (nI f) (nI kc) (125 + d) c else f_X2_send (nI f) (125 + d) c) else some ((), c) := fun s' hs' hks => by
    rw [c_obeyF hs' h (by rw [h3, hks])]
    unfold f_X9_obeyFont_56
    simp only [rd_eq h, h4, h5, v.n, bd_eq]
    by_cases p0 : gp = 0
    · subst p0
      rw [if_pos (show nI 0 = 0 from rfl), if_neg (by decide)]
      unfold f_X9_fontField
      rw [rd_eq h, lb_eq, h5, if_neg (show ¬ nI 87 = 88 by decide), if_neg (show ¬ nI 87 < 65 by decide), if_neg (show ¬ 90 < nI 87 by decide), if_pos (show nI 87 = 87 from rfl)]
      unfold f_X9_fontField_47
      rw [if_pos rfl, bd_eq, c_199]
    rw [if_neg (nI_ne0 (by omega) (by omega))]
    by_cases p115 : gp = 115
    · subst p115
      have e169 : f_X9_obeyFont_169 0 c = f_X2_send (nI f) (125 + d) c := by
        unfold f_X9_obeyFont_169
        simp only [rd_eq h, h4, e116]
        rw [if_pos (show nI 115 = 115 from rfl)]
        cases f_X2_send (nI f) (125 + d) c with
        | none => rfl
        | some x => rw [bd_eq, c_199]
      rw [if_pos (show nI 115 = 115 from rfl), if_pos (show nI 87 = 87 from rfl), if_pos rfl]
      unfold f_X9_obeyFont_125
      simp only [rd_eq h, h4, e116, e117]
      rw [if_pos (show nI 115 = 115 from rfl)]
      rcases (show s' = 0 ∨ s' = 1 by omega) with rfl | rfl
      · rw [if_neg (show ¬ nI (1 - 0) = 0 by decide), if_pos rfl]
        cases f_X2_sendGlyph (nI f) (nI kc) (125 + d) c with
        | none => rfl
        | some x => rw [bd_eq, c_199]
      · rw [if_pos (show nI (1 - 1) = 0 from rfl), if_neg (by decide)]
        exact e169
    · have n115 : ¬ nI gp = 115 := ng' 115 (by decide) p115
      rw [if_neg n115, if_neg p115]
      unfold f_X9_obeyFont_125 f_X9_obeyFont_169
      simp only [rd_eq h, h4]
      rw [if_neg n115, if_neg n115, c_199]
  by_cases q41 : kd = 41
  · rw [if_neg (show ¬ nI (kd * 256 + gp) = 9825 from nv 9825 (by omega) (by omega)), if_neg (show ¬ nI (kd * 256 + gp) = 9830 from nv 9830 (by omega) (by omega)), if_neg (show ¬ nI (kd * 256 + gp) = 9835 from nv 9835 (by omega) (by omega)), if_neg (show ¬ nI (kd * 256 + gp) = 9836 from nv 9836 (by omega) (by omega)), if_neg (show ¬ nI (kd * 256 + gp) = 9840 from nv 9840 (by omega) (by omega)), if_neg (show ¬ nI (kd * 256 + gp) = 9843 from nv 9843 (by omega) (by omega)), if_neg (show ¬ nI (kd * 256 + gp) = 10850 from nv 10850 (by omega) (by omega)), if_neg (show ¬ nI (kd * 256 + gp) = 10851 from nv 10851 (by omega) (by omega)), if_neg (show ¬ nI (kd * 256 + gp) = 10864 from nv 10864 (by omega) (by omega)), if_neg (show ¬ nI (kd * 256 + gp) = 10866 from nv 10866 (by omega) (by omega)), if_neg (show ¬ nI (kd * 256 + gp) = 10868 from nv 10868 (by omega) (by omega)), if_neg (show ¬ nI (kd * 256 + gp) = 10870 from nv 10870 (by omega) (by omega)), fnt 1 (by omega) (by omega), if_pos (show nI kd = 41 by rw [q41]; rfl)]
    by_cases q115 : gp = 115
    · rw [if_pos q115, if_neg (by decide), if_pos (show nI gp = 115 by rw [q115]; rfl)]
      exact wd_fin (P2_fontData (by omega) h h9 f0)
    · rw [if_neg q115, if_neg (show ¬ nI gp = 115 from ng' 115 (by decide) q115), m138 (by omega) (by omega)]
      exact wd_idle h rfl
  rw [if_neg (show ¬ nI kd = 41 from nk' 41 (by decide) q41)]
  by_cases q40 : kd = 40
  · rw [if_neg (show ¬ nI (kd * 256 + gp) = 9825 from nv 9825 (by omega) (by omega)), if_neg (show ¬ nI (kd * 256 + gp) = 9830 from nv 9830 (by omega) (by omega)), if_neg (show ¬ nI (kd * 256 + gp) = 9835 from nv 9835 (by omega) (by omega)), if_neg (show ¬ nI (kd * 256 + gp) = 9836 from nv 9836 (by omega) (by omega)), if_neg (show ¬ nI (kd * 256 + gp) = 9840 from nv 9840 (by omega) (by omega)), if_neg (show ¬ nI (kd * 256 + gp) = 9843 from nv 9843 (by omega) (by omega)), if_neg (show ¬ nI (kd * 256 + gp) = 10850 from nv 10850 (by omega) (by omega)), if_neg (show ¬ nI (kd * 256 + gp) = 10851 from nv 10851 (by omega) (by omega)), if_neg (show ¬ nI (kd * 256 + gp) = 10864 from nv 10864 (by omega) (by omega)), if_neg (show ¬ nI (kd * 256 + gp) = 10866 from nv 10866 (by omega) (by omega)), if_neg (show ¬ nI (kd * 256 + gp) = 10868 from nv 10868 (by omega) (by omega)), if_neg (show ¬ nI (kd * 256 + gp) = 10870 from nv 10870 (by omega) (by omega)), fnt 0 (by omega) (by omega)]
    by_cases q115 : gp = 115
    · rw [if_pos q115, if_pos rfl]
      unfold f_X12_withData_138
      rw [if_pos (show nI kd = 40 by rw [q40]; rfl), if_pos (show nI gp = 115 by rw [q115]; rfl)]
      exact wd_fin (P2_glyphData (by omega) (by omega) h h9 f0 k0)
    · rw [if_neg q115, m138 (by omega) (by omega)]
      exact wd_idle h rfl
  by_cases qk : kd = 42
  · by_cases qg : gp = 99
    · rw [if_neg (show ¬ nI (kd * 256 + gp) = 9825 from nv 9825 (by omega) (by omega)), if_neg (show ¬ nI (kd * 256 + gp) = 9830 from nv 9830 (by omega) (by omega)), if_neg (show ¬ nI (kd * 256 + gp) = 9835 from nv 9835 (by omega) (by omega)), if_neg (show ¬ nI (kd * 256 + gp) = 9836 from nv 9836 (by omega) (by omega)), if_neg (show ¬ nI (kd * 256 + gp) = 9840 from nv 9840 (by omega) (by omega)), if_neg (show ¬ nI (kd * 256 + gp) = 9843 from nv 9843 (by omega) (by omega)), if_neg (show ¬ nI (kd * 256 + gp) = 10850 from nv 10850 (by omega) (by omega)), if_pos (show nI (kd * 256 + gp) = 10851 by rw [qk, qg]; rfl)]
      have e1 : f_X9_controlField (iz (vz w ng)) c = f_X9_tellTile (gI c 118 45) c := by
        unfold f_X9_controlField
        rw [rd_eq h, lb_eq, h5, if_neg (show ¬ nI 87 = 65 by decide), if_neg (show ¬ nI 87 = 66 by decide), if_neg (show ¬ nI 87 = 67 by decide), if_neg (show ¬ nI 87 = 68 by decide), if_neg (show ¬ nI 87 = 69 by decide), if_neg (show ¬ nI 87 = 70 by decide), if_neg (show ¬ nI 87 = 71 by decide), if_neg (show ¬ nI 87 = 72 by decide), if_neg (show ¬ nI 87 = 73 by decide), if_neg (show ¬ nI 87 = 74 by decide), if_neg (show ¬ nI 87 = 75 by decide), if_neg (show ¬ nI 87 = 76 by decide), if_neg (show ¬ nI 87 = 77 by decide), if_neg (show ¬ nI 87 = 78 by decide), if_neg (show ¬ nI 87 = 79 by decide), if_neg (show ¬ nI 87 = 80 by decide), if_neg (show ¬ nI 87 = 81 by decide), if_neg (show ¬ nI 87 = 82 by decide), if_neg (show ¬ nI 87 = 83 by decide), if_neg (show ¬ nI 87 = 84 by decide), if_neg (show ¬ nI 87 = 85 by decide), if_neg (show ¬ nI 87 = 86 by decide), if_pos (show nI 87 = 87 from rfl), bd_u]
      rw [e1]
      unfold f_X12_withData_138 f_X12_withData_159
      rw [if_neg (show ¬ nI kd = 40 from nk' 40 (by decide) q40), if_pos (show nI kd = 42 by rw [qk]; rfl), if_pos (show nI gp = 99 by rw [qg]; rfl)]
      exact wd_fin (P2_userData h h9)
    by_cases qg : gp = 98
    · rw [if_neg (show ¬ nI (kd * 256 + gp) = 9825 from nv 9825 (by omega) (by omega)), if_neg (show ¬ nI (kd * 256 + gp) = 9830 from nv 9830 (by omega) (by omega)), if_neg (show ¬ nI (kd * 256 + gp) = 9835 from nv 9835 (by omega) (by omega)), if_neg (show ¬ nI (kd * 256 + gp) = 9836 from nv 9836 (by omega) (by omega)), if_neg (show ¬ nI (kd * 256 + gp) = 9840 from nv 9840 (by omega) (by omega)), if_neg (show ¬ nI (kd * 256 + gp) = 9843 from nv 9843 (by omega) (by omega)), if_pos (show nI (kd * 256 + gp) = 10850 by rw [qk, qg]; rfl)]
      have e1 : f_X9_rowField (iz (vz w ng)) c = f_X9_rasterRow c := by
        unfold f_X9_rowField f_X9_rowField_37 f_X9_rowField_101
        simp only [rd_eq h, h5]
        rw [if_neg (show ¬ nI 87 = 77 by decide), if_neg (show ¬ nI 87 = 89 by decide), if_pos (show nI 87 = 87 from rfl), bd_u]
      rw [e1]
      unfold f_X12_withData_138 f_X12_withData_159 f_X12_withData_180
      rw [if_neg (show ¬ nI kd = 40 from nk' 40 (by decide) q40), if_pos (show nI kd = 42 by rw [qk]; rfl), if_neg (show ¬ nI gp = 99 from ng' 99 (by decide) (by omega)), if_pos (show nI kd = 42 by rw [qk]; rfl), if_pos (show nI gp = 98 by rw [qg]; rfl)]
      exact wd_fin (P2_rowData h h9)
    rw [m138 (by omega) (by omega)]
    by_cases qg : gp = 112
    · rw [if_neg (show ¬ nI (kd * 256 + gp) = 9825 from nv 9825 (by omega) (by omega)), if_neg (show ¬ nI (kd * 256 + gp) = 9830 from nv 9830 (by omega) (by omega)), if_neg (show ¬ nI (kd * 256 + gp) = 9835 from nv 9835 (by omega) (by omega)), if_neg (show ¬ nI (kd * 256 + gp) = 9836 from nv 9836 (by omega) (by omega)), if_neg (show ¬ nI (kd * 256 + gp) = 9840 from nv 9840 (by omega) (by omega)), if_neg (show ¬ nI (kd * 256 + gp) = 9843 from nv 9843 (by omega) (by omega)), if_neg (show ¬ nI (kd * 256 + gp) = 10850 from nv 10850 (by omega) (by omega)), if_neg (show ¬ nI (kd * 256 + gp) = 10851 from nv 10851 (by omega) (by omega)), if_pos (show nI (kd * 256 + gp) = 10864 by rw [qk, qg]; rfl)]
      have e1 : f_X9_dotPlaceField c = some ((), c) := by
        unfold f_X9_dotPlaceField
        simp only [rd_eq h, h5]
        rw [if_neg (by decide), if_neg (by decide), if_neg (by decide)]
      exact wd_idle h e1
    by_cases qg : gp = 114
    · rw [if_neg (show ¬ nI (kd * 256 + gp) = 9825 from nv 9825 (by omega) (by omega)), if_neg (show ¬ nI (kd * 256 + gp) = 9830 from nv 9830 (by omega) (by omega)), if_neg (show ¬ nI (kd * 256 + gp) = 9835 from nv 9835 (by omega) (by omega)), if_neg (show ¬ nI (kd * 256 + gp) = 9836 from nv 9836 (by omega) (by omega)), if_neg (show ¬ nI (kd * 256 + gp) = 9840 from nv 9840 (by omega) (by omega)), if_neg (show ¬ nI (kd * 256 + gp) = 9843 from nv 9843 (by omega) (by omega)), if_neg (show ¬ nI (kd * 256 + gp) = 10850 from nv 10850 (by omega) (by omega)), if_neg (show ¬ nI (kd * 256 + gp) = 10851 from nv 10851 (by omega) (by omega)), if_neg (show ¬ nI (kd * 256 + gp) = 10864 from nv 10864 (by omega) (by omega)), if_pos (show nI (kd * 256 + gp) = 10866 by rw [qk, qg]; rfl)]
      have e1 : f_X9_rasterField (iz (vz w ng)) c = some ((), c) := by
        unfold f_X9_rasterField
        rw [rd_eq h, lb_eq, h5, if_neg (by decide), if_neg (by decide), if_neg (by decide), if_neg (by decide), if_neg (by decide)]
      exact wd_idle h e1
    by_cases qg : gp = 116
    · rw [if_neg (show ¬ nI (kd * 256 + gp) = 9825 from nv 9825 (by omega) (by omega)), if_neg (show ¬ nI (kd * 256 + gp) = 9830 from nv 9830 (by omega) (by omega)), if_neg (show ¬ nI (kd * 256 + gp) = 9835 from nv 9835 (by omega) (by omega)), if_neg (show ¬ nI (kd * 256 + gp) = 9836 from nv 9836 (by omega) (by omega)), if_neg (show ¬ nI (kd * 256 + gp) = 9840 from nv 9840 (by omega) (by omega)), if_neg (show ¬ nI (kd * 256 + gp) = 9843 from nv 9843 (by omega) (by omega)), if_neg (show ¬ nI (kd * 256 + gp) = 10850 from nv 10850 (by omega) (by omega)), if_neg (show ¬ nI (kd * 256 + gp) = 10851 from nv 10851 (by omega) (by omega)), if_neg (show ¬ nI (kd * 256 + gp) = 10864 from nv 10864 (by omega) (by omega)), if_neg (show ¬ nI (kd * 256 + gp) = 10866 from nv 10866 (by omega) (by omega)), if_pos (show nI (kd * 256 + gp) = 10868 by rw [qk, qg]; rfl)]
      have e1 : f_X9_scaleField (iz (vz w ng)) c = some ((), c) := by
        unfold f_X9_scaleField
        rw [rd_eq h, h5, if_neg (by decide)]
      exact wd_idle h e1
    by_cases qg : gp = 118
    · rw [if_neg (show ¬ nI (kd * 256 + gp) = 9825 from nv 9825 (by omega) (by omega)), if_neg (show ¬ nI (kd * 256 + gp) = 9830 from nv 9830 (by omega) (by omega)), if_neg (show ¬ nI (kd * 256 + gp) = 9835 from nv 9835 (by omega) (by omega)), if_neg (show ¬ nI (kd * 256 + gp) = 9836 from nv 9836 (by omega) (by omega)), if_neg (show ¬ nI (kd * 256 + gp) = 9840 from nv 9840 (by omega) (by omega)), if_neg (show ¬ nI (kd * 256 + gp) = 9843 from nv 9843 (by omega) (by omega)), if_neg (show ¬ nI (kd * 256 + gp) = 10850 from nv 10850 (by omega) (by omega)), if_neg (show ¬ nI (kd * 256 + gp) = 10851 from nv 10851 (by omega) (by omega)), if_neg (show ¬ nI (kd * 256 + gp) = 10864 from nv 10864 (by omega) (by omega)), if_neg (show ¬ nI (kd * 256 + gp) = 10866 from nv 10866 (by omega) (by omega)), if_neg (show ¬ nI (kd * 256 + gp) = 10868 from nv 10868 (by omega) (by omega)), if_pos (show nI (kd * 256 + gp) = 10870 by rw [qk, qg]; rfl)]
      have e1 : f_X9_inkField (iz (vz w ng)) c = some ((), c) := by
        unfold f_X9_inkField f_X9_inkField_14 f_X9_inkField_51 f_X9_inkField_87
        simp only [rd_eq h, h5]
        simp only [show ¬ nI 87 = 78 by decide, show ¬ nI 87 = 79 by decide, show ¬ nI 87 = 84 by decide, if_false, ite_self]
      exact wd_idle h e1
    rw [if_neg (show ¬ nI (kd * 256 + gp) = 9825 from nv 9825 (by omega) (by omega)), if_neg (show ¬ nI (kd * 256 + gp) = 9830 from nv 9830 (by omega) (by omega)), if_neg (show ¬ nI (kd * 256 + gp) = 9835 from nv 9835 (by omega) (by omega)), if_neg (show ¬ nI (kd * 256 + gp) = 9836 from nv 9836 (by omega) (by omega)), if_neg (show ¬ nI (kd * 256 + gp) = 9840 from nv 9840 (by omega) (by omega)), if_neg (show ¬ nI (kd * 256 + gp) = 9843 from nv 9843 (by omega) (by omega)), if_neg (show ¬ nI (kd * 256 + gp) = 10850 from nv 10850 (by omega) (by omega)), if_neg (show ¬ nI (kd * 256 + gp) = 10851 from nv 10851 (by omega) (by omega)), if_neg (show ¬ nI (kd * 256 + gp) = 10864 from nv 10864 (by omega) (by omega)), if_neg (show ¬ nI (kd * 256 + gp) = 10866 from nv 10866 (by omega) (by omega)), if_neg (show ¬ nI (kd * 256 + gp) = 10868 from nv 10868 (by omega) (by omega)), if_neg (show ¬ nI (kd * 256 + gp) = 10870 from nv 10870 (by omega) (by omega))]
    exact wd_idle h (idle (by omega) (by omega))
  rw [m138 (by omega) (by omega)]
  by_cases qk : kd = 38
  · by_cases qg : gp = 97
    · rw [if_pos (show nI (kd * 256 + gp) = 9825 by rw [qk, qg]; rfl)]
      have e1 : f_X9_placeField (iz (vz w ng)) c = some ((), c) := by
        unfold f_X9_placeField
        rw [rd_eq h, lb_eq, h5]
        rw [if_neg (show ¬ nI 87 = 67 by decide), if_neg (show ¬ nI 87 = 68 by decide), if_neg (show ¬ nI 87 = 69 by decide), if_neg (show ¬ nI 87 = 70 by decide), if_neg (show ¬ nI 87 = 71 by decide), if_neg (show ¬ nI 87 = 72 by decide), if_neg (show ¬ nI 87 = 73 by decide), if_neg (show ¬ nI 87 = 74 by decide), if_neg (show ¬ nI 87 = 75 by decide), if_neg (show ¬ nI 87 = 76 by decide), if_neg (show ¬ nI 87 = 77 by decide), if_neg (show ¬ nI 87 = 78 by decide), if_neg (show ¬ nI 87 = 79 by decide), if_neg (show ¬ nI 87 = 80 by decide), if_neg (show ¬ nI 87 = 81 by decide), if_neg (show ¬ nI 87 = 82 by decide), if_neg (show ¬ nI 87 = 83 by decide), if_neg (show ¬ nI 87 = 84 by decide), if_neg (show ¬ nI 87 = 85 by decide), if_neg (show ¬ nI 87 = 86 by decide)]
      exact wd_idle h e1
    by_cases qg : gp = 102
    · rw [if_neg (show ¬ nI (kd * 256 + gp) = 9825 from nv 9825 (by omega) (by omega)), if_pos (show nI (kd * 256 + gp) = 9830 by rw [qk, qg]; rfl)]
      have e1 : f_X9_macroField Gc (iz (vz w ng)) c = some ((), c) := by
        unfold f_X9_macroField f_X9_macroField_33 f_X9_macroField_62 f_X9_macroField_92
        simp only [rd_eq h, h5]
        simp only [show ¬ nI 87 = 89 by decide, show ¬ nI 87 = 83 by decide, show ¬ nI 87 = 88 by decide, if_false, ite_self]
      exact wd_idle h e1
    by_cases qg : gp = 107
    · rw [if_neg (show ¬ nI (kd * 256 + gp) = 9825 from nv 9825 (by omega) (by omega)), if_neg (show ¬ nI (kd * 256 + gp) = 9830 from nv 9830 (by omega) (by omega)), if_pos (show nI (kd * 256 + gp) = 9835 by rw [qk, qg]; rfl)]
      have e1 : f_X9_spaceField (iz (vz w ng)) c = some ((), c) := by
        unfold f_X9_spaceField
        simp only [rd_eq h, h5]
        rw [if_neg (by decide), if_neg (by decide)]
      exact wd_idle h e1
    by_cases qg : gp = 108
    · rw [if_neg (show ¬ nI (kd * 256 + gp) = 9825 from nv 9825 (by omega) (by omega)), if_neg (show ¬ nI (kd * 256 + gp) = 9830 from nv 9830 (by omega) (by omega)), if_neg (show ¬ nI (kd * 256 + gp) = 9835 from nv 9835 (by omega) (by omega)), if_pos (show nI (kd * 256 + gp) = 9836 by rw [qk, qg]; rfl)]
      have e1 : f_X9_pageField Gc (iz (vz w ng)) c = some ((), c) := by
        unfold f_X9_pageField
        rw [rd_eq h, lb_eq, h5]
        rw [if_neg (show ¬ nI 87 = 65 by decide), if_neg (show ¬ nI 87 = 66 by decide), if_neg (show ¬ nI 87 = 67 by decide), if_neg (show ¬ nI 87 = 68 by decide), if_neg (show ¬ nI 87 = 69 by decide), if_neg (show ¬ nI 87 = 70 by decide), if_neg (show ¬ nI 87 = 71 by decide), if_neg (show ¬ nI 87 = 72 by decide), if_neg (show ¬ nI 87 = 73 by decide), if_neg (show ¬ nI 87 = 74 by decide), if_neg (show ¬ nI 87 = 75 by decide), if_neg (show ¬ nI 87 = 76 by decide), if_neg (show ¬ nI 87 = 77 by decide), if_neg (show ¬ nI 87 = 78 by decide), if_neg (show ¬ nI 87 = 79 by decide), if_neg (show ¬ nI 87 = 80 by decide), if_neg (show ¬ nI 87 = 81 by decide), if_neg (show ¬ nI 87 = 82 by decide), if_neg (show ¬ nI 87 = 83 by decide), if_neg (show ¬ nI 87 = 84 by decide), if_neg (show ¬ nI 87 = 85 by decide), if_neg (show ¬ nI 87 = 86 by decide), if_pos (show nI 87 = 87 from rfl)]
      exact wd_idle h e1
    by_cases qg : gp = 112
    · rw [if_neg (show ¬ nI (kd * 256 + gp) = 9825 from nv 9825 (by omega) (by omega)), if_neg (show ¬ nI (kd * 256 + gp) = 9830 from nv 9830 (by omega) (by omega)), if_neg (show ¬ nI (kd * 256 + gp) = 9835 from nv 9835 (by omega) (by omega)), if_neg (show ¬ nI (kd * 256 + gp) = 9836 from nv 9836 (by omega) (by omega)), if_pos (show nI (kd * 256 + gp) = 9840 by rw [qk, qg]; rfl)]
      exact wd_idle h rfl
    by_cases qg : gp = 115
    · rw [if_neg (show ¬ nI (kd * 256 + gp) = 9825 from nv 9825 (by omega) (by omega)), if_neg (show ¬ nI (kd * 256 + gp) = 9830 from nv 9830 (by omega) (by omega)), if_neg (show ¬ nI (kd * 256 + gp) = 9835 from nv 9835 (by omega) (by omega)), if_neg (show ¬ nI (kd * 256 + gp) = 9836 from nv 9836 (by omega) (by omega)), if_neg (show ¬ nI (kd * 256 + gp) = 9840 from nv 9840 (by omega) (by omega)), if_pos (show nI (kd * 256 + gp) = 9843 by rw [qk, qg]; rfl)]
      have e1 : f_X9_wrapField (iz (vz w ng)) c = some ((), c) := by
        unfold f_X9_wrapField
        rw [rd_eq h, h5, if_neg (by decide)]
      exact wd_idle h e1
    rw [if_neg (show ¬ nI (kd * 256 + gp) = 9825 from nv 9825 (by omega) (by omega)), if_neg (show ¬ nI (kd * 256 + gp) = 9830 from nv 9830 (by omega) (by omega)), if_neg (show ¬ nI (kd * 256 + gp) = 9835 from nv 9835 (by omega) (by omega)), if_neg (show ¬ nI (kd * 256 + gp) = 9836 from nv 9836 (by omega) (by omega)), if_neg (show ¬ nI (kd * 256 + gp) = 9840 from nv 9840 (by omega) (by omega)), if_neg (show ¬ nI (kd * 256 + gp) = 9843 from nv 9843 (by omega) (by omega)), if_neg (show ¬ nI (kd * 256 + gp) = 10850 from nv 10850 (by omega) (by omega)), if_neg (show ¬ nI (kd * 256 + gp) = 10851 from nv 10851 (by omega) (by omega)), if_neg (show ¬ nI (kd * 256 + gp) = 10864 from nv 10864 (by omega) (by omega)), if_neg (show ¬ nI (kd * 256 + gp) = 10866 from nv 10866 (by omega) (by omega)), if_neg (show ¬ nI (kd * 256 + gp) = 10868 from nv 10868 (by omega) (by omega)), if_neg (show ¬ nI (kd * 256 + gp) = 10870 from nv 10870 (by omega) (by omega))]
    exact wd_idle h (idle (by omega) (by omega))
  rw [if_neg (show ¬ nI (kd * 256 + gp) = 9825 from nv 9825 (by omega) (by omega)), if_neg (show ¬ nI (kd * 256 + gp) = 9830 from nv 9830 (by omega) (by omega)), if_neg (show ¬ nI (kd * 256 + gp) = 9835 from nv 9835 (by omega) (by omega)), if_neg (show ¬ nI (kd * 256 + gp) = 9836 from nv 9836 (by omega) (by omega)), if_neg (show ¬ nI (kd * 256 + gp) = 9840 from nv 9840 (by omega) (by omega)), if_neg (show ¬ nI (kd * 256 + gp) = 9843 from nv 9843 (by omega) (by omega)), if_neg (show ¬ nI (kd * 256 + gp) = 10850 from nv 10850 (by omega) (by omega)), if_neg (show ¬ nI (kd * 256 + gp) = 10851 from nv 10851 (by omega) (by omega)), if_neg (show ¬ nI (kd * 256 + gp) = 10864 from nv 10864 (by omega) (by omega)), if_neg (show ¬ nI (kd * 256 + gp) = 10866 from nv 10866 (by omega) (by omega)), if_neg (show ¬ nI (kd * 256 + gp) = 10868 from nv 10868 (by omega) (by omega)), if_neg (show ¬ nI (kd * 256 + gp) = 10870 from nv 10870 (by omega) (by omega))]
  exact wd_idle h (idle (by omega) (by omega))
end I2
