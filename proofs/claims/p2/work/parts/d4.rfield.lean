/-! The field of raster whole, on both sides. -/
section D4
variable {c c' c0 c1 c2 m m' m0 m1 m2 T : Mm} {d w b : Nat} {ov ov' ng sg : Bool} {g L : Nat → Int32} {Gc Gm : Gty}
theorem uI_own {f i : Nat} : uI c f i (gI c f i) = c := Prod.ext (funext fun g => funext fun j => by
  show gI (uI c f i (gI c f i)) g j = gI c g j
  rw [gI_uI]
  by_cases q : g = f ∧ j = i
  · rw [if_pos q, q.1, q.2]
  · rw [if_neg q]) rfl
theorem r52 {a : Int32} (h66 : ¬ a = 66) (h67 : ¬ a = 67) (h83 : ¬ a = 83) (h84 : ¬ a = 84) : f_X12_rasterField_40 a m = some ((), m) := by
  unfold f_X12_rasterField_40 f_X12_rasterField_134
  rw [if_neg h66, if_neg h67, if_neg h83, if_neg h84]
/-- a bound out of the value -/
theorem rz_v {z : Int} (z1 : -32767 ≤ z) (z2 : z ≤ 32767) : (if iz z < 0 then (0 : Int32) else iz z) = rz (if iz z ≤ 0 then -1 else iz z) ∧ ¬ (if iz z ≤ 0 then -1 else iz z) = 0 ∧ -1 ≤ (if iz z ≤ 0 then -1 else iz z).toInt ∧ (if iz z ≤ 0 then -1 else iz z).toInt ≤ 32767 := by
  have e0 : iz z < 0 ↔ z < 0 := iz_neg0 z1 z2
  have e1 : iz z ≤ 0 ↔ z ≤ 0 := by rw [show (0 : Int32) = iz 0 from rfl]; exact iz_le (by omega) (by omega) (by omega) (by omega)
  have en : z ≠ 0 → ¬ iz z = 0 := fun q y => q ((iz_inj (b := 0) (by omega) (by omega) (by omega) (by omega)).mp y)
  have em : 0 ≤ z → ¬ iz z = -1 := fun q y => by
    have := (iz_inj (a := z) (b := -1) (by omega) (by omega) (by omega) (by omega)).mp (y.trans iz_m1)
    omega
  by_cases q : z ≤ 0
  · rw [if_pos (e1.mpr q)]
    refine ⟨?_, by decide, by decide, by decide⟩
    by_cases y : z < 0
    · rw [if_pos (e0.mpr y)]; rfl
    · rw [if_neg (fun u => y (e0.mp u)), show z = 0 by omega]; rfl
  · rw [if_neg (fun u => q (e1.mp u)), if_neg (fun u => q (by have := e0.mp u; omega)), iz_int (by omega) (by omega)]
    refine ⟨?_, en (by omega), by omega, by omega⟩
    unfold rz
    rw [if_neg (em (by omega))]
theorem two_raster {k : Nat} (hk : k < 256) (h : RR d ov c m) (v : VL c m d w b ng sg) (hl : gI c 505 (125 + d) = nI k) : ∃ c' m', f_X9_rasterField (iz (vz w ng)) c = some ((), c') ∧ f_X12_rasterField (nI k) m = some ((), m') ∧ EP c m c' m' := by
  have zb := vz_b (ng := ng) v.1
  have stay : ∃ c' m', some ((), c) = some ((), c') ∧ some ((), m) = some ((), m') ∧ EP c m c' m' := ⟨c, m, rfl, rfl, EP.refl h.ev h.eb⟩
  have e404 : gI c 404 48 = gA m 134 57 := h.ev.i (404, 3, 57) (by decide)
  obtain ⟨rv1, rv2, rv3, rv4⟩ := rz_v zb.1 zb.2
  unfold f_X9_rasterField f_X12_rasterField
  rw [rd_eq h, lb_eq, hl]
  by_cases q65 : k = 65
  · subst q65
    rw [if_pos (by decide), if_pos (show nI 65 = 65 from rfl), v.nm]
    by_cases z0 : iz (vz w ng) = 0
    · unfold f_X12_rasterField_21 f_X9_beginRaster f_X12_begin
      rw [if_pos z0, if_pos z0, v.nm, if_pos z0, z0, if_pos rfl, if_neg (show ¬ (1 : Int32) = 0 by decide), bd_u, bd_u]
      obtain ⟨c2, m2, s1, s2, s3, _⟩ := mx (z := 0) h.ev h.eb (by omega) (by omega)
      obtain ⟨c3, m3, u1, u2, u3⟩ := ras_begin s3.v s3.b
      rw [show (0 : Int64) = jz 0 from rfl, s1, s2, bd_eq, bd_eq]
      exact ⟨c3, m3, u1, u2, s3.trans u3⟩
    · rw [if_neg z0, if_neg z0]
      by_cases z1 : iz (vz w ng) = 1
      · unfold f_X12_rasterField_21 f_X9_beginRaster f_X12_begin
        rw [if_pos z1, if_pos z1, v.nm, if_neg z0, if_neg z0, if_pos rfl, bd_u, bd_u]
        exact ras_begin h.ev h.eb
      · rw [if_neg z1, if_neg z1, r52 (by decide) (by decide) (by decide) (by decide)]; exact stay
  have n : ∀ a, a < 256 → ¬ k = a → ¬ nI k = nI a := fun a ha q => nI_ne hk ha q
  have h65 : ¬ nI k = 65 := n 65 (by decide) q65
  rw [if_neg h65, if_neg h65]
  have en := ras_end h
  by_cases q66 : k = 66
  · subst q66
    unfold f_X12_rasterField_40 f_X12_rasterField_52 f_X4_end
    rw [if_pos (by decide), rd_eq h, hl, if_neg (show ¬ nI 66 = 67 by decide), if_neg (show ¬ nI 66 = 67 by decide), if_pos (show nI 66 = 66 from rfl), bd_u, lb_eq, lb_eq, if_pos rfl]
    exact ⟨_, _, rfl, rfl, en⟩
  have h66 : ¬ nI k = 66 := n 66 (by decide) q66
  rw [if_neg h66]
  by_cases q67 : k = 67
  · subst q67
    unfold f_X12_rasterField_40 f_X12_rasterField_52 f_X4_end
    have e1 := EP.one en.v en.b (f := 401) (o := 3) (k := 54) (by decide) (by decide) (by decide) 0 (by decide) (by decide)
    have e2 := ras_w (x := 0) (y := -1) e1.v e1.b rfl (by decide) (by decide) (by decide)
    have e3 := ras_h (x := 0) (y := -1) e2.v e2.b (by rw [gA_wr, wr_o _ (by decide), gA_wr, wr_o _ (by decide), gA_wr, wr_s]) rfl (by decide) (by decide) (by decide)
    rw [if_pos (by decide), rd_eq h, hl, if_pos (show nI 67 = 67 from rfl), if_neg (show ¬ nI 67 = 66 by decide), if_pos (show nI 67 = 67 from rfl), bd_u, lb_eq, if_neg (show ¬ (1 : Int32) = 0 by decide), lb_eq, lb_eq, lb_eq, lb_eq, if_pos (show nI 67 = 67 from rfl)]
    exact ⟨_, _, rfl, rfl, ((en.trans e1).trans e2).trans e3⟩
  have h67 : ¬ nI k = 67 := n 67 (by decide) q67
  rw [if_neg h67]
  by_cases q83 : k = 83
  · subst q83
    unfold f_X12_rasterField_40 f_X12_rasterField_134
    rw [if_pos (by decide), if_neg (show ¬ nI 83 = 66 by decide), if_neg (show ¬ nI 83 = 67 by decide), if_pos (show nI 83 = 83 from rfl), if_neg (show ¬ nI 83 = 84 by decide), e404, v.nm, f_max, bd_eq, lb_eq, lb_eq, uI_own]
    by_cases y : gA m 134 57 = 0
    · rw [if_pos y, if_pos y, rv1]
      have e := ras_w h.ev h.eb rfl rv2 rv3 rv4
      by_cases q : iz (vz w ng) ≤ 0
      · rw [if_pos q] at e ⊢
        rw [if_pos q]; exact ⟨_, _, rfl, rfl, e⟩
      · rw [if_neg q] at e ⊢
        rw [if_neg q]; exact ⟨_, _, rfl, rfl, e⟩
    · rw [if_neg y, if_neg y]; exact stay
  have h83 : ¬ nI k = 83 := n 83 (by decide) q83
  rw [if_neg h83]
  by_cases q84 : k = 84
  · subst q84
    unfold f_X12_rasterField_40 f_X12_rasterField_134
    rw [if_pos (by decide), if_neg (show ¬ nI 84 = 66 by decide), if_neg (show ¬ nI 84 = 67 by decide), if_neg (show ¬ nI 84 = 83 by decide), if_pos (show nI 84 = 84 from rfl), e404, v.nm, f_max, bd_eq, lb_eq, lb_eq, uI_own]
    by_cases y : gA m 134 57 = 0
    · rw [if_pos y, if_pos y, rv1]
      have e := ras_h h.ev h.eb y rfl rv2 rv3 rv4
      by_cases q : iz (vz w ng) ≤ 0
      · rw [if_pos q] at e ⊢
        rw [if_pos q]; exact ⟨_, _, rfl, rfl, e⟩
      · rw [if_neg q] at e ⊢
        rw [if_neg q]; exact ⟨_, _, rfl, rfl, e⟩
    · rw [if_neg y, if_neg y]; exact stay
  have h84 : ¬ nI k = 84 := n 84 (by decide) q84
  rw [if_neg h84, r52 h66 h67 h83 h84]
  exact stay
end D4
