/-! Small fields, on both sides. -/
section C6
variable {c c' c0 c1 c2 m m' m0 m1 m2 T : Mm} {d w b : Nat} {ov ov' ng sg : Bool} {g L : Nat → Int32} {Gc Gm : Gty}
theorem two_dot {k : Nat} (hk : k < 256) (h : RR d ov c m) (v : VL c m d w b ng sg) (hl : gI c 505 (125 + d) = nI k) : ∃ c' m', f_X9_dotPlaceField c = some ((), c') ∧ f_X12_dotField (nI k) m = some ((), m') ∧ EP c m c' m' := by
  obtain ⟨x, x1, x2⟩ := h.eb.k189
  obtain ⟨y, y1, y2⟩ := h.eb.k190
  have ub := un_b (ng := ng) (p := 96) v.1 v.2.1 (by omega)
  unfold f_X9_dotPlaceField f_X12_dotField
  simp only [rd_eq h, hl]
  by_cases q88 : k = 88
  · subst q88
    obtain ⟨c2, m2, s1, s2, s3⟩ := two_ma h v ub.1 ub.2
    refine ⟨c2, m2, ?_, ?_, s3⟩
    · rw [if_pos (by decide), show (96 : Int32) = nI 96 from rfl, v.units (by omega), bd_eq, bd_u, s1]
    · rw [if_pos (by decide), show (96 : Int64) = jz ((96 : Nat) : Int) from rfl, v.munits (by omega), bd_eq]; exact s2
  by_cases q89 : k = 89
  · subst q89
    obtain ⟨c2, m2, s1, s2, s3⟩ := two_md (t := 0) (p3 := 0) (B := 0) h v ub.1 ub.2 (by omega) (by decide) (by decide)
    refine ⟨c2, m2, ?_, ?_, s3⟩
    · rw [if_neg (by decide), if_pos (by decide), show (96 : Int32) = nI 96 from rfl, v.units (by omega), bd_eq, bd_u, s1]
    · rw [if_neg (by decide), if_pos (by decide), show (96 : Int64) = jz ((96 : Nat) : Int) from rfl, v.munits (by omega), bd_eq]; exact s2
  by_cases q82 : k = 82
  · subst q82
    rw [if_neg (by decide), if_neg (by decide), if_pos (by decide), if_neg (by decide), if_neg (by decide), if_pos (by decide), show gI c 706 46 = nI x from (h.ev.i (706, 1, 189) (by decide)).trans x1, x1, show (96 : Int32) = nI 96 from rfl, pk_div (by omega) (by decide) (by decide)]
    simp only [lb_eq]
    have ei := iz_int (a := ((x / 96 : Nat) : Int)) (by omega) (by omega)
    have ej := iz_int (a := ((y / 96 : Nat) : Int)) (by omega) (by omega)
    have e1 := EP.one h.ev h.eb (f := 112) (o := 0) (k := 51) (by decide) (by decide) (by decide) (nI (x / 96)) (by rw [nI_iz, ei]; show (0 : Int) ≤ _; omega) (by rw [nI_iz, ei]; show _ ≤ (800 : Int); omega)
    have y1' : gA (uA m 134 51 (nI (x / 96))) 134 190 = nI y := by rw [gA_wr, wr_o _ (by decide), y1]
    have e2 := EP.one e1.v e1.b (f := 113) (o := 0) (k := 52) (by decide) (by decide) (by decide) (nI (y / 96)) (by rw [nI_iz, ej]; show (0 : Int) ≤ _; omega) (by rw [nI_iz, ej]; show _ ≤ (800 : Int); omega)
    rw [show gI (uI c 112 45 (nI (x / 96))) 707 46 = nI y from (e1.v.i (707, 1, 190) (by decide)).trans y1', y1', pk_div (by omega) (by decide) (by decide)]
    exact ⟨_, _, rfl, rfl, e1.trans e2⟩
  have n : ∀ a, a < 256 → ¬ k = a → ¬ nI k = nI a := fun a ha q => nI_ne hk ha q
  have h88 : ¬ nI k = 88 := n 88 (by decide) q88
  have h89 : ¬ nI k = 89 := n 89 (by decide) q89
  have h82 : ¬ nI k = 82 := n 82 (by decide) q82
  rw [if_neg h88, if_neg h89, if_neg h82, if_neg h88, if_neg h89, if_neg h82]
  exact ⟨c, m, rfl, rfl, EP.refl h.ev h.eb⟩
/-- a spacing out of the value -/
theorem c_spac {p : Nat} {x : Int32} (h : RR d ov c m) (v : VL c m d w b ng sg) (hp : p ≤ 32000) : f_X9_spacing (nI p) x c = some ((if un w b ng p < 0 then x else if 32000 < un w b ng p then x else iz (un w b ng p)), c) := by
  have ub := un_b (ng := ng) v.1 v.2.1 hp
  unfold f_X9_spacing
  rw [rd_eq h, v.units hp, bd_eq]
  by_cases q : un w b ng p < 0
  · rw [if_pos q, if_pos (by rw [c_lt, show (0 : Int64) = jz 0 from rfl, jz_lt (by omega) (by omega) (by omega) (by omega)]; exact q)]
  · rw [if_neg q, if_neg (fun y => q (by rw [c_lt, show (0 : Int64) = jz 0 from rfl, jz_lt (by omega) (by omega) (by omega) (by omega)] at y; exact y))]
    by_cases z : 32000 < un w b ng p
    · rw [if_pos z, if_pos (by rw [c_gt, show (32000 : Int64) = jz 32000 from rfl, jz_lt (by omega) (by omega) (by omega) (by omega)]; exact z)]
    · rw [if_neg z, if_neg (fun y => z (by rw [c_gt, show (32000 : Int64) = jz 32000 from rfl, jz_lt (by omega) (by omega) (by omega) (by omega)] at y; exact y)), jz_int32]
/-- the same spacing for the reference: what it does when the value serves, and when not -/
theorem m_spac {p : Nat} (v : VL c m d w b ng sg) (hp : p ≤ 32000) {A B : Mm → Option (Unit × Mm)} {K : Int64 → Mm → Option (Unit × Mm)} : (bd (f_X12_units (jz (p : Int)) m) fun v12 T13 => if (lg_cmp v12 0) < 0 then A T13 else (bd (f_X12_units (jz (p : Int)) T13) fun v14 T15 => if 0 < (lg_cmp v14 32000) then B T15 else bd (f_X12_units (jz (p : Int)) T15) K)) = if un w b ng p < 0 then A m else if 32000 < un w b ng p then B m else K (jz (un w b ng p)) m := by
  have ub := un_b (ng := ng) v.1 v.2.1 hp
  rw [v.munits hp, bd_eq]
  by_cases q : un w b ng p < 0
  · rw [if_pos q, if_pos (by rw [c_lt, show (0 : Int64) = jz 0 from rfl, jz_lt (by omega) (by omega) (by omega) (by omega)]; exact q)]
  · rw [if_neg q, if_neg (fun y => q (by rw [c_lt, show (0 : Int64) = jz 0 from rfl, jz_lt (by omega) (by omega) (by omega) (by omega)] at y; exact y)), v.munits hp, bd_eq]
    by_cases z : 32000 < un w b ng p
    · rw [if_pos z, if_pos (by rw [c_gt, show (32000 : Int64) = jz 32000 from rfl, jz_lt (by omega) (by omega) (by omega) (by omega)]; exact z)]
    · rw [if_neg z, if_neg (fun y => z (by rw [c_gt, show (32000 : Int64) = jz 32000 from rfl, jz_lt (by omega) (by omega) (by omega) (by omega)] at y; exact y)), v.munits hp, bd_eq]
theorem two_wrap {k : Nat} {Q : Option (Unit × Mm)} (hk : k < 256) (h : RR d ov c m) (v : VL c m d w b ng sg) (hl : gI c 505 (125 + d) = nI k) : ∃ c' m', f_X9_wrapField (iz (vz w ng)) c = some ((), c') ∧ (if nI k = 67 then (if (gI m 1251 133) = 0 then (f_X12_field_152 Gm m) else (if (gI m 1251 133) = 1 then (f_X12_field_152 Gm m) else (some ((), m)))) else (some ((), m))) = some ((), m') ∧ EP c m c' m' := by
  unfold f_X9_wrapField f_X9_wrapField_21 f_X12_field_152
  simp only [rd_eq h, hl, lb_eq, v.nm]
  split
  · by_cases z0 : iz (vz w ng) = 0
    · rw [if_pos z0, if_pos z0, z0]
      exact ⟨_, _, rfl, rfl, EP.one h.ev h.eb (f := 109) (o := 0) (k := 11) (by decide) (by decide) (by decide) 1 (by decide) (by decide)⟩
    · rw [if_neg z0, if_neg z0]
      by_cases z1 : iz (vz w ng) = 1
      · rw [if_pos z1, if_pos z1, z1]
        exact ⟨_, _, rfl, rfl, EP.one h.ev h.eb (f := 109) (o := 0) (k := 11) (by decide) (by decide) (by decide) 0 (by decide) (by decide)⟩
      · simp only [if_neg z0, if_neg z1]; exact ⟨c, m, rfl, rfl, EP.refl h.ev h.eb⟩
  · exact ⟨c, m, rfl, rfl, EP.refl h.ev h.eb⟩
theorem EP.to (e : EP c m c' m') (P : c' = c1) (Q : m' = m1) : EP c m c1 m1 := by subst P; subst Q; exact e
/-- a new spacing, or the old -/
theorem EP.spac {f o k p : Nat} (h : RR d ov c m) (v : VL c m d w b ng sg) (hp : p ≤ 32000) (hm : (f, o, k) ∈ plnT) (ho : o ≤ 8) (hk : k ≠ 55 ∧ k ≠ 56 ∧ k ≠ 57 ∧ k ≠ 59 ∧ k ≠ 0 ∧ k ≠ 1 ∧ k ≠ 189) (hl : lo k = 0) (hh : hi k = 32000) : ∃ m', (if un w b ng p < 0 then some ((), m) else if 32000 < un w b ng p then some ((), m) else some ((), uA m 134 k ((jz (un w b ng p)).toInt32))) = some ((), m') ∧ EP c m (uI c f (45 + o) (if un w b ng p < 0 then gA m 134 k else if 32000 < un w b ng p then gA m 134 k else iz (un w b ng p))) m' := by
  by_cases q : un w b ng p < 0
  · rw [if_pos q, if_pos q]; exact ⟨m, rfl, EP.same h.ev h.eb hm ho⟩
  · rw [if_neg q, if_neg q]
    by_cases z : 32000 < un w b ng p
    · rw [if_pos z, if_pos z]; exact ⟨m, rfl, EP.same h.ev h.eb hm ho⟩
    · rw [if_neg z, if_neg z, jz_int32]
      have ei := iz_int (a := un w b ng p) (by omega) (by omega)
      exact ⟨_, rfl, EP.one h.ev h.eb hm ho hk _ (by rw [ei, hl]; omega) (by rw [ei, hh]; omega)⟩
theorem two_space {k : Nat} (hk : k < 256) (h : RR d ov c m) (v : VL c m d w b ng sg) (hl : gI c 505 (125 + d) = nI k) : ∃ c' m', f_X9_spaceField (iz (vz w ng)) c = some ((), c') ∧ (if nI k = 72 then (bd (f_X12_units 60 m) fun v12 T13 => if (lg_cmp v12 0) < 0 then (f_X12_field_90 Gm (nI k) T13) else (bd (f_X12_units 60 T13) fun v14 T15 => if 0 < (lg_cmp v14 32000) then (f_X12_field_90 Gm (nI k) T15) else (bd (f_X12_units 60 T15) fun v16 T17 => lb (uA T17 134 7 (((v16).toInt32))) fun T18 => some ((), T18)))) else (f_X12_field_90 Gm (nI k) m)) = some ((), m') ∧ EP c m c' m' := by
  have zb := vz_b (ng := ng) v.1
  unfold f_X9_spaceField
  simp only [rd_eq h, hl]
  by_cases q72 : k = 72
  · subst q72
    obtain ⟨m2, s1, s2⟩ := EP.spac (f := 709) (o := 1) (k := 7) (p := 60) h v (by omega) (by decide) (by decide) (by decide) (by decide) (by decide)
    have n90 : ∀ T, f_X12_field_90 Gm (nI 72) T = some ((), T) := fun T => by unfold f_X12_field_90; rw [if_neg (by decide)]
    rw [if_pos (show nI 72 = 72 from rfl), if_pos (show nI 72 = 72 from rfl), show (60 : Int32) = nI 60 from rfl, c_spac h v (by omega), bd_eq, lb_eq, show (60 : Int64) = jz ((60 : Nat) : Int) from rfl, m_spac (A := fun T => f_X12_field_90 Gm (nI 72) T) (B := fun T => f_X12_field_90 Gm (nI 72) T) v (by omega)]
    rw [n90, lb_eq, show gI c 709 46 = gA m 134 7 from h.ev.i (709, 1, 7) (by decide)]
    exact ⟨_, m2, rfl, s1, s2⟩
  rw [if_neg (show ¬ nI k = 72 from nI_ne hk (by decide) q72), if_neg (show ¬ nI k = 72 from nI_ne hk (by decide) q72)]
  unfold f_X12_field_90
  rw [v.nm]
  split
  · by_cases z : iz (vz w ng) < 0
    · rw [if_pos z, if_pos z]; exact ⟨c, m, rfl, rfl, EP.refl h.ev h.eb⟩
    · rw [if_neg z, if_neg z]
      have z' : 0 ≤ vz w ng := by
        by_cases y : vz w ng < 0
        · exact absurd ((iz_neg0 zb.1 zb.2).mpr y) z
        · omega
      have eq : 3 < iz (vz w ng) ↔ 3 < vz w ng := by rw [show (3 : Int32) = iz 3 from rfl]; exact iz_lt (by omega) (by omega) (by omega) (by omega)
      by_cases y : 3 < vz w ng
      · rw [if_pos (eq.mpr y), if_pos (eq.mpr y)]; exact ⟨c, m, rfl, rfl, EP.refl h.ev h.eb⟩
      · rw [if_neg (fun u => y (eq.mp u)), if_neg (fun u => y (eq.mp u)), lb_eq, lb_eq]
        have ei := iz_int (a := vz w ng) (by omega) (by omega)
        exact ⟨_, _, rfl, rfl, EP.one h.ev h.eb (f := 108) (o := 0) (k := 10) (by decide) (by decide) (by decide) _ (by rw [ei]; exact z') (by rw [ei]; show _ ≤ (3 : Int); omega)⟩
  · exact ⟨c, m, rfl, rfl, EP.refl h.ev h.eb⟩
end C6
