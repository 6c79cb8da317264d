/-! Ink, scale and the plain letters of control, on both sides. -/
section D0
variable {c c' c0 c1 c2 m m' m0 m1 m2 T : Mm} {d w b : Nat} {ov ov' ng sg : Bool} {g L : Nat → Int32} {Gc Gm : Gty}
theorem u230 {a : Int32} (h80 : ¬ a = 80) (h70 : ¬ a = 70) (h81 : ¬ a = 81) : f_X12_thingField_230 a m = some ((), m) := by unfold f_X12_thingField_230; rw [if_neg h80, if_neg h70, if_neg h81]
theorem u191 {a : Int32} (h86 : ¬ a = 86) (h80 : ¬ a = 80) (h70 : ¬ a = 70) (h81 : ¬ a = 81) : f_X12_thingField_191 a m = some ((), m) := by unfold f_X12_thingField_191; rw [if_neg h86, u230 h80 h70 h81]
theorem u152 {a : Int32} (h72 : ¬ a = 72) (h86 : ¬ a = 86) (h80 : ¬ a = 80) (h70 : ¬ a = 70) (h81 : ¬ a = 81) : f_X12_thingField_152 a m = some ((), m) := by unfold f_X12_thingField_152; rw [if_neg h72, u191 h86 h80 h70 h81]
theorem u124 {a : Int32} (h66 : ¬ a = 66) (h72 : ¬ a = 72) (h86 : ¬ a = 86) (h80 : ¬ a = 80) (h70 : ¬ a = 70) (h81 : ¬ a = 81) : f_X12_thingField_124 a m = some ((), m) := by unfold f_X12_thingField_124; rw [if_neg h66, u152 h72 h86 h80 h70 h81]
theorem u75 {a : Int32} (h71 : ¬ a = 71) (h65 : ¬ a = 65) (h66 : ¬ a = 66) (h72 : ¬ a = 72) (h86 : ¬ a = 86) (h80 : ¬ a = 80) (h70 : ¬ a = 70) (h81 : ¬ a = 81) : f_X12_thingField_75 a m = some ((), m) := by unfold f_X12_thingField_75; rw [if_neg h71, if_neg h65, u124 h66 h72 h86 h80 h70 h81]
theorem u37 {a : Int32} (h69 : ¬ a = 69) (h71 : ¬ a = 71) (h65 : ¬ a = 65) (h66 : ¬ a = 66) (h72 : ¬ a = 72) (h86 : ¬ a = 86) (h80 : ¬ a = 80) (h70 : ¬ a = 70) (h81 : ¬ a = 81) : f_X12_thingField_37 a m = some ((), m) := by unfold f_X12_thingField_37; rw [if_neg h69, u75 h71 h65 h66 h72 h86 h80 h70 h81]
/-- a number kept when it is at least nothing and at most a bound -/
theorem EP.num {f o k : Nat} {z B : Int} (h : RR d ov c m) (hm : (f, o, k) ∈ plnT) (ho : o ≤ 8) (hk : k ≠ 55 ∧ k ≠ 56 ∧ k ≠ 57 ∧ k ≠ 59 ∧ k ≠ 0 ∧ k ≠ 1 ∧ k ≠ 189) (hl : lo k ≤ z) (hh : z ≤ hi k) (z1 : -32767 ≤ z) (z2 : z ≤ 32767) : EP c m (uI c f (45 + o) (iz z)) (uA m 134 k (iz z)) := by
  have ei := iz_int (a := z) (by omega) (by omega)
  exact EP.one h.ev h.eb hm ho hk _ (by rw [ei]; exact hl) (by rw [ei]; exact hh)
theorem un10 (hw : w ≤ 32767) (hb : b ≤ 9999) : un w b ng 10 ≤ 327679 := by
  have v := ve_b (ng := ng) hw hb
  unfold un
  by_cases q : 0 ≤ ve w b ng * ((10 : Nat) : Int)
  · rw [Int.tdiv_eq_ediv_of_nonneg q]; omega
  · have e : (ve w b ng * ((10 : Nat) : Int)).tdiv 10000 = -((-(ve w b ng * ((10 : Nat) : Int))).tdiv 10000) := by rw [Int.neg_tdiv, Int.neg_neg]
    rw [e, Int.tdiv_eq_ediv_of_nonneg (by omega)]; omega
/-- a box's side out of the value -/
theorem c_side {x : Int32} (h : RR d ov c m) (v : VL c m d w b ng sg) : f_X9_boxSide x c = some ((if un w b ng 10 < 0 then x else iz ((un w b ng 10 + 95) / 96)), c) := by
  have ub := un_b (ng := ng) (p := 10) v.1 v.2.1 (by omega)
  have u10 := un10 (ng := ng) v.1 v.2.1
  unfold f_X9_boxSide
  rw [rd_eq h, show (10 : Int32) = nI 10 from rfl, v.units (by omega), bd_eq]
  by_cases q : un w b ng 10 < 0
  · rw [if_pos q, if_pos (by rw [c_lt, show (0 : Int64) = jz 0 from rfl, jz_lt (by omega) (by omega) (by omega) (by omega)]; exact q)]
  · rw [if_neg q, if_neg (fun y => q (by rw [c_lt, show (0 : Int64) = jz 0 from rfl, jz_lt (by omega) (by omega) (by omega) (by omega)] at y; exact y)), show (96 : Int64) = jz 96 from rfl, show (1 : Int64) = jz 1 from rfl, jz_add, jz_sub, jz_div (by omega) (by omega) (by omega) (by omega), jz_int32, show un w b ng 10 + 96 - 1 = un w b ng 10 + 95 by omega, Int.tdiv_eq_ediv_of_nonneg (by omega)]
theorem m_side {A : Mm → Option (Unit × Mm)} {i : Nat} (v : VL c m d w b ng sg) : (bd (f_X12_units 10 m) fun v1 T2 => if (lg_cmp v1 0) < 0 then A T2 else (bd (f_X12_units 10 T2) fun v3 T4 => bd (f_X12_dotsUp v3 T4) fun v5 T6 => lb (uA T6 134 i (v5)) fun T7 => some ((), T7))) = if un w b ng 10 < 0 then A m else some ((), uA m 134 i (iz ((un w b ng 10 + 95) / 96))) := by
  have ub := un_b (ng := ng) (p := 10) v.1 v.2.1 (by omega)
  have u10 := un10 (ng := ng) v.1 v.2.1
  rw [show (10 : Int64) = jz ((10 : Nat) : Int) from rfl, v.munits (by omega), bd_eq]
  by_cases q : un w b ng 10 < 0
  · rw [if_pos q, if_pos (by rw [c_lt, show (0 : Int64) = jz 0 from rfl, jz_lt (by omega) (by omega) (by omega) (by omega)]; exact q)]
  · rw [if_neg q, if_neg (fun y => q (by rw [c_lt, show (0 : Int64) = jz 0 from rfl, jz_lt (by omega) (by omega) (by omega) (by omega)] at y; exact y)), v.munits (by omega), bd_eq]
    unfold f_X12_dotsUp
    rw [bd_eq, lb_eq, show (96 : Int64) = jz 96 from rfl, show (95 : Int64) = jz 95 from rfl, jz_add, jz_div (by omega) (by omega) (by omega) (by omega), jz_int32, Int.tdiv_eq_ediv_of_nonneg (by omega)]
theorem two_thing {k : Nat} (hk : k < 256) (q70 : ¬ k = 70) (q80 : ¬ k = 80) (q81 : ¬ k = 81) (q87 : ¬ k = 87) (h : RR d ov c m) (v : VL c m d w b ng sg) (hl : gI c 505 (125 + d) = nI k) : ∃ c' m', f_X9_controlField (iz (vz w ng)) c = some ((), c') ∧ f_X12_thingField (nI k) m = some ((), m') ∧ EP c m c' m' := by
  have zb := vz_b (ng := ng) v.1
  have ub := un_b (ng := ng) (p := 10) v.1 v.2.1 (by omega)
  have u10 := un10 (ng := ng) v.1 v.2.1
  have stay : ∃ c' m', some ((), c) = some ((), c') ∧ some ((), m) = some ((), m') ∧ EP c m c' m' := ⟨c, m, rfl, rfl, EP.refl h.ev h.eb⟩
  have e0 : iz (vz w ng) < 0 ↔ vz w ng < 0 := iz_neg0 zb.1 zb.2
  unfold f_X9_controlField
  rw [rd_eq h, lb_eq, hl]
  by_cases q65 : k = 65
  · subst q65
    have same := EP.same h.ev h.eb (f := 114) (o := 0) (k := 140) (by decide) (by decide)
    unfold f_X12_thingField f_X12_thingField_37 f_X12_thingField_75
    rw [if_pos (by decide), if_neg (show ¬ nI 65 = 68 by decide), if_neg (show ¬ nI 65 = 69 by decide), if_neg (show ¬ nI 65 = 71 by decide), if_pos (show nI 65 = 65 from rfl), v.nm, u124 (by decide) (by decide) (by decide) (by decide) (by decide) (by decide), show gI c 114 45 = gA m 134 140 from h.ev.i (114, 0, 140) (by decide)]
    by_cases z : vz w ng < 0
    · rw [if_pos (e0.mpr z), if_pos (e0.mpr z)]; exact ⟨_, m, rfl, rfl, same⟩
    · rw [if_neg (fun y => z (e0.mp y)), if_neg (fun y => z (e0.mp y))]
      exact ⟨_, _, rfl, rfl, EP.num (B := 0) h (f := 114) (o := 0) (k := 140) (by decide) (by decide) (by decide) (show (0 : Int) ≤ _ by omega) (show _ ≤ (32767 : Int) by omega) zb.1 zb.2⟩
  by_cases q66 : k = 66
  · subst q66
    have same := EP.same h.ev h.eb (f := 115) (o := 0) (k := 141) (by decide) (by decide)
    unfold f_X12_thingField f_X12_thingField_37 f_X12_thingField_75 f_X12_thingField_124
    rw [if_neg (by decide), if_pos (by decide), if_neg (show ¬ nI 66 = 68 by decide), if_neg (show ¬ nI 66 = 69 by decide), if_neg (show ¬ nI 66 = 71 by decide), if_neg (show ¬ nI 66 = 65 by decide), if_pos (show nI 66 = 66 from rfl), v.nm, u152 (by decide) (by decide) (by decide) (by decide) (by decide), show gI c 115 45 = gA m 134 141 from h.ev.i (115, 0, 141) (by decide)]
    by_cases z : vz w ng < 0
    · rw [if_pos (e0.mpr z), if_pos (e0.mpr z)]; exact ⟨_, m, rfl, rfl, same⟩
    · rw [if_neg (fun y => z (e0.mp y)), if_neg (fun y => z (e0.mp y))]
      exact ⟨_, _, rfl, rfl, EP.num (B := 0) h (f := 115) (o := 0) (k := 141) (by decide) (by decide) (by decide) (show (0 : Int) ≤ _ by omega) (show _ ≤ (32767 : Int) by omega) zb.1 zb.2⟩
  by_cases q68 : k = 68
  · subst q68
    have same := EP.same h.ev h.eb (f := 116) (o := 0) (k := 142) (by decide) (by decide)
    have e16 : 16 ≤ iz (vz w ng) ↔ 16 ≤ vz w ng := by rw [show (16 : Int32) = iz 16 from rfl]; exact iz_le (by omega) (by omega) (by omega) (by omega)
    have e15 : 15 < iz (vz w ng) ↔ 15 < vz w ng := by rw [show (15 : Int32) = iz 15 from rfl]; exact iz_lt (by omega) (by omega) (by omega) (by omega)
    unfold f_X12_thingField
    rw [if_neg (by decide), if_neg (by decide), if_neg (by decide), if_pos (by decide), if_pos (show nI 68 = 68 from rfl), v.nm, u37 (by decide) (by decide) (by decide) (by decide) (by decide) (by decide) (by decide) (by decide) (by decide), show gI c 116 45 = gA m 134 142 from h.ev.i (116, 0, 142) (by decide)]
    by_cases z : vz w ng < 0
    · rw [if_pos (e0.mpr z), if_pos (e0.mpr z)]; exact ⟨_, m, rfl, rfl, same⟩
    · rw [if_neg (fun y => z (e0.mp y)), if_neg (fun y => z (e0.mp y))]
      by_cases y : 16 ≤ vz w ng
      · rw [if_pos (e16.mpr y), if_pos (e15.mpr (by omega))]; exact ⟨_, m, rfl, rfl, same⟩
      · rw [if_neg (fun u => y (e16.mp u)), if_neg (fun u => y (by have := e15.mp u; omega))]
        exact ⟨_, _, rfl, rfl, EP.num (B := 0) h (f := 116) (o := 0) (k := 142) (by decide) (by decide) (by decide) (show (0 : Int) ≤ _ by omega) (show _ ≤ (15 : Int) by omega) zb.1 zb.2⟩
  by_cases q69 : k = 69
  · subst q69
    have same := EP.same h.ev h.eb (f := 117) (o := 0) (k := 143) (by decide) (by decide)
    have e16 : 256 ≤ iz (vz w ng) ↔ 256 ≤ vz w ng := by rw [show (256 : Int32) = iz 256 from rfl]; exact iz_le (by omega) (by omega) (by omega) (by omega)
    have e15 : 255 < iz (vz w ng) ↔ 255 < vz w ng := by rw [show (255 : Int32) = iz 255 from rfl]; exact iz_lt (by omega) (by omega) (by omega) (by omega)
    unfold f_X12_thingField f_X12_thingField_37
    rw [if_neg (by decide), if_neg (by decide), if_neg (by decide), if_neg (by decide), if_pos (by decide), if_neg (show ¬ nI 69 = 68 by decide), if_pos (show nI 69 = 69 from rfl), v.nm, u75 (by decide) (by decide) (by decide) (by decide) (by decide) (by decide) (by decide) (by decide), show gI c 117 45 = gA m 134 143 from h.ev.i (117, 0, 143) (by decide)]
    by_cases z : vz w ng < 0
    · rw [if_pos (e0.mpr z), if_pos (e0.mpr z)]; exact ⟨_, m, rfl, rfl, same⟩
    · rw [if_neg (fun y => z (e0.mp y)), if_neg (fun y => z (e0.mp y))]
      by_cases y : 256 ≤ vz w ng
      · rw [if_pos (e16.mpr y), if_pos (e15.mpr (by omega))]; exact ⟨_, m, rfl, rfl, same⟩
      · rw [if_neg (fun u => y (e16.mp u)), if_neg (fun u => y (by have := e15.mp u; omega))]
        exact ⟨_, _, rfl, rfl, EP.num (B := 0) h (f := 117) (o := 0) (k := 143) (by decide) (by decide) (by decide) (show (0 : Int) ≤ _ by omega) (show _ ≤ (255 : Int) by omega) zb.1 zb.2⟩
  by_cases q71 : k = 71
  · subst q71
    unfold f_X12_thingField f_X12_thingField_37 f_X12_thingField_75
    rw [if_neg (by decide), if_neg (by decide), if_neg (by decide), if_neg (by decide), if_neg (by decide), if_neg (by decide), if_pos (by decide), if_neg (show ¬ nI 71 = 68 by decide), if_neg (show ¬ nI 71 = 69 by decide), if_pos (show nI 71 = 71 from rfl), v.nm]
    exact ⟨_, _, rfl, rfl, EP.num (B := 0) h (f := 118) (o := 0) (k := 144) (by decide) (by decide) (by decide) (show (-32767 : Int) ≤ _ by omega) (show _ ≤ (32767 : Int) by omega) zb.1 zb.2⟩
  by_cases q72 : k = 72
  · subst q72
    have same := EP.same h.ev h.eb (f := 114) (o := 0) (k := 140) (by decide) (by decide)
    have t1 : ∀ T, f_X12_thingField_191 (nI 72) T = some ((), T) := fun T => u191 (by decide) (by decide) (by decide) (by decide)
    unfold f_X12_thingField f_X12_thingField_37 f_X12_thingField_75 f_X12_thingField_124 f_X12_thingField_152
    rw [if_neg (by decide), if_neg (by decide), if_neg (by decide), if_neg (by decide), if_neg (by decide), if_neg (by decide), if_neg (by decide), if_pos (by decide), if_neg (show ¬ nI 72 = 68 by decide), if_neg (show ¬ nI 72 = 69 by decide), if_neg (show ¬ nI 72 = 71 by decide), if_neg (show ¬ nI 72 = 65 by decide), if_neg (show ¬ nI 72 = 66 by decide), if_pos (show nI 72 = 72 from rfl), c_side h v, bd_eq, lb_eq, m_side (A := fun T => f_X12_thingField_191 (nI 72) T) v, t1, show gI c 114 45 = gA m 134 140 from h.ev.i (114, 0, 140) (by decide)]
    by_cases z : un w b ng 10 < 0
    · rw [if_pos z, if_pos z]; exact ⟨_, m, rfl, rfl, same⟩
    · rw [if_neg z, if_neg z]
      exact ⟨_, _, rfl, rfl, EP.num (B := 0) h (f := 114) (o := 0) (k := 140) (by decide) (by decide) (by decide) (show (0 : Int) ≤ _ by omega) (show _ ≤ (32767 : Int) by omega) (by omega) (by omega)⟩
  by_cases q86 : k = 86
  · subst q86
    have same := EP.same h.ev h.eb (f := 115) (o := 0) (k := 141) (by decide) (by decide)
    have t1 : ∀ T, f_X12_thingField_230 (nI 86) T = some ((), T) := fun T => u230 (by decide) (by decide) (by decide)
    unfold f_X12_thingField f_X12_thingField_37 f_X12_thingField_75 f_X12_thingField_124 f_X12_thingField_152 f_X12_thingField_191
    rw [if_neg (by decide), if_neg (by decide), if_neg (by decide), if_neg (by decide), if_neg (by decide), if_neg (by decide), if_neg (by decide), if_neg (by decide), if_neg (by decide), if_neg (by decide), if_neg (by decide), if_neg (by decide), if_neg (by decide), if_neg (by decide), if_neg (by decide), if_neg (by decide), if_neg (by decide), if_neg (by decide), if_neg (by decide), if_neg (by decide), if_neg (by decide), if_pos (by decide), if_neg (show ¬ nI 86 = 68 by decide), if_neg (show ¬ nI 86 = 69 by decide), if_neg (show ¬ nI 86 = 71 by decide), if_neg (show ¬ nI 86 = 65 by decide), if_neg (show ¬ nI 86 = 66 by decide), if_neg (show ¬ nI 86 = 72 by decide), if_pos (show nI 86 = 86 from rfl), c_side h v, bd_eq, lb_eq, m_side (A := fun T => f_X12_thingField_230 (nI 86) T) v, t1, show gI c 115 45 = gA m 134 141 from h.ev.i (115, 0, 141) (by decide)]
    by_cases z : un w b ng 10 < 0
    · rw [if_pos z, if_pos z]; exact ⟨_, m, rfl, rfl, same⟩
    · rw [if_neg z, if_neg z]
      exact ⟨_, _, rfl, rfl, EP.num (B := 0) h (f := 115) (o := 0) (k := 141) (by decide) (by decide) (by decide) (show (0 : Int) ≤ _ by omega) (show _ ≤ (32767 : Int) by omega) (by omega) (by omega)⟩
  have n : ∀ a, a < 256 → ¬ k = a → ¬ nI k = nI a := fun a ha q => nI_ne hk ha q
  have h65 : ¬ nI k = 65 := n 65 (by decide) q65
  have h66 : ¬ nI k = 66 := n 66 (by decide) q66
  have h68 : ¬ nI k = 68 := n 68 (by decide) q68
  have h69 : ¬ nI k = 69 := n 69 (by decide) q69
  have h70 : ¬ nI k = 70 := n 70 (by decide) q70
  have h71 : ¬ nI k = 71 := n 71 (by decide) q71
  have h72 : ¬ nI k = 72 := n 72 (by decide) q72
  have h80 : ¬ nI k = 80 := n 80 (by decide) q80
  have h81 : ¬ nI k = 81 := n 81 (by decide) q81
  have h86 : ¬ nI k = 86 := n 86 (by decide) q86
  have h87 : ¬ nI k = 87 := n 87 (by decide) q87
  unfold f_X12_thingField
  rw [if_neg h68, u37 h69 h71 h65 h66 h72 h86 h80 h70 h81]
  simp only [h65, h66, h68, h69, h70, h71, h72, h80, h81, h86, h87, if_false, ite_self]
  exact stay
end D0
