/-! The field of macros but its task, on both sides. -/
section D9
variable {c c' c0 c1 c2 m m' m0 m1 m2 T : Mm} {d w b : Nat} {ov ov' ng sg : Bool} {g L : Nat → Int32} {Gc Gm : Gty}
theorem two_macf {k : Nat} (hk : k < 256) (q88 : ¬ k = 88) (h : RR d ov c m) (v : VL c m d w b ng sg) (hl : gI c 505 (125 + d) = nI k) : ∃ c' m', f_X9_macroField Gc (iz (vz w ng)) c = some ((), c') ∧ f_X12_macroField Gm (nI k) m = some ((), m') ∧ EP c m c' m' := by
  have zb := vz_b (ng := ng) v.1
  have stay : ∃ c' m', some ((), c) = some ((), c') ∧ some ((), m) = some ((), m') ∧ EP c m c' m' := ⟨c, m, rfl, rfl, EP.refl h.ev h.eb⟩
  have n : ∀ a, a < 256 → ¬ k = a → ¬ nI k = nI a := fun a ha q => nI_ne hk ha q
  have h88 : ¬ nI k = 88 := n 88 (by decide) q88
  have c92 : f_X9_macroField_92 Gc (iz (vz w ng)) c = some ((), c) := by unfold f_X9_macroField_92; rw [rd_eq h, hl, if_neg h88]
  have m224 : f_X12_macroField_224 Gm (nI k) m = some ((), m) := by unfold f_X12_macroField_224; rw [if_neg h88]
  have e0 : iz (vz w ng) < 0 ↔ vz w ng < 0 := iz_neg0 zb.1 zb.2
  by_cases q83 : k = 83
  · subst q83
    unfold f_X9_macroField f_X12_macroField f_X9_macroField_33 f_X12_macroField_37 f_X9_macroField_62 f_X12_macroField_134
    simp only [rd_eq h, hl]
    rw [if_neg (show ¬ nI 83 = 89 by decide), if_neg (show ¬ nI 83 = 89 by decide), c92, m224, v.nm, if_pos (show nI 83 = 83 from rfl), if_pos (show nI 83 = 83 from rfl), if_pos (show nI 83 = 83 from rfl), if_pos (show nI 83 = 83 from rfl)]
    by_cases z0 : iz (vz w ng) = 0
    · rw [if_pos z0, if_pos z0, bd_u]
      exact two_keep h.ev h.eb
    · rw [if_neg z0, if_neg z0]
      by_cases z1 : iz (vz w ng) = 1
      · rw [if_pos z1, if_pos z1, bd_u]
        exact two_recall h.ev h.eb
      · rw [if_neg z1, if_neg z1]; exact stay
  have h83 : ¬ nI k = 83 := n 83 (by decide) q83
  have c33 : f_X9_macroField_33 Gc (iz (vz w ng)) c = some ((), c) := by
    unfold f_X9_macroField_33 f_X9_macroField_62
    simp only [rd_eq h, hl, if_neg h83, c92]
  have m37 : f_X12_macroField_37 Gm (nI k) m = some ((), m) := by
    unfold f_X12_macroField_37 f_X12_macroField_134
    rw [if_neg h83, if_neg h83, m224]
  unfold f_X9_macroField f_X12_macroField
  rw [rd_eq h, hl, c33, m37, v.nm]
  by_cases q89 : nI k = 89
  · rw [if_pos q89, if_pos q89]
    by_cases z : vz w ng < 0
    · rw [if_pos (e0.mpr z), if_pos (e0.mpr z)]; exact stay
    · rw [if_neg (fun y => z (e0.mp y)), if_neg (fun y => z (e0.mp y))]
      have e16 : 16 ≤ iz (vz w ng) ↔ 16 ≤ vz w ng := by rw [show (16 : Int32) = iz 16 from rfl]; exact iz_le (by omega) (by omega) (by omega) (by omega)
      have e15 : 15 < iz (vz w ng) ↔ 15 < vz w ng := by rw [show (15 : Int32) = iz 15 from rfl]; exact iz_lt (by omega) (by omega) (by omega) (by omega)
      by_cases y : 16 ≤ vz w ng
      · rw [if_pos (e16.mpr y), if_pos (e15.mpr (by omega))]; exact stay
      · rw [if_neg (fun u => y (e16.mp u)), if_neg (fun u => y (by have := e15.mp u; omega))]
        exact ⟨_, _, rfl, rfl, EP.num (B := 0) h (f := 119) (o := 0) (k := 145) (by decide) (by decide) (by decide) (show (0 : Int) ≤ _ by omega) (show _ ≤ (15 : Int) by omega) zb.1 zb.2⟩
  · rw [if_neg q89, if_neg q89]; exact stay
end D9
