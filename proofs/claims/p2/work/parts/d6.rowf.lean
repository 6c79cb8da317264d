/-! The field of a row but its data, on both sides. -/
section D6
variable {c c' c0 c1 c2 m m' m0 m1 m2 T : Mm} {d w b : Nat} {ov ov' ng sg : Bool} {g L : Nat → Int32} {Gc Gm : Gty}
theorem c84 {n : Nat} (hn : n ≤ 32767) : f_X9_rowField_84 (nI n) c = if gI c 403 48 ≤ 0 then f_X9_growRows_26 (nI n) 0 (vA c 49 (fun j => if j < LN 49 then 0 else gA c 49 j)) else f_X9_growRows_26 (nI n) (gI c 406 48 + nI n) (vA c 49 (fun j => if j < LN 49 then 0 else gA c 49 j)) := by
  unfold f_X9_rowField_84 f_X4_clearRow f_X9_growRows
  rw [f_fill (by decide), bd_u, bd_eq, f_max, bd_eq, if_neg (nI_pos (by omega)), bd_u]
  rfl
theorem two_row {k : Nat} (hk : k < 256) (q87 : ¬ k = 87) (h : RR d ov c m) (v : VL c m d w b ng sg) (hl : gI c 505 (125 + d) = nI k) : ∃ c' m', f_X9_rowField (iz (vz w ng)) c = some ((), c') ∧ f_X12_rowField (nI k) m = some ((), m') ∧ EP c m c' m' := by
  have zb := vz_b (ng := ng) v.1
  have stay : ∃ c' m', some ((), c) = some ((), c') ∧ some ((), m) = some ((), m') ∧ EP c m c' m' := ⟨c, m, rfl, rfl, EP.refl h.ev h.eb⟩
  have n : ∀ a, a < 256 → ¬ k = a → ¬ nI k = nI a := fun a ha q => nI_ne hk ha q
  have h87 : ¬ nI k = 87 := n 87 (by decide) q87
  have c1 : f_X9_rowField_101 c = some ((), c) := by unfold f_X9_rowField_101; rw [rd_eq h, hl, if_neg h87]
  have e0 : iz (vz w ng) < 0 ↔ vz w ng < 0 := iz_neg0 zb.1 zb.2
  have e1 : iz (vz w ng) ≤ 0 ↔ vz w ng ≤ 0 := by rw [show (0 : Int32) = iz 0 from rfl]; exact iz_le (by omega) (by omega) (by omega) (by omega)
  by_cases q77 : k = 77
  · subst q77
    have c3 : f_X9_rowField_37 (iz (vz w ng)) c = some ((), c) := by unfold f_X9_rowField_37; rw [rd_eq h, hl, if_neg (by decide), c1]
    have m3 : f_X12_rowField_35 (nI 77) m = some ((), m) := by unfold f_X12_rowField_35; rw [if_neg (by decide)]
    unfold f_X9_rowField f_X12_rowField
    rw [rd_eq h, hl, if_pos (show nI 77 = 77 from rfl), if_pos (show nI 77 = 77 from rfl), c3, m3, v.nm]
    by_cases z : vz w ng < 0
    · rw [if_pos (e0.mpr z), if_pos (e0.mpr z)]; exact stay
    · rw [if_neg (fun y => z (e0.mp y)), if_neg (fun y => z (e0.mp y))]
      have e3 : 3 < iz (vz w ng) ↔ 3 < vz w ng := by rw [show (3 : Int32) = iz 3 from rfl]; exact iz_lt (by omega) (by omega) (by omega) (by omega)
      by_cases y : 3 < vz w ng
      · rw [if_pos (e3.mpr y), if_pos (e3.mpr y)]; exact stay
      · rw [if_neg (fun u => y (e3.mp u)), if_neg (fun u => y (e3.mp u))]
        exact ⟨_, _, rfl, rfl, EP.num (B := 0) h (f := 401) (o := 3) (k := 54) (by decide) (by decide) (by decide) (show (0 : Int) ≤ _ by omega) (show _ ≤ (3 : Int) by omega) zb.1 zb.2⟩
  have h77 : ¬ nI k = 77 := n 77 (by decide) q77
  unfold f_X9_rowField f_X12_rowField f_X9_rowField_37 f_X12_rowField_35
  simp only [rd_eq h, hl, if_neg h77]
  by_cases q89 : k = 89
  · subst q89
    rw [if_pos (show nI 89 = 89 from rfl), if_pos (show nI 89 = 89 from rfl), c1, v.nm, show gI c 404 48 = gA m 134 57 from h.ev.i (404, 3, 57) (by decide), show gI c 403 48 = rz (gA m 134 56) from h.ev.h]
    by_cases z : vz w ng ≤ 0
    · rw [if_pos (e1.mpr z), if_pos (e1.mpr z)]
      split <;> exact stay
    · rw [if_neg (fun y => z (e1.mp y)), if_neg (fun y => z (e1.mp y))]
      obtain ⟨o, o1, o2⟩ := h.eb.k57
      rcases (show o = 0 ∨ o = 1 by omega) with rfl | rfl
      · rw [o1, if_pos (show nI 0 = 0 from rfl), if_neg (show ¬ nI 0 = 1 by decide)]; exact stay
      · rw [o1, if_neg (show ¬ nI 1 = 0 by decide), if_pos (show nI 1 = 1 from rfl), lb_eq]
        obtain ⟨x, x1, x2⟩ : ∃ x : Nat, x ≤ 32767 ∧ iz (vz w ng) = nI x := ⟨(vz w ng).toNat, by omega, by rw [nI_iz, show (((vz w ng).toNat : Nat) : Int) = vz w ng by omega]⟩
        obtain ⟨y, y0, y1, y2⟩ := h.eb.k56
        have hh := h.ev.h
        rw [x2]
        by_cases yy : y = -1
        · have y56 : gA m 134 56 = -1 := by rw [y0, yy]; rfl
          rw [y56, if_pos (show rz (-1) ≤ 0 by decide), if_pos rfl, c84 x1, show gI c 403 48 = rz (-1) by rw [← y56]; exact hh, if_pos (show rz (-1) ≤ 0 by decide)]
          exact ras_grow x1 h.ev h.eb (fun _ u => absurd y56 u)
        · have n56 : ¬ gA m 134 56 = -1 := fun u => yy ((iz_inj (by omega) (by omega) (by omega) (by omega)).mp (by rw [← y0, u]; exact iz_m1))
          have z56 : y ≠ 0 := fun u => h.eb.z.2 (by rw [y0, u]; rfl)
          have r56 : rz (gA m 134 56) = iz y := by unfold rz; rw [if_neg n56, y0]
          have on := h.ev.r (o1.trans rfl) n56
          have ob := h.eb.o (o1.trans rfl) n56
          rw [y0, iz_int (by omega) (by omega)] at ob
          obtain ⟨r, r1, r2⟩ : ∃ r : Nat, gA m 134 59 = nI r ∧ (r : Int) ≤ y := ⟨(gA m 134 59).toInt.toNat, by rw [nI_iz, show (((gA m 134 59).toInt.toNat : Nat) : Int) = (gA m 134 59).toInt by omega]; exact iz_of _, by omega⟩
          have g0 : ¬ iz y ≤ 0 := fun u => by
            rw [show (0 : Int32) = iz 0 from rfl, iz_le (by omega) (by omega) (by omega) (by omega)] at u; omega
          have df : gA m 134 56 - gA m 134 59 = nI (y.toNat - r) := by rw [y0, r1, nI_iz, nI_iz, iz_sub, show y - (r : Int) = ((y.toNat - r : Nat) : Int) by omega]
          have fin : ∀ p : Nat, p ≤ 32767 → p ≤ y.toNat - r → ∃ c' m', f_X9_rowField_84 (nI p) c = some ((), c') ∧ f_X12_rowField_l112 FU (nI p) (nI 0) m = some ((), m') ∧ EP c m c' m' := fun p hp hp2 => by
            rw [c84 hp, hh, r56, if_neg g0]
            refine ras_grow hp h.ev h.eb (fun _ _ => ?_)
            rw [show gI c 406 48 = gA m 134 59 from on, r1, nI_add, y0, nI_iz, iz_int (by omega) (by omega), iz_int (by omega) (by omega)]
            exact ⟨rfl, by omega, by omega⟩
          rw [r56, if_neg g0, if_neg n56, show gI c 406 48 = gA m 134 59 from on, show iz y - gA m 134 59 = nI (y.toNat - r) by rw [← y0]; exact df, df, f_min, bd_eq, lb_eq]
          by_cases u : x ≤ y.toNat - r
          · rw [if_neg (nI_nlt u (by omega)), if_pos (nI_le u (by omega))]
            exact fin x x1 u
          · rw [if_pos (nI_lt (by omega) (by omega)), if_neg (nI_ge (by omega) (by omega))]
            exact fin _ (by omega) (by omega)
  · have h89 : ¬ nI k = 89 := n 89 (by decide) q89
    rw [if_neg h89, if_neg h89, c1]; exact stay
end D6
