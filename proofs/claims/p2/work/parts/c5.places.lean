/-! The field of places, on both sides. -/
section C5
variable {c c' c0 c1 c2 m m' m0 m1 m2 T : Mm} {d w b : Nat} {ov ov' ng sg : Bool} {g L : Nat → Int32} {Gc Gm : Gty}
theorem iz_neg0 {z : Int} (h1 : -32767 ≤ z) (h2 : z ≤ 32767) : iz z < 0 ↔ z < 0 := iz_nn (by omega) (by omega)
theorem mt_b {n t : Nat} (hn : n ≤ 32768) (ht : t ≤ 32000) : n * t ≤ 1048576000 := Nat.le_trans (Nat.mul_le_mul hn ht) (by omega)
theorem EP.i (h : EP c m c' m') : ∀ q, q ∈ envT → gI c' q.1 (45 + q.2.1) = gA m' 134 q.2.2 := h.v.i
theorem two_left {n : Nat} (hn : n ≤ 32767) (h : EVq c 45 (gA m 134)) (e : EB (gA m 134)) (hm : gI m 1251 133 = nI n) : ∃ c' m', f_X7_leftMargin 46 (nI n) c = some ((), c') ∧ (if 0 ≤ (lg_cmp ((((gI m 1251 133)).toInt64) * (((gA m 134 7)).toInt64)) (((gA m 134 3)).toInt64)) then some ((), m) else (lb (uA m 134 2 (((gI m 1251 133) * (gA m 134 7)))) fun T1 => if (gA T1 134 2) ≤ (gA T1 134 189) then (some ((), T1)) else (bd (f_X12_setX (((gA T1 134 2)).toInt64) T1) fun _ T2 => some ((), T2)))) = some ((), m') ∧ EP c m c' m' := by
  obtain ⟨r, r1, r2⟩ := e.k3
  obtain ⟨t, t1, t2⟩ := e.k7
  obtain ⟨x, x1, x2⟩ := e.k189
  have nt := mt_b (n := n) (t := t) (by omega) t2
  unfold f_X7_leftMargin
  rw [if_neg (nI_pos (by omega)), show gI c 703 46 = nI r from (h.i (703, 1, 3) (by decide)).trans r1, show gI c 709 46 = nI t from (h.i (709, 1, 7) (by decide)).trans t1, pk_mul, hm, t1, r1, nI_j (by omega), nI_j (by omega), nI_j (by omega), jz_mul, show (n : Int) * (t : Int) = ((n * t : Nat) : Int) by push_cast; rfl, pk_mul]
  have eq : 0 ≤ lg_cmp (jz ((n * t : Nat) : Int)) (jz (r : Int)) ↔ r ≤ n * t := by
    rw [c_ge, jz_le (by omega) (by omega) (by omega) (by omega)]; omega
  by_cases q : r ≤ n * t
  · rw [if_pos (nI_le q (by omega)), if_pos (eq.mpr q)]
    exact ⟨c, m, rfl, rfl, EP.refl h e⟩
  · rw [if_neg (nI_ge (by omega) (by omega)), if_neg (fun y => q (eq.mp y)), lb_eq, lb_eq]
    have ei := iz_int (a := ((n * t : Nat) : Int)) (by omega) (by omega)
    have ep := EP.one h e (f := 702) (o := 1) (k := 2) (by decide) (by decide) (by decide) (nI (n * t)) (by rw [nI_iz, ei]; show (0 : Int) ≤ _; omega) (by rw [nI_iz, ei]; show _ ≤ (76800 : Int); omega)
    have g2 : gA (uA m 134 2 (nI (n * t))) 134 2 = nI (n * t) := by rw [gA_wr, wr_s]
    have g189 : gA (uA m 134 2 (nI (n * t))) 134 189 = nI x := by rw [gA_wr, wr_o _ (by decide), x1]
    have c2 : gI (uI c 702 46 (nI (n * t))) 702 46 = nI (n * t) := (ep.v.i (702, 1, 2) (by decide)).trans g2
    have c6 : gI (uI c 702 46 (nI (n * t))) 706 46 = nI x := (ep.v.i (706, 1, 189) (by decide)).trans g189
    rw [c2, c6, g2, g189, f_max, bd_eq, bd_u, bd_u]
    by_cases p : n * t ≤ x
    · rw [if_neg (nI_nlt p (by omega)), if_pos (nI_le p (by omega)), nI_j (by omega)]
      obtain ⟨c3, s1, s2⟩ := mx_id ep.v ep.b g189 x2
      exact ⟨c3, _, s1, rfl, ep.trans s2⟩
    · rw [if_pos (nI_lt (by omega) (by omega)), if_neg (nI_ge (by omega) (by omega)), nI_j (by omega)]
      obtain ⟨c3, m3, s1, s2, s3, _⟩ := mx (z := ((n * t : Nat) : Int)) ep.v ep.b (by omega) (by omega)
      exact ⟨c3, m3, s1, s2, ep.trans s3⟩
theorem two_right {n : Nat} (hn : n ≤ 32767) (h : EVq c 45 (gA m 134)) (e : EB (gA m 134)) (hm : gI m 1251 133 = nI n) : ∃ c' m', f_X7_rightMargin 46 (nI n) c = some ((), c') ∧ f_X12_placeField_271 77 m = some ((), m') ∧ EP c m c' m' := by
  obtain ⟨l, l1, l2⟩ := e.k2
  obtain ⟨t, t1, t2⟩ := e.k7
  have nt := mt_b (n := n + 1) (t := t) (by omega) t2
  have hW := lgW_le (gA m 134)
  unfold f_X7_rightMargin f_X12_placeField_271
  rw [if_pos rfl, hm, if_neg (nI_pos (by omega)), show gI c 702 46 = nI l from (h.i (702, 1, 2) (by decide)).trans l1, show gI c 709 46 = nI t from (h.i (709, 1, 7) (by decide)).trans t1, show (1 : Int32) = nI 1 from rfl, nI_add, pk_mul, lb_eq, if_neg (nI_pos (by omega)), t1, l1, nI_j (by omega), nI_j (by omega), nI_j (by omega), show (1 : Int64) = jz 1 from rfl, jz_add, jz_mul, show ((n : Int) + 1) * (t : Int) = (((n + 1) * t : Nat) : Int) by push_cast; rfl]
  have eq : lg_cmp (jz (((n + 1) * t : Nat) : Int)) (jz (l : Int)) ≤ 0 ↔ (n + 1) * t ≤ l := by
    rw [c_le, jz_le (by omega) (by omega) (by omega) (by omega)]; omega
  by_cases q : (n + 1) * t ≤ l
  · rw [if_pos (nI_le q (by omega)), if_pos (eq.mpr q)]
    exact ⟨c, m, rfl, rfl, EP.refl h e⟩
  · rw [if_neg (nI_ge (by omega) (by omega)), if_neg (fun y => q (eq.mp y)), c_across (h.sf e), bd_eq, m_wide, bd_eq, nI_j (by omega), show (96 : Int64) = jz 96 from rfl, jz_mul, show (96 : Int) * (lgW (gA m 134) : Int) = ((96 * lgW (gA m 134) : Nat) : Int) by omega]
    have eq2 : 0 < lg_cmp (jz (((n + 1) * t : Nat) : Int)) (jz ((96 * lgW (gA m 134) : Nat) : Int)) ↔ 96 * lgW (gA m 134) < (n + 1) * t := by
      rw [c_gt, jz_lt (by omega) (by omega) (by omega) (by omega)]; omega
    by_cases p : 96 * lgW (gA m 134) < (n + 1) * t
    · rw [if_pos (nI_lt p (by omega)), if_pos (eq2.mpr p)]
      exact ⟨c, m, rfl, rfl, EP.refl h e⟩
    · rw [if_neg (nI_nlt (by omega) (by omega)), if_neg (fun y => p (eq2.mp y)), lb_eq, lb_eq, hm, t1, nI_add, pk_mul]
      have ei := iz_int (a := (((n + 1) * t : Nat) : Int)) (by omega) (by omega)
      exact ⟨_, _, rfl, rfl, EP.one h e (f := 703) (o := 1) (k := 3) (by decide) (by decide) (by decide) (nI ((n + 1) * t)) (by rw [nI_iz, ei]; show (0 : Int) ≤ _; omega) (by rw [nI_iz, ei]; show _ ≤ (76800 : Int); omega)⟩
/-- a value below nothing is no number of columns -/
theorem vz_n (hw : w ≤ 32767) : (vz w ng < 0) ∨ (∃ n : Nat, n ≤ 32767 ∧ iz (vz w ng) = nI n ∧ 0 ≤ vz w ng) := by
  have := vz_b (ng := ng) hw
  by_cases q : vz w ng < 0
  · exact Or.inl q
  · exact Or.inr ⟨(vz w ng).toNat, by omega, by rw [nI_iz, show (((vz w ng).toNat : Nat) : Int) = vz w ng by omega], by omega⟩
theorem two_place {k : Nat} (hk : k < 256) (h : RR d ov c m) (v : VL c m d w b ng sg) (hl : gI c 505 (125 + d) = nI k) : ∃ c' m', f_X9_placeField (iz (vz w ng)) c = some ((), c') ∧ f_X12_placeField (nI k) m = some ((), m') ∧ EP c m c' m' := by
  obtain ⟨t, t1, t2⟩ := h.eb.k7
  obtain ⟨u, u1, u2⟩ := h.eb.k6
  obtain ⟨p, p1, p2⟩ := h.eb.k4
  have zb := vz_b (ng := ng) v.1
  have stay : ∃ c' m', some ((), c) = some ((), c') ∧ some ((), m) = some ((), m') ∧ EP c m c' m' := ⟨c, m, rfl, rfl, EP.refl h.ev h.eb⟩
  unfold f_X9_placeField
  rw [rd_eq h, lb_eq, hl]
  by_cases q67 : k = 67
  · subst q67
    have ub := un_b (ng := ng) v.1 v.2.1 t2
    obtain ⟨c2, m2, s1, s2, s3⟩ := two_ma h v ub.1 ub.2
    refine ⟨c2, m2, ?_, ?_, s3⟩
    · rw [if_pos (by decide), rd_eq h, show gI c 709 46 = nI t from (h.ev.i (709, 1, 7) (by decide)).trans t1, v.units t2, bd_eq, bd_u, s1]
    · unfold f_X12_placeField
      rw [if_pos (by decide), t1, nI_j (by omega), v.munits t2, bd_eq]; exact s2
  by_cases q72 : k = 72
  · subst q72
    have ub := un_b (ng := ng) (p := 10) v.1 v.2.1 (by omega)
    obtain ⟨c2, m2, s1, s2, s3⟩ := two_ma h v ub.1 ub.2
    refine ⟨c2, m2, ?_, ?_, s3⟩
    · rw [if_neg (by decide), if_neg (by decide), if_neg (by decide), if_neg (by decide), if_neg (by decide), if_pos (by decide), rd_eq h, show (10 : Int32) = nI 10 from rfl, v.units (by omega), bd_eq, bd_u, s1]
    · unfold f_X12_placeField
      rw [if_neg (by decide), if_neg (by decide), if_pos (by decide), show (10 : Int64) = jz ((10 : Nat) : Int) from rfl, v.munits (by omega), bd_eq]; exact s2
  by_cases q82 : k = 82
  · subst q82
    have ub := un_b (ng := ng) v.1 v.2.1 u2
    obtain ⟨c2, m2, s1, s2, s3⟩ := two_md (t := p) (p3 := nI p) (B := (gA m 134 4).toInt64) h v ub.1 ub.2 p2 (nI_j (by omega)) (by rw [p1, nI_j (by omega)])
    refine ⟨c2, m2, ?_, ?_, s3⟩
    · rw [if_neg (by decide), if_neg (by decide), if_neg (by decide), if_neg (by decide), if_neg (by decide), if_neg (by decide), if_neg (by decide), if_neg (by decide), if_neg (by decide), if_neg (by decide), if_neg (by decide), if_neg (by decide), if_neg (by decide), if_neg (by decide), if_neg (by decide), if_pos (by decide), rd_eq h, show gI c 708 46 = nI u from (h.ev.i (708, 1, 6) (by decide)).trans u1, v.units u2, bd_eq, bd_u, show gI c 704 46 = nI p from (h.ev.i (704, 1, 4) (by decide)).trans p1, s1]
    · unfold f_X12_placeField
      rw [if_neg (by decide), if_pos (by decide), u1, nI_j (by omega), v.munits u2, bd_eq]; exact s2
  by_cases q86 : k = 86
  · subst q86
    have ub := un_b (ng := ng) (p := 10) v.1 v.2.1 (by omega)
    obtain ⟨c2, m2, s1, s2, s3⟩ := two_md (t := p) (p3 := nI p) (B := (gA m 134 4).toInt64) h v ub.1 ub.2 p2 (nI_j (by omega)) (by rw [p1, nI_j (by omega)])
    refine ⟨c2, m2, ?_, ?_, s3⟩
    · rw [if_neg (by decide), if_neg (by decide), if_neg (by decide), if_neg (by decide), if_neg (by decide), if_neg (by decide), if_neg (by decide), if_neg (by decide), if_neg (by decide), if_neg (by decide), if_neg (by decide), if_neg (by decide), if_neg (by decide), if_neg (by decide), if_neg (by decide), if_neg (by decide), if_neg (by decide), if_neg (by decide), if_neg (by decide), if_pos (by decide), rd_eq h, show (10 : Int32) = nI 10 from rfl, v.units (by omega), bd_eq, bd_u, show gI c 704 46 = nI p from (h.ev.i (704, 1, 4) (by decide)).trans p1, s1]
    · unfold f_X12_placeField
      rw [if_neg (by decide), if_neg (by decide), if_neg (by decide), if_pos (by decide), show (10 : Int64) = jz ((10 : Nat) : Int) from rfl, v.munits (by omega), bd_eq]; exact s2
  by_cases q76 : k = 76
  · subst q76
    unfold f_X12_placeField f_X12_placeField_271
    rw [if_neg (by decide), if_neg (by decide), if_neg (by decide), if_neg (by decide), if_neg (by decide), if_neg (by decide), if_neg (by decide), if_neg (by decide), if_neg (by decide), if_pos (by decide), if_neg (by decide), if_neg (by decide), if_neg (by decide), if_neg (by decide), if_pos (by decide), if_neg (show ¬ nI 76 = 77 by decide), bd_u]
    rcases vz_n (ng := ng) v.1 with z | ⟨n, n1, n2, n3⟩
    · unfold f_X7_leftMargin
      rw [v.nm, if_pos ((iz_neg0 zb.1 zb.2).mpr z), if_pos ((iz_neg0 zb.1 zb.2).mpr z)]; exact stay
    · obtain ⟨c2, m2, s1, s2, s3⟩ := two_left n1 h.ev h.eb (v.nm.trans n2)
      rw [n2, s1, if_neg (show ¬ gI m 1251 133 < 0 by rw [v.nm, iz_neg0 zb.1 zb.2]; omega)]
      exact ⟨c2, m2, rfl, s2, s3⟩
  by_cases q77 : k = 77
  · subst q77
    unfold f_X12_placeField
    rw [if_neg (by decide), if_neg (by decide), if_neg (by decide), if_neg (by decide), if_neg (by decide), if_neg (by decide), if_neg (by decide), if_neg (by decide), if_neg (by decide), if_neg (by decide), if_pos (by decide), if_neg (by decide), if_neg (by decide), if_neg (by decide), if_neg (by decide), if_neg (by decide), bd_u]
    rcases vz_n (ng := ng) v.1 with z | ⟨n, n1, n2, n3⟩
    · unfold f_X7_rightMargin f_X12_placeField_271
      rw [v.nm, lb_eq, if_pos ((iz_neg0 zb.1 zb.2).mpr z), if_pos (by decide), if_pos ((iz_neg0 zb.1 zb.2).mpr z)]; exact stay
    · obtain ⟨c2, m2, s1, s2, s3⟩ := two_right n1 h.ev h.eb (v.nm.trans n2)
      rw [n2, s1]
      exact ⟨c2, m2, rfl, s2, s3⟩
  have n : ∀ a, a < 256 → ¬ k = a → ¬ nI k = nI a := fun a ha q => nI_ne hk ha q
  have h67 : ¬ nI k = 67 := n 67 (by decide) q67
  have h72 : ¬ nI k = 72 := n 72 (by decide) q72
  have h82 : ¬ nI k = 82 := n 82 (by decide) q82
  have h86 : ¬ nI k = 86 := n 86 (by decide) q86
  have h76 : ¬ nI k = 76 := n 76 (by decide) q76
  have h77 : ¬ nI k = 77 := n 77 (by decide) q77
  unfold f_X12_placeField f_X12_placeField_271
  simp only [h67, h72, h82, h86, h76, h77, if_false, ite_self]
  exact stay
end C5
