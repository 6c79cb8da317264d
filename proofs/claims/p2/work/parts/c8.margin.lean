/-! The field of the page whole, on both sides. -/
section C8
variable {c c' c0 c1 c2 m m' m0 m1 m2 T : Mm} {d w b : Nat} {ov ov' ng sg : Bool} {g L : Nat → Int32} {Gc Gm : Gty}
theorem t404 {a : Int32} (h76 : ¬ a = 76) : f_X12_pageField_404 Gm a m = some ((), m) := by unfold f_X12_pageField_404; rw [if_neg h76]
theorem t328 {a : Int32} (h70 : ¬ a = 70) (h76 : ¬ a = 76) : f_X12_pageField_328 Gm a m = some ((), m) := by unfold f_X12_pageField_328; rw [if_neg h70, t404 h76]
theorem t250 {a : Int32} (h69 : ¬ a = 69) (h70 : ¬ a = 70) (h76 : ¬ a = 76) : f_X12_pageField_250 Gm a m = some ((), m) := by unfold f_X12_pageField_250; rw [if_neg h69, t328 h70 h76]
theorem t209 {a : Int32} (h68 : ¬ a = 68) (h69 : ¬ a = 69) (h70 : ¬ a = 70) (h76 : ¬ a = 76) : f_X12_pageField_209 Gm a m = some ((), m) := by unfold f_X12_pageField_209; rw [if_neg h68, t250 h69 h70 h76]
theorem t159 {a : Int32} (h67 : ¬ a = 67) (h68 : ¬ a = 68) (h69 : ¬ a = 69) (h70 : ¬ a = 70) (h76 : ¬ a = 76) : f_X12_pageField_159 Gm a m = some ((), m) := by unfold f_X12_pageField_159; rw [if_neg h67, t209 h68 h69 h70 h76]
theorem t123 {a : Int32} (h88 : ¬ a = 88) (h67 : ¬ a = 67) (h68 : ¬ a = 68) (h69 : ¬ a = 69) (h70 : ¬ a = 70) (h76 : ¬ a = 76) : f_X12_pageField_123 Gm a m = some ((), m) := by unfold f_X12_pageField_123; rw [if_neg h88, t159 h67 h68 h69 h70 h76]
theorem t99 {a : Int32} (h72 : ¬ a = 72) (h88 : ¬ a = 88) (h67 : ¬ a = 67) (h68 : ¬ a = 68) (h69 : ¬ a = 69) (h70 : ¬ a = 70) (h76 : ¬ a = 76) : f_X12_pageField_99 Gm a m = some ((), m) := by unfold f_X12_pageField_99; rw [if_neg h72, t123 h88 h67 h68 h69 h70 h76]
theorem p99 {a : Int32} (h65 : ¬ a = 65) (h79 : ¬ a = 79) : f_X12_pageField Gm a m = f_X12_pageField_99 Gm a m := by unfold f_X12_pageField f_X12_pageField_52; rw [lb_eq, if_neg h65, if_neg h79]
theorem P2_ep (h : RR d ov c m) (a : Option (Unit × Mm)) (e : Option (Unit × Mm)) (x : ∃ c' m', a = some ((), c') ∧ e = some ((), m') ∧ EP c m c' m') : P2 a e (fun _ c' _ m' => OU d ov c m c' m') := by
  obtain ⟨c2, m2, s1, s2, s3⟩ := x
  rw [s1, s2]; exact P2_ret (OU.env h s3)
theorem two_top {n : Nat} (hn : n ≤ 32767) (h : EVq c 45 (gA m 134)) (e : EB (gA m 134)) (hm : gI m 1251 133 = nI n) : ∃ c' m', f_X7_topMargin 46 (nI n) c = some ((), c') ∧ f_X12_pageField_250 Gm 69 m = some ((), m') ∧ EP c m c' m' := by
  obtain ⟨u, u1, u2⟩ := e.k6
  have nt := mt_b (n := n) (t := u) (by omega) u2
  have hH := lgH_le (gA m 134)
  have t3 : f_X12_pageField_328 Gm 69 m = some ((), m) := t328 (by decide) (by decide)
  unfold f_X7_topMargin f_X12_pageField_250
  rw [if_pos rfl, hm, if_neg (nI_pos (by omega)), if_neg (nI_pos (by omega)), c_down (h.sf e), bd_eq, m_high, bd_eq, show gI c 708 46 = nI u from (h.i (708, 1, 6) (by decide)).trans u1, u1, pk_mul, nI_j (by omega), nI_j (by omega), nI_j (by omega), jz_mul, show (n : Int) * (u : Int) = ((n * u : Nat) : Int) by push_cast; rfl, show (96 : Int64) = jz 96 from rfl, jz_mul, show (96 : Int) * (lgH (gA m 134) : Int) = ((96 * lgH (gA m 134) : Nat) : Int) by omega]
  have eq : 0 ≤ lg_cmp (jz ((n * u : Nat) : Int)) (jz ((96 * lgH (gA m 134) : Nat) : Int)) ↔ 96 * lgH (gA m 134) ≤ n * u := by
    rw [c_ge, jz_le (by omega) (by omega) (by omega) (by omega)]; omega
  by_cases q : 96 * lgH (gA m 134) ≤ n * u
  · rw [if_pos (nI_le q (by omega)), if_pos (eq.mpr q), t3]
    exact ⟨c, m, rfl, rfl, EP.refl h e⟩
  · rw [if_neg (nI_ge (by omega) (by omega)), if_neg (fun y => q (eq.mp y)), hm, pk_mul]
    have ei := iz_int (a := ((n * u : Nat) : Int)) (by omega) (by omega)
    have ej := iz_int (a := ((96 * lgH (gA m 134) : Nat) : Int)) (by omega) (by omega)
    have e1 := EP.one h e (f := 704) (o := 1) (k := 4) (by decide) (by decide) (by decide) (nI (n * u)) (by rw [nI_iz, ei]; show (0 : Int) ≤ _; omega) (by rw [nI_iz, ei]; show _ ≤ (76800 : Int); omega)
    have lh : lgH (gA (uA m 134 4 (nI (n * u))) 134) = lgH (gA m 134) := lgH_eq e1.e0 e1.e1
    have e2 := EP.one e1.v e1.b (f := 705) (o := 1) (k := 5) (by decide) (by decide) (by decide) (nI (96 * lgH (gA m 134))) (by rw [nI_iz, ej]; show (0 : Int) ≤ _; omega) (by rw [nI_iz, ej]; show _ ≤ (76800 : Int); omega)
    obtain ⟨c3, m3, s1, s2, s3⟩ := hy e2.v e2.b
    have d1 : f_X7_down 46 (uI c 704 46 (nI (n * u))) = some (nI (96 * lgH (gA m 134)), uI c 704 46 (nI (n * u))) := by
      rw [← lh]; exact c_down (e1.v.sf e1.b)
    have d2 : f_X12_high (uA m 134 4 (nI (n * u))) = some (nI (lgH (gA m 134)), uA m 134 4 (nI (n * u))) := by
      rw [← lh]; exact m_high
    simp only [lb_eq, d1, d2, bd_eq, bd_u]
    rw [show (96 : Int32) * nI (lgH (gA m 134)) = nI (96 * lgH (gA m 134)) from pk_mul 96 _]
    exact ⟨c3, m3, s1, s2, (e1.trans e2).trans s3⟩
theorem two_bot {z : Int} (z1 : -32767 ≤ z) (z2 : z ≤ 32767) (h : EVq c 45 (gA m 134)) (e : EB (gA m 134)) (hm : gI m 1251 133 = iz z) : ∃ c' m', f_X7_bottomMargin 46 (iz z) c = some ((), c') ∧ f_X12_pageField_328 Gm 70 m = some ((), m') ∧ EP c m c' m' := by
  obtain ⟨u, u1, u2⟩ := e.k6
  obtain ⟨p, p1, p2⟩ := e.k4
  have hH := lgH_le (gA m 134)
  have t4 : f_X12_pageField_404 Gm 70 m = some ((), m) := t404 (by decide)
  have eq0 : iz z ≤ 0 ↔ z ≤ 0 := by rw [show (0 : Int32) = iz 0 from rfl]; exact iz_le (by omega) (by omega) (by omega) (by omega)
  unfold f_X7_bottomMargin f_X12_pageField_328
  rw [if_pos rfl, lb_eq, hm, t4]
  by_cases q0 : z ≤ 0
  · rw [if_pos (eq0.mpr q0), if_pos (eq0.mpr q0)]
    exact ⟨c, m, rfl, rfl, EP.refl h e⟩
  · rw [if_neg (fun y => q0 (eq0.mp y)), if_neg (fun y => q0 (eq0.mp y))]
    obtain ⟨n, rfl⟩ : ∃ n : Nat, z = (n : Int) := ⟨z.toNat, by omega⟩
    have nt := mt_b (n := n) (t := u) (by omega) u2
    rw [← nI_iz, c_down (h.sf e), bd_eq, m_high, bd_eq, show gI c 708 46 = nI u from (h.i (708, 1, 6) (by decide)).trans u1, u1, pk_mul, show gI c 704 46 = nI p from (h.i (704, 1, 4) (by decide)).trans p1, p1, nI_add, nI_j (by omega), nI_j (by omega), nI_j (by omega), nI_j (by omega), jz_mul, jz_add, show (p : Int) + (n : Int) * (u : Int) = ((p + n * u : Nat) : Int) by push_cast; rfl, show (96 : Int64) = jz 96 from rfl, jz_mul, show (96 : Int) * (lgH (gA m 134) : Int) = ((96 * lgH (gA m 134) : Nat) : Int) by omega]
    have eq : 0 < lg_cmp (jz ((p + n * u : Nat) : Int)) (jz ((96 * lgH (gA m 134) : Nat) : Int)) ↔ 96 * lgH (gA m 134) < p + n * u := by
      rw [c_gt, jz_lt (by omega) (by omega) (by omega) (by omega)]; omega
    by_cases q : 96 * lgH (gA m 134) < p + n * u
    · rw [if_pos (nI_lt q (by omega)), if_pos (eq.mpr q)]
      exact ⟨c, m, rfl, rfl, EP.refl h e⟩
    · rw [if_neg (nI_nlt (by omega) (by omega)), if_neg (fun y => q (eq.mp y)), hm, ← nI_iz, pk_mul, nI_add]
      have ei := iz_int (a := ((p + n * u : Nat) : Int)) (by omega) (by omega)
      exact ⟨_, _, rfl, rfl, EP.one h e (f := 705) (o := 1) (k := 5) (by decide) (by decide) (by decide) (nI (p + n * u)) (by rw [nI_iz, ei]; show (0 : Int) ≤ _; omega) (by rw [nI_iz, ei]; show _ ≤ (76800 : Int); omega)⟩
theorem two_vdist {z : Int} (z1 : -32767 ≤ z) (z2 : z ≤ 32767) (h : EVq c 45 (gA m 134)) (e : EB (gA m 134)) (hm : gI m 1251 133 = iz z) : ∃ c' m', (if iz z ≤ 0 then (lb (uI c 708 46 (gI c 708 46)) fun T13 => some ((), T13)) else (gd (¬ iz z = 0) <| if ((48 : Int32) - (48 : Int32) / iz z * iz z) = 0 then (gd (¬ iz z = 0) <| lb (uI c 708 46 ((7200 : Int32) / iz z)) fun T17 => some ((), T17)) else (lb (uI c 708 46 (gI c 708 46)) fun T15 => some ((), T15)))) = some ((), c') ∧ f_X12_pageField_209 Gm 68 m = some ((), m') ∧ EP c m c' m' := by
  have t4 : f_X12_pageField_250 Gm 68 m = some ((), m) := t250 (by decide) (by decide) (by decide)
  have eq0 : iz z ≤ 0 ↔ z ≤ 0 := by rw [show (0 : Int32) = iz 0 from rfl]; exact iz_le (by omega) (by omega) (by omega) (by omega)
  have e708 : gI c 708 46 = gA m 134 6 := h.i (708, 1, 6) (by decide)
  have same := EP.same h e (f := 708) (o := 1) (k := 6) (by decide) (by decide)
  unfold f_X12_pageField_209
  rw [if_pos rfl, hm, t4, e708]
  by_cases q0 : z ≤ 0
  · rw [if_pos (eq0.mpr q0), if_pos (eq0.mpr q0)]
    exact ⟨_, m, rfl, rfl, same⟩
  · rw [if_neg (fun y => q0 (eq0.mp y)), if_neg (fun y => q0 (eq0.mp y))]
    obtain ⟨n, rfl⟩ : ∃ n : Nat, z = (n : Int) := ⟨z.toNat, by omega⟩
    have nz : ¬ iz (n : Int) = 0 := fun y => by
      have := (iz_inj (a := (n : Int)) (b := 0) (by omega) (by omega) (by omega) (by omega)).mp y
      omega
    simp only [gd_eq nz, lb_eq]
    split
    · rw [← nI_iz, show (7200 : Int32) = nI 7200 from rfl, pk_div (by omega) (by omega) (by omega)]
      have hb : 7200 / n ≤ 7200 := Nat.div_le_self _ _
      generalize 7200 / n = k at hb
      have ei := iz_int (a := (k : Int)) (by omega) (by omega)
      exact ⟨_, _, rfl, rfl, EP.one h e (f := 708) (o := 1) (k := 6) (by decide) (by decide) (by decide) (nI k) (by rw [nI_iz, ei]; show (0 : Int) ≤ _; omega) (by rw [nI_iz, ei]; show _ ≤ (32000 : Int); omega)⟩
    · exact ⟨_, m, rfl, rfl, same⟩
end C8
