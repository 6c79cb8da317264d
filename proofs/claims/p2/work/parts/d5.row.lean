/-! The field of a row: mode and rows passed over, on both sides. -/
section D5
variable {c c' c0 c1 c2 m m' m0 m1 m2 T : Mm} {d w b : Nat} {ov ov' ng sg : Bool} {g L : Nat → Int32} {Gc Gm : Gty}
/-- the end of the reference's rows passed over -/
noncomputable def eRow (v : Int32) (T : Mm) : Option (Unit × Mm) := lb (uA T 134 59 (((gA T 134 59) + v))) fun T1 => f_X12_setY ((((gA T1 134 190)).toInt64) + (((96 : Int64) * (((gA T1 134 53)).toInt64)) * ((v).toInt64))) T1
theorem m_rowy {v : Int32} : ∀ (n i : Nat) (T : Mm), 80 - i < n → i ≤ 80 → ∃ T', f_X12_rowField_l112 n v (nI i) T = eRow v T' ∧ Fr nF meA T T' ∧ ∀ j, gA T' 134 j = if 60 + i ≤ j ∧ j < 140 then 0 else gA T 134 j := by
  intro n
  induction n with
  | zero => intro i T h1 h2; omega
  | succ n ih =>
    intro i T h1 h2
    show ∃ T', f_X12_rowField_b112 (f_X12_rowField_l112 n) v (nI i) T = eRow v T' ∧ _
    unfold f_X12_rowField_b112
    by_cases q : i = 80
    · subst q
      refine ⟨T, ?_, Fr.refl, fun j => by rw [if_neg (by omega)]⟩
      rw [if_pos (by decide)]
      unfold eRow
      rw [lb_eq, lb_eq, bd_u]
    · rw [if_neg (show ¬ (80 : Int32) ≤ nI i from (show ¬ nI 80 ≤ nI i from nI_ge (by omega) (by omega))), show (60 : Int32) = nI 60 from rfl, nI_add, ix_in (j := 60 + i) (nI_pos (by omega)) (nI_clamp (by omega)) (by omega), lb_eq, show (1 : Int32) = nI 1 from rfl, nI_add]
      obtain ⟨T', e1, e2, e3⟩ := ih (i + 1) (uA T 134 (60 + i) 0) (by omega) (by omega)
      refine ⟨T', e1, (Fr.refl.uA _ _ (by rfl)).trans e2, fun j => ?_⟩
      rw [e3, gA_wr]
      unfold wr
      by_cases a : 60 + i ≤ j ∧ j < 140
      · rw [if_pos a]
        by_cases z : j = 60 + i
        · rw [if_neg (by omega), if_pos z]
        · rw [if_pos (by omega)]
      · rw [if_neg a, if_neg (by omega), if_neg (by omega)]
/-- rows are passed over -/
theorem ras_grow {n : Nat} {b0 : Int32} (hn : n ≤ 32767) (h : EVq c 45 (gA m 134)) (e : EB (gA m 134)) (hb : gA m 134 57 = 1 → ¬ gA m 134 56 = -1 → b0 = gA m 134 59 + nI n ∧ 0 ≤ (gA m 134 59 + nI n).toInt ∧ (gA m 134 59 + nI n).toInt ≤ (gA m 134 56).toInt) : ∃ c' m', f_X9_growRows_26 (nI n) b0 (vA c 49 (fun j => if j < LN 49 then 0 else gA c 49 j)) = some ((), c') ∧ f_X12_rowField_l112 FU (nI n) (nI 0) m = some ((), m') ∧ EP c m c' m' := by
  obtain ⟨T', e1, e2, e3⟩ := m_rowy (v := nI n) FU 0 m (by decide) (by omega)
  have n59 : gA T' 134 59 = gA m 134 59 := e3 59
  have ep : EP c m (uI (vA c 49 (fun j => if j < LN 49 then 0 else gA c 49 j)) 406 48 b0) (uA T' 134 59 (gA m 134 59 + nI n)) := by
    have q : ∀ j, gA (uA T' 134 59 (gA m 134 59 + nI n)) 134 j = if j = 59 then gA m 134 59 + nI n else if 60 ≤ j ∧ j < 140 then 0 else gA m 134 j := fun j => by
      rw [gA_wr]
      unfold wr
      rw [e3]
    have p : ∀ f, f ≠ 406 → gI (uI (vA c 49 (fun j => if j < LN 49 then 0 else gA c 49 j)) 406 48 b0) f 48 = gI c f 48 := fun f hf => by
      rw [gI_uI, if_neg (fun z => hf z.1), gI_vA]
    refine EP.ras h e ((Fr.refl.vA _ (by rfl)).uI _ (by rfl)) (e2.uA _ _ (by rfl)) (fun j hj => by rw [q, if_neg (by omega), if_neg (by omega)]) ?_ ?_ ?_ ?_ ?_ ?_ ?_ ?_ ?_ ?_
    · rw [p _ (by decide), q, if_neg (by decide), if_neg (by decide)]; exact h.i (400, 3, 53) (by decide)
    · rw [p _ (by decide), q, if_neg (by decide), if_neg (by decide)]; exact h.i (401, 3, 54) (by decide)
    · rw [p _ (by decide), q, if_neg (by decide), if_neg (by decide)]; exact h.i (404, 3, 57) (by decide)
    · rw [p _ (by decide), q, if_neg (by decide), if_neg (by decide)]; exact h.i (405, 3, 58) (by decide)
    · rw [p _ (by decide), q, if_neg (by decide), if_neg (by decide)]; exact h.w
    · rw [p _ (by decide), q, if_neg (by decide), if_neg (by decide)]; exact h.h
    · rw [q 57, q 56, q 59, if_neg (by decide), if_neg (by decide), if_neg (by decide), if_neg (by decide), if_pos rfl]
      intro u v
      obtain ⟨w1, w2, w3⟩ := hb u v
      refine ⟨?_, w2, w3⟩
      rw [gI_uI, if_pos ⟨rfl, rfl⟩]; exact w1
    · intro i hi
      have l49 : LN 49 = 20 := by decide
      rw [gA_uI, gA_vA_s, l49, if_pos (show i / 32 < 20 by omega), q, if_neg (by omega), if_pos (show 60 ≤ 60 + i / 8 ∧ 60 + i / 8 < 140 by omega), show (0 : Int32) = nI 0 from rfl, nI_bt (by omega), nI_bt (by omega), Nat.zero_testBit, Nat.zero_testBit]
    · intro k k1 k2
      rw [q, if_neg (by omega), if_neg (by omega)]; exact e.r k (by omega)
    · rw [q, q, if_neg (by decide), if_neg (by decide), if_neg (by decide), if_neg (by decide)]; exact e.z
  obtain ⟨s, s1, s2, s3⟩ := ep.b.k53
  obtain ⟨y, y1, y2⟩ := ep.b.k190
  have mb : n * s ≤ 32767 * 4 := Nat.mul_le_mul hn (by omega)
  obtain ⟨c3, m3, u1, u2, u3, _⟩ := my (z := ((y + n * s * 96 : Nat) : Int)) ep.v ep.b (by omega) (by omega)
  refine ⟨c3, m3, ?_, ?_, ep.trans u3⟩
  · unfold f_X9_growRows_26
    rw [lb_eq, bd_u, show gI (uI (vA c 49 (fun j => if j < LN 49 then 0 else gA c 49 j)) 406 48 b0) 707 46 = nI y from (ep.v.i (707, 1, 190) (by decide)).trans y1, show gI (uI (vA c 49 (fun j => if j < LN 49 then 0 else gA c 49 j)) 406 48 b0) 400 48 = nI s from (ep.v.i (400, 3, 53) (by decide)).trans s1, nI_j (by omega), nI_j (by omega), nI_j (by omega), show (96 : Int64) = jz 96 from rfl, jz_mul, jz_mul, jz_add, show (y : Int) + (n : Int) * (s : Int) * 96 = ((y + n * s * 96 : Nat) : Int) by push_cast; rfl]
    exact u1
  · rw [e1]
    unfold eRow
    rw [n59, lb_eq, y1, s1, nI_j (by omega), nI_j (by omega), nI_j (by omega), show (96 : Int64) = jz 96 from rfl, jz_mul, jz_mul, jz_add, show (y : Int) + 96 * (s : Int) * (n : Int) = ((y + n * s * 96 : Nat) : Int) by push_cast; rw [Int.mul_comm (n : Int) (s : Int), Int.mul_comm ((s : Int) * (n : Int)) 96, Int.mul_assoc]]
    exact u2
end D5
