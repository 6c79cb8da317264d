/-! Ink and scale, on both sides. -/
section D1
variable {c c' c0 c1 c2 m m' m0 m1 m2 T : Mm} {d w b : Nat} {ov ov' ng sg : Bool} {g L : Nat → Int32} {Gc Gm : Gty}
theorem env_k : ∀ q, q ∈ envT → (q.2.1 = 0 ∨ q.2.1 = 1 ∨ q.2.1 = 3) ∧ (q.2.2 < 29 ∨ 49 ≤ q.2.2) ∧ q.2.2 < 192 := by decide +kernel
theorem full_k : ∀ k, k < 49 → 31 ≤ k → lo k = -2147483648 ∧ hi k = 2147483647 := by decide +kernel
/-- a new pattern in the environment -/
theorem EP.pat {s n : Int} (h : EVq c 45 (gA m 134)) (e : EB (gA m 134)) (s1 : 0 ≤ s) (s2 : s ≤ 4) (n1 : -32767 ≤ n) (n2 : n ≤ 32767) (fc : Fr (tF 50) (tA 50) c c') (fm : Fr nF (fun a => a == 134) m m') (o : ∀ j, (j < 29 ∨ 29 + 20 ≤ j) → gA m' 134 j = gA m 134 j) (t : TR c' 50 (fun k => gA m' 134 (29 + k))) (p1 : gA m' 134 29 = iz s) (p2 : gA m' 134 (29 + 1) = iz n) : EP c m c' m' := by
  have e1 := iz_int (a := s) (by omega) (by omega)
  have e2 := iz_int (a := n) (by omega) (by omega)
  refine EP_mk (EVq_mk ?_ ?_ ?_ ?_ ?_ ?_ t ?_ ?_) (EB_mk ?_ ?_ ?_ ?_) (fc.weak (fun f i z => ?_) (fun a z => ?_)) (fm.weak (fun f i z => z) (fun a z => ?_)) (o 0 (by omega)) (o 1 (by omega))
  · intro q hq
    have ek := env_k q hq
    rw [o _ (by omega), ← h.i q hq]
    refine fc.i ?_
    unfold tF
    rcases ek.1 with z | z | z <;> rw [z] <;> simp
  · rw [o _ (by omega), ← h.w]; exact fc.i (by unfold tF; simp)
  · rw [o _ (by omega), ← h.h]; exact fc.i (by unfold tF; simp)
  · rw [o _ (by omega), o _ (by omega), o _ (by omega), fc.i (by unfold tF; simp)]; exact h.r
  · rw [o _ (by omega)]
    intro j hj hj2
    rw [o _ (by omega), fc.a (by unfold tA; simp)]; exact h.p j hj hj2
  · intro i hi
    rw [o _ (by omega), fc.a (by unfold tA; simp)]; exact h.b i hi
  · intro k hk
    rw [fc.a (by unfold tA; simp), h.f k hk]
    have : wpi k ≤ 7 := by unfold wpi; split <;> omega
    exact (o _ (by omega)).symm
  · intro k hk
    rw [fc.a (by unfold tA; simp), h.s k hk]
    have : wpi k ≤ 7 := by unfold wpi; split <;> omega
    exact (o _ (by omega)).symm
  · intro k hk
    by_cases q : k < 29 ∨ 29 + 20 ≤ k
    · rw [o _ q]; exact e.r k hk
    · by_cases q29 : k = 29
      · subst q29; rw [p1, e1]; exact ⟨s1, s2⟩
      · by_cases q30 : k = 30
        · subst q30; rw [show gA m' 134 30 = iz n from p2, e2]; exact ⟨n1, n2⟩
        · obtain ⟨f1, f2⟩ := full_k k (by omega) (by omega)
          obtain ⟨z, z0, z1, z2⟩ := iz_ex (gA m' 134 k)
          rw [f1, f2, z0, iz_int z1 z2]; omega
  · rw [o _ (by omega), o _ (by omega)]; exact e.z
  · rw [o _ (by omega), o _ (by omega), o _ (by omega)]; exact e.o
  · rw [o _ (by omega), lgW_eq (o 0 (by omega)) (o 1 (by omega))]; exact e.x
  · revert z; unfold tF eF; simp; omega
  · revert z; unfold tA eA; simp; omega
  · exact z
theorem two_ink {k : Nat} (hk : k < 256) (h : RR d ov c m) (v : VL c m d w b ng sg) (hl : gI c 505 (125 + d) = nI k) : ∃ c' m', f_X9_inkField (iz (vz w ng)) c = some ((), c') ∧ f_X12_modelField (nI k) m = some ((), m') ∧ EP c m c' m' := by
  have zb := vz_b (ng := ng) v.1
  have stay : ∃ c' m', some ((), c) = some ((), c') ∧ some ((), m) = some ((), m') ∧ EP c m c' m' := ⟨c, m, rfl, rfl, EP.refl h.ev h.eb⟩
  have m70 : ¬ nI k = 84 → f_X12_modelField_70 (nI k) m = some ((), m) := fun q => by unfold f_X12_modelField_70; rw [if_neg q]
  have c87 : ¬ nI k = 84 → f_X9_inkField_87 (iz (vz w ng)) c = some ((), c) := fun q => by unfold f_X9_inkField_87; rw [rd_eq h, hl, if_neg q]
  by_cases q84 : k = 84
  · subst q84
    have g1 : f_X9_inkField (iz (vz w ng)) c = f_X9_inkField_87 (iz (vz w ng)) c := by
      unfold f_X9_inkField f_X9_inkField_14 f_X9_inkField_51
      simp only [rd_eq h, hl, show ¬ nI 84 = 78 by decide, show ¬ nI 84 = 79 by decide, if_false, ite_self]
    have g2 : f_X12_modelField (nI 84) m = f_X12_modelField_70 (nI 84) m := by
      unfold f_X12_modelField f_X12_modelField_35
      rw [if_neg (by decide), if_neg (by decide)]
    rw [g1, g2]
    obtain ⟨n, n1, n2, n3⟩ := h.eb.k144
    obtain ⟨t1, t2⟩ := two_tile (t := 50) (s := vz w ng) h.tl ((h.ev.i (118, 0, 144) (by decide)).trans n1) (Or.inl rfl) (by omega) (by omega) n2 n3
    unfold f_X9_inkField_87 f_X12_modelField_70
    rw [rd_eq h, hl, if_pos (show nI 84 = 84 from rfl), if_pos (show nI 84 = 84 from rfl), v.nm, n1, t1, bd_eq]
    rcases t2 with ⟨u1, u2⟩ | ⟨u1, u2, u3, c2, u4, u5, u6⟩
    · rw [u1, u2, bd_eq, if_pos (by rfl)]; exact stay
    · obtain ⟨m2, y1, y2, y3, y4, y5, y6⟩ := u6 134 29 m rfl rfl rfl (by decide) (by decide) (by decide)
      rw [u1, u4, bd_eq, if_neg (by decide), v.nm, n1, show (29 : Int32) = nI 29 from rfl, y1, bd_eq]
      exact ⟨c2, m2, rfl, rfl, EP.pat h.ev h.eb u2 u3 n2 n3 u5 y2 y3 y4 y5 y6⟩
  have n84 : ¬ nI k = 84 := nI_ne hk (by decide) q84
  have e78 := fun x : Int32 => EP.one (m := m) h.ev h.eb (f := 110) (o := 0) (k := 49) (by decide) (by decide) (by decide) x
  have e79 := fun x : Int32 => EP.one (m := m) h.ev h.eb (f := 111) (o := 0) (k := 50) (by decide) (by decide) (by decide) x
  unfold f_X9_inkField f_X9_inkField_14 f_X9_inkField_51 f_X12_modelField f_X12_modelField_35
  simp only [rd_eq h, hl, m70 n84, c87 n84, v.nm, lb_eq]
  by_cases z0 : iz (vz w ng) = 0
  · simp only [z0, if_true, show ¬ (0 : Int32) = 1 by decide, show ¬ (1 : Int32) = 0 by decide, if_false]
    by_cases q78 : nI k = 78
    · rw [if_pos q78, if_pos q78]; exact ⟨_, _, rfl, rfl, e78 0 (by decide) (by decide)⟩
    · rw [if_neg q78, if_neg q78]
      by_cases q79 : nI k = 79
      · rw [if_pos q79, if_pos q79]; exact ⟨_, _, rfl, rfl, e79 0 (by decide) (by decide)⟩
      · rw [if_neg q79, if_neg q79]; exact stay
  · by_cases z1 : iz (vz w ng) = 1
    · simp only [z1, if_true, show ¬ (1 : Int32) = 0 by decide, if_false]
      by_cases q78 : nI k = 78
      · rw [if_pos q78, if_pos q78]; exact ⟨_, _, rfl, rfl, e78 1 (by decide) (by decide)⟩
      · rw [if_neg q78, if_neg q78]
        by_cases q79 : nI k = 79
        · rw [if_pos q79, if_pos q79]; exact ⟨_, _, rfl, rfl, e79 1 (by decide) (by decide)⟩
        · rw [if_neg q79, if_neg q79]; exact stay
    · simp only [if_neg z0, if_neg z1, if_true, ite_self]
      exact stay
theorem EP.msame (h : EVq c 45 (gA m 134)) (e : EB (gA m 134)) (k : Nat) : EP c m c (uA m 134 k (gA m 134 k)) := by
  have q : ∀ j, gA (uA m 134 k (gA m 134 k)) 134 j = gA m 134 j := fun j => by
    rw [gA_wr]
    by_cases y : j = k
    · rw [y, wr_s]
    · rw [wr_o _ y]
  exact EP_mk (h.congr fun j _ => q j) (e.congr fun j _ => q j) Fr.refl (Fr.refl.uA _ _ (by rfl)) (q 0) (q 1)
theorem two_scale {k : Nat} (h : RR d ov c m) (v : VL c m d w b ng sg) (hl : gI c 505 (125 + d) = nI k) : ∃ c' m', f_X9_scaleField (iz (vz w ng)) c = some ((), c') ∧ (if nI k = 82 then (if (gA m 134 57) = 0 then (if (gI m 1251 133) = 75 then (lb (uA m 134 53 (1)) fun T7 => some ((), T7)) else (if (gI m 1251 133) = 37 then (lb (uA m 134 53 (2)) fun T6 => some ((), T6)) else (if (gI m 1251 133) = 25 then (lb (uA m 134 53 (3)) fun T5 => some ((), T5)) else (if (gI m 1251 133) = 18 then (lb (uA m 134 53 (4)) fun T4 => some ((), T4)) else (lb (uA m 134 53 ((gA m 134 53))) fun T3 => some ((), T3)))))) else (some ((), m))) else (some ((), m))) = some ((), m') ∧ EP c m c' m' := by
  have stay : ∃ c' m', some ((), c) = some ((), c') ∧ some ((), m) = some ((), m') ∧ EP c m c' m' := ⟨c, m, rfl, rfl, EP.refl h.ev h.eb⟩
  have one := fun x : Int32 => EP.one (m := m) h.ev h.eb (f := 400) (o := 3) (k := 53) (by decide) (by decide) (by decide) x
  unfold f_X9_scaleField
  simp only [rd_eq h, hl, lb_eq, v.nm, show gI c 404 48 = gA m 134 57 from h.ev.i (404, 3, 57) (by decide)]
  split
  · split
    · split
      · exact ⟨_, _, rfl, rfl, one 1 (by decide) (by decide)⟩
      · split
        · exact ⟨_, _, rfl, rfl, one 2 (by decide) (by decide)⟩
        · split
          · exact ⟨_, _, rfl, rfl, one 3 (by decide) (by decide)⟩
          · split
            · exact ⟨_, _, rfl, rfl, one 4 (by decide) (by decide)⟩
            · exact ⟨_, _, rfl, rfl, EP.msame h.ev h.eb 53⟩
    · exact stay
  · exact stay
end D1
