/-! The task of tiles by its value, on both sides. -/
section E3
variable {c c' c0 c1 c2 m m' m0 m1 m2 T : Mm} {d w b : Nat} {ov ov' ng sg : Bool} {g L : Nat → Int32} {Gc Gm : Gty}
theorem P2_tileTask (h : RR d ov c m) (v : VL c m d w b ng sg) : P2 (f_X9_tileTask (iz (vz w ng)) c) (f_X12_userAct m) (fun _ c' _ m' => OU d ov c m c' m') := by
  have zb := vz_b (ng := ng) v.1
  have stay : P2 (some ((), c)) (some ((), m)) (fun _ c' _ m' => OU d ov c m c' m') := P2_ret (OU.refl h)
  obtain ⟨z, z0, z1, z2⟩ := h.eb.k144
  have e118 : gI c 118 45 = iz z := (h.ev.i (118, 0, 144) (by decide)).trans z0
  have n0 : iz z < 0 ↔ z < 0 := iz_neg0 z1 z2
  have n15 : 15 < iz z ↔ 15 < z := by rw [show (15 : Int32) = iz 15 from rfl]; exact iz_lt (by omega) (by omega) (by omega) (by omega)
  have n16 : 16 ≤ iz z ↔ 16 ≤ z := by rw [show (16 : Int32) = iz 16 from rfl]; exact iz_le (by omega) (by omega) (by omega) (by omega)
  have em : f_X12_userAct m = f_X12_userAct_24 (iz z) (cI (decide (0 ≤ z ∧ z ≤ 15))) m := by
    unfold f_X12_userAct
    rw [lb_eq, z0]
    by_cases q : z < 0
    · rw [if_pos (n0.mpr q), decide_eq_false (by omega)]; rfl
    · rw [if_neg (fun y => q (n0.mp y))]
      by_cases q2 : 15 < z
      · rw [if_pos (n15.mpr q2), decide_eq_false (by omega)]; rfl
      · rw [if_neg (fun y => q2 (n15.mp y)), decide_eq_true (by omega)]; rfl
  rw [em]
  unfold f_X9_tileTask f_X12_userAct_24 f_X12_userAct_78 f_X12_userAct_94
  rw [v.nm, e118]
  have go : ∀ p : Bool, P2 (bd (f_X8_removeMany 36 (cI p) c) fun _ T3 => some ((), T3)) (bd (f_X12_usersGo (cI p) m) fun _ T5 => some ((), T5)) (fun _ c' _ m' => OU d ov c m c' m') := fun p => by
    obtain ⟨c2, m2, s1, s2, s3, s4, s5, s6, s7⟩ := P2_usersGo p h.tl.s
    rw [s1, s2, bd_eq, bd_eq]
    exact P2_ret (OU.tls h s3 (s4.weak (fun _ _ y => y) (fun a y => by
      have : ¬ (a = 143 ∨ a = 144) := by simpa [a143] using y
      simp; omega)) s5 s7)
  by_cases q0 : iz (vz w ng) = 0
  · rw [if_pos q0, if_pos q0, q0, if_neg (by decide)]
    exact go false
  rw [if_neg q0, if_neg q0]
  by_cases q1 : iz (vz w ng) = 1
  · rw [if_pos q1, if_pos q1, if_pos q1]
    exact go true
  rw [if_neg q1, if_neg q1]
  by_cases q2 : iz (vz w ng) = 2
  · rw [if_pos q2, if_pos q2, q2, bd_u, if_neg (show ¬ (2 : Int32) = 4 by decide), if_neg (show ¬ (2 : Int32) = 5 by decide)]
    unfold f_X8_remove
    by_cases y : z < 0
    · rw [if_pos (n0.mpr y), decide_eq_false (by omega), if_pos (by rfl)]; exact stay
    · rw [if_neg (fun u => y (n0.mp u))]
      by_cases y2 : 16 ≤ z
      · rw [if_pos (n16.mpr y2), decide_eq_false (by omega), if_pos (by rfl)]; exact stay
      · obtain ⟨u, u1, u2⟩ : ∃ u : Nat, iz z = nI u ∧ u < 16 := ⟨z.toNat, by rw [nI_iz, show ((z.toNat : Nat) : Int) = z by omega], by omega⟩
        rw [if_neg (fun u => y2 (n16.mp u)), decide_eq_true (by omega), if_neg (show ¬ cI true = 0 by decide), u1, ix_in (j := u) (nI_pos (by omega)) (nI_clamp (by omega)) (by omega), ix_in (j := u) (nI_pos (by omega)) (nI_clamp (by omega)) (by omega), lb_eq, lb_eq]
        exact P2_ret (tile_rm h u2)
  rw [if_neg q2, if_neg q2]
  have mk : ∀ t : Bool, P2 (bd (f_X8_mark 36 (iz z) (cI t) c) fun _ T => some ((), T)) (if cI (decide (0 ≤ z ∧ z ≤ 15)) = 0 then (some ((), m)) else (ix (iz z) 16 fun j4 => lb (uA m 144 j4 (cI t)) fun T6 => some ((), T6))) (fun _ c' _ m' => OU d ov c m c' m') := fun t => by
    rw [bd_u]
    by_cases y : 0 ≤ z ∧ z ≤ 15
    · obtain ⟨u, u1, u2⟩ : ∃ u : Nat, iz z = nI u ∧ u < 16 := ⟨z.toNat, by rw [nI_iz, show ((z.toNat : Nat) : Int) = z by omega], by omega⟩
      obtain ⟨c2, s1, s2⟩ := tile_mk (t := t) h u2
      rw [decide_eq_true y, if_neg (show ¬ cI true = 0 by decide), u1, s1, ix_in (j := u) (nI_pos (by omega)) (nI_clamp (by omega)) (by omega), lb_eq]
      exact P2_ret s2
    · rw [decide_eq_false y, if_pos (by rfl)]
      unfold f_X8_mark f_X8_has
      by_cases y0 : z < 0
      · rw [if_pos (n0.mpr y0), bd_eq, if_pos rfl]; exact stay
      · rw [if_neg (fun u => y0 (n0.mp u)), if_pos (n16.mpr (by omega)), bd_eq, if_pos rfl]; exact stay
  by_cases q3 : iz (vz w ng) = 3
  · rw [if_pos q3, q3, if_neg (show ¬ (3 : Int32) = 4 by decide), if_neg (show ¬ (3 : Int32) = 5 by decide)]; exact stay
  rw [if_neg q3]
  by_cases q4 : iz (vz w ng) = 4
  · simp only [if_pos q4]
    exact mk true
  rw [if_neg q4]
  simp only [if_neg q4]
  by_cases q5 : iz (vz w ng) = 5
  · simp only [if_pos q5]
    exact mk false
  · simp only [if_neg q5]
    exact stay
end E3
