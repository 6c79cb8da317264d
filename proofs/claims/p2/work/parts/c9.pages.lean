/-! The field of the page whole, on both sides. -/
section C9
variable {c c' c0 c1 c2 m m' m0 m1 m2 T : Mm} {d w b : Nat} {ov ov' ng sg : Bool} {g L : Nat → Int32} {Gc Gm : Gty}
theorem pg_A {n : Nat} (hn : n ≤ 32767) (h : RR d ov c m) (gs : GS Gc Gm d) (hm : gI m 1251 133 = nI n) : P2 (if (4 : Int32) ≤ nI n then some ((), c) else (if (gI c 915 23) = 0 then (bd (f_X9_eject Gc c) fun _ T5 => bd (f_X7_turn 46 (nI n) (gI T5 701 46) T5) fun _ T6 => some ((), T6)) else (some ((), c)))) (if 3 < nI n then (f_X12_pageField_52 Gm 65 (nI n) m) else (if (gI m 1231 133) = 0 then (bd (f_X12_eject Gm m) fun _ T2 => if (gI T2 1233 133) = 0 then (lb (uA T2 134 0 (nI n)) fun T3 => bd (f_X12_pagesOwn T3) fun _ T4 => some ((), T4)) else (some ((), T2))) else (f_X12_pageField_52 Gm 65 (nI n) m))) (fun _ c' _ m' => OU d ov c m c' m') := by
  have t5 : f_X12_pageField_52 Gm 65 (nI n) m = some ((), m) := by
    unfold f_X12_pageField_52
    rw [if_neg (by decide), t99 (by decide) (by decide) (by decide) (by decide) (by decide) (by decide) (by decide)]
  rw [t5]
  by_cases q : 4 ≤ n
  · rw [if_pos (show (4 : Int32) ≤ nI n from (show nI 4 ≤ nI n from nI_le q (by omega))), if_pos (show (3 : Int32) < nI n from (show nI 3 < nI n from nI_lt (by omega) (by omega)))]
    exact P2_ret (OU.refl h)
  · rw [if_neg (show ¬ (4 : Int32) ≤ nI n from (show ¬ nI 4 ≤ nI n from nI_ge (by omega) (by omega))), if_neg (show ¬ (3 : Int32) < nI n from (show ¬ nI 3 < nI n from nI_nlt (by omega) (by omega))), h.o1, h.o2]
    cases ov
    · rw [if_pos (by rfl), if_pos (by rfl)]
      simp only [bd_u]
      exact P2_own (i := 0) (a := n) (Or.inl ⟨rfl, by omega⟩) h gs
    · rw [if_neg (by decide), if_neg (by decide)]
      exact P2_ret (OU.refl h)
theorem pg_O {n : Nat} (hn : n ≤ 1) (h : RR d ov c m) (gs : GS Gc Gm d) : P2 (f_X9_pageField_168 Gc (nI n) c) (f_X12_pageField_67 Gm 79 (nI n) m) (fun _ c' _ m' => OU d ov c m c' m') := by
  unfold f_X9_pageField_168 f_X12_pageField_67
  rw [t99 (by decide) (by decide) (by decide) (by decide) (by decide) (by decide) (by decide), h.o1, h.o2]
  cases ov
  · rw [if_pos (by rfl), if_pos (by rfl)]
    simp only [bd_u]
    exact P2_own (i := 1) (a := n) (Or.inr ⟨rfl, hn⟩) h gs
  · rw [if_neg (by decide), if_neg (by decide)]
    exact P2_ret (OU.refl h)
theorem pg_skip {z : Int} (z1 : -32767 ≤ z) (z2 : z ≤ 32767) (h : EVq c 45 (gA m 134)) (e : EB (gA m 134)) (hm : gI m 1251 133 = iz z) : ∃ c' m', (if iz z = 1 then (lb (uI c 107 45 1) fun T29 => some ((), T29)) else (if iz z = 0 then (lb (uI c 107 45 0) fun T30 => some ((), T30)) else (if (gI c 107 45) = 0 then (lb (uI c 107 45 0) fun T31 => some ((), T31)) else (lb (uI c 107 45 1) fun T32 => some ((), T32))))) = some ((), c') ∧ f_X12_pageField_404 Gm 76 m = some ((), m') ∧ EP c m c' m' := by
  unfold f_X12_pageField_404
  rw [if_pos rfl, hm]
  by_cases q1 : iz z = 1
  · rw [if_pos q1, q1, if_neg (by decide), if_pos rfl]
    exact ⟨_, _, rfl, rfl, EP.one h e (f := 107) (o := 0) (k := 9) (by decide) (by decide) (by decide) 1 (by decide) (by decide)⟩
  · rw [if_neg q1]
    by_cases q0 : iz z = 0
    · rw [if_pos q0, q0, if_pos rfl]
      exact ⟨_, _, rfl, rfl, EP.one h e (f := 107) (o := 0) (k := 9) (by decide) (by decide) (by decide) 0 (by decide) (by decide)⟩
    · obtain ⟨s, s1, s2⟩ := e.k9
      have same := EP.same h e (f := 107) (o := 0) (k := 9) (by decide) (by decide)
      rw [if_neg q0, if_neg q0, if_neg q1, show gI c 107 45 = nI s from (h.i (107, 0, 9) (by decide)).trans s1]
      rw [s1] at same
      rcases (show s = 0 ∨ s = 1 by omega) with rfl | rfl
      · rw [if_pos (show nI 0 = 0 from rfl)]
        exact ⟨_, m, rfl, rfl, same⟩
      · rw [if_neg (show ¬ nI 1 = 0 by decide)]
        exact ⟨_, m, rfl, rfl, same⟩
theorem pg_copies {z : Int} (z1 : -32767 ≤ z) (z2 : z ≤ 32767) (h : EVq c 45 (gA m 134)) (e : EB (gA m 134)) (hm : gI m 1251 133 = iz z) : ∃ c' m', (if iz z < 1 then (lb (uI c 106 45 (gI c 106 45)) fun T45 => some ((), T45)) else (if 4 < iz z then (lb (uI c 106 45 (gI c 106 45)) fun T46 => some ((), T46)) else (lb (uI c 106 45 (iz z)) fun T47 => some ((), T47)))) = some ((), c') ∧ f_X12_pageField_123 Gm 88 m = some ((), m') ∧ EP c m c' m' := by
  have same := EP.same h e (f := 106) (o := 0) (k := 8) (by decide) (by decide)
  have t1 : f_X12_pageField_159 Gm 88 m = some ((), m) := t159 (by decide) (by decide) (by decide) (by decide) (by decide)
  unfold f_X12_pageField_123
  rw [if_pos rfl, hm, t1, show gI c 106 45 = gA m 134 8 from h.i (106, 0, 8) (by decide)]
  have e1 : iz z < 1 ↔ z < 1 := by rw [show (1 : Int32) = iz 1 from rfl]; exact iz_lt (by omega) (by omega) (by omega) (by omega)
  have e4 : 4 < iz z ↔ 4 < z := by rw [show (4 : Int32) = iz 4 from rfl]; exact iz_lt (by omega) (by omega) (by omega) (by omega)
  by_cases q1 : z < 1
  · rw [if_pos (e1.mpr q1), if_pos (e1.mpr q1)]
    exact ⟨_, m, rfl, rfl, same⟩
  · rw [if_neg (fun y => q1 (e1.mp y)), if_neg (fun y => q1 (e1.mp y))]
    by_cases q4 : 4 < z
    · rw [if_pos (e4.mpr q4), if_pos (e4.mpr q4)]
      exact ⟨_, m, rfl, rfl, same⟩
    · rw [if_neg (fun y => q4 (e4.mp y)), if_neg (fun y => q4 (e4.mp y))]
      have ei := iz_int (a := z) (by omega) (by omega)
      exact ⟨_, _, rfl, rfl, EP.one h e (f := 106) (o := 0) (k := 8) (by decide) (by decide) (by decide) (iz z) (by rw [ei]; show (1 : Int) ≤ _; omega) (by rw [ei]; show _ ≤ (4 : Int); omega)⟩
theorem P2_page {k : Nat} (hk : k < 256) (h : RR d ov c m) (v : VL c m d w b ng sg) (hl : gI c 505 (125 + d) = nI k) (gs : GS Gc Gm d) : P2 (f_X9_pageField Gc (iz (vz w ng)) c) (f_X12_pageField Gm (nI k) m) (fun _ c' _ m' => OU d ov c m c' m') := by
  have zb := vz_b (ng := ng) v.1
  unfold f_X9_pageField
  rw [rd_eq h, lb_eq, hl]
  by_cases q65 : k = 65
  · subst q65
    unfold f_X12_pageField
    rw [if_pos (by decide), lb_eq, if_pos (show nI 65 = 65 from rfl), v.nm]
    rcases vz_n (ng := ng) v.1 with z | ⟨n, n1, n2, n3⟩
    · rw [if_pos ((iz_neg0 zb.1 zb.2).mpr z), if_pos ((iz_neg0 zb.1 zb.2).mpr z)]
      unfold f_X12_pageField_52
      rw [if_neg (by decide), t99 (by decide) (by decide) (by decide) (by decide) (by decide) (by decide) (by decide)]
      exact P2_ret (OU.refl h)
    · rw [n2, if_neg (nI_pos (by omega)), if_neg (nI_pos (by omega))]
      exact pg_A n1 h gs (v.nm.trans n2)
  by_cases q79 : k = 79
  · subst q79
    unfold f_X12_pageField f_X12_pageField_52
    rw [if_neg (by decide), if_neg (by decide), if_neg (by decide), if_neg (by decide), if_neg (by decide), if_neg (by decide), if_neg (by decide), if_neg (by decide), if_neg (by decide), if_neg (by decide), if_neg (by decide), if_neg (by decide), if_neg (by decide), if_neg (by decide), if_pos (by decide), lb_eq, if_neg (show ¬ nI 79 = 65 by decide), if_pos (show nI 79 = 79 from rfl), v.nm]
    by_cases z0 : iz (vz w ng) = 0
    · rw [if_pos z0, if_pos z0, z0]
      exact pg_O (n := 0) (by omega) h gs
    · rw [if_neg z0, if_neg z0]
      by_cases z1 : iz (vz w ng) = 1
      · rw [if_pos z1, if_pos z1, z1]
        exact pg_O (n := 1) (by omega) h gs
      · rw [if_neg z1, if_neg z1, t99 (by decide) (by decide) (by decide) (by decide) (by decide) (by decide) (by decide)]
        exact P2_ret (OU.refl h)
  have n : ∀ a, a < 256 → ¬ k = a → ¬ nI k = nI a := fun a ha q => nI_ne hk ha q
  have h65 : ¬ nI k = 65 := n 65 (by decide) q65
  have h79 : ¬ nI k = 79 := n 79 (by decide) q79
  rw [p99 h65 h79]
  by_cases q72 : k = 72
  · subst q72
    unfold f_X12_pageField_99
    rw [if_neg (by decide), if_neg (by decide), if_neg (by decide), if_neg (by decide), if_neg (by decide), if_neg (by decide), if_neg (by decide), if_pos (by decide), if_pos (show nI 72 = 72 from rfl), v.nm, bd_u]
    by_cases z0 : iz (vz w ng) = 0
    · rw [if_pos z0, if_pos z0]
      exact P2_form h gs
    · rw [if_neg z0, if_neg z0, t123 (by decide) (by decide) (by decide) (by decide) (by decide) (by decide)]
      exact P2_ret (OU.refl h)
  have h72 : ¬ nI k = 72 := n 72 (by decide) q72
  refine P2_er (show f_X12_pageField_99 Gm (nI k) m = f_X12_pageField_123 Gm (nI k) m by unfold f_X12_pageField_99; rw [if_neg h72]) ?_
  by_cases q88 : k = 88
  · subst q88
    refine P2_ep h _ _ ?_
    rw [if_neg (by decide), if_neg (by decide), if_neg (by decide), if_neg (by decide), if_neg (by decide), if_neg (by decide), if_neg (by decide), if_neg (by decide), if_neg (by decide), if_neg (by decide), if_neg (by decide), if_neg (by decide), if_neg (by decide), if_neg (by decide), if_neg (by decide), if_neg (by decide), if_neg (by decide), if_neg (by decide), if_neg (by decide), if_neg (by decide), if_neg (by decide), if_neg (by decide), if_neg (by decide), if_pos (by decide)]
    exact pg_copies zb.1 zb.2 h.ev h.eb v.nm
  have h88 : ¬ nI k = 88 := n 88 (by decide) q88
  refine P2_er (show f_X12_pageField_123 Gm (nI k) m = f_X12_pageField_159 Gm (nI k) m by unfold f_X12_pageField_123; rw [if_neg h88]) ?_
  by_cases q67 : k = 67
  · subst q67
    refine P2_ep h _ _ ?_
    obtain ⟨m2, s1, s2⟩ := EP.spac (f := 708) (o := 1) (k := 6) (p := 150) h v (by omega) (by decide) (by decide) (by decide) (by decide) (by decide)
    have n90 : ∀ T, f_X12_pageField_209 Gm (nI 67) T = some ((), T) := fun T => t209 (by decide) (by decide) (by decide) (by decide)
    unfold f_X12_pageField_159
    rw [if_neg (by decide), if_neg (by decide), if_pos (by decide), if_pos (by decide), show (150 : Int32) = nI 150 from rfl, c_spac h v (by omega), bd_eq, lb_eq, show (150 : Int64) = jz ((150 : Nat) : Int) from rfl, m_spac (A := fun T => f_X12_pageField_209 Gm (nI 67) T) (B := fun T => f_X12_pageField_209 Gm (nI 67) T) v (by omega)]
    rw [n90, lb_eq, show gI c 708 46 = gA m 134 6 from h.ev.i (708, 1, 6) (by decide)]
    exact ⟨_, m2, rfl, s1, s2⟩
  have h67 : ¬ nI k = 67 := n 67 (by decide) q67
  refine P2_er (show f_X12_pageField_159 Gm (nI k) m = f_X12_pageField_209 Gm (nI k) m by unfold f_X12_pageField_159; rw [if_neg h67]) ?_
  by_cases q68 : k = 68
  · subst q68
    refine P2_ep h _ _ ?_
    rw [if_neg (by decide), if_neg (by decide), if_neg (by decide), if_pos (by decide)]
    exact two_vdist zb.1 zb.2 h.ev h.eb v.nm
  have h68 : ¬ nI k = 68 := n 68 (by decide) q68
  refine P2_er (show f_X12_pageField_209 Gm (nI k) m = f_X12_pageField_250 Gm (nI k) m by unfold f_X12_pageField_209; rw [if_neg h68]) ?_
  by_cases q69 : k = 69
  · subst q69
    refine P2_ep h _ _ ?_
    rw [if_neg (by decide), if_neg (by decide), if_neg (by decide), if_neg (by decide), if_pos (by decide), bd_u]
    rcases vz_n (ng := ng) v.1 with z | ⟨n, n1, n2, n3⟩
    · unfold f_X7_topMargin f_X12_pageField_250
      rw [v.nm, if_pos ((iz_neg0 zb.1 zb.2).mpr z), if_pos (by decide), if_pos ((iz_neg0 zb.1 zb.2).mpr z), t328 (by decide) (by decide)]
      exact ⟨c, m, rfl, rfl, EP.refl h.ev h.eb⟩
    · rw [n2]
      exact two_top n1 h.ev h.eb (v.nm.trans n2)
  have h69 : ¬ nI k = 69 := n 69 (by decide) q69
  refine P2_er (show f_X12_pageField_250 Gm (nI k) m = f_X12_pageField_328 Gm (nI k) m by unfold f_X12_pageField_250; rw [if_neg h69]) ?_
  by_cases q70 : k = 70
  · subst q70
    refine P2_ep h _ _ ?_
    rw [if_neg (by decide), if_neg (by decide), if_neg (by decide), if_neg (by decide), if_neg (by decide), if_pos (by decide), bd_u]
    exact two_bot zb.1 zb.2 h.ev h.eb v.nm
  have h70 : ¬ nI k = 70 := n 70 (by decide) q70
  refine P2_er (show f_X12_pageField_328 Gm (nI k) m = f_X12_pageField_404 Gm (nI k) m by unfold f_X12_pageField_328; rw [if_neg h70]) ?_
  by_cases q76 : k = 76
  · subst q76
    refine P2_ep h _ _ ?_
    rw [if_neg (by decide), if_neg (by decide), if_neg (by decide), if_neg (by decide), if_neg (by decide), if_neg (by decide), if_neg (by decide), if_neg (by decide), if_neg (by decide), if_neg (by decide), if_neg (by decide), if_pos (by decide)]
    exact pg_skip zb.1 zb.2 h.ev h.eb v.nm
  have h76 : ¬ nI k = 76 := n 76 (by decide) q76
  rw [t404 h76]
  simp only [h65, h67, h68, h69, h70, h72, h76, h79, h88, if_false, ite_self]
  exact P2_ret (OU.refl h)
end C9
