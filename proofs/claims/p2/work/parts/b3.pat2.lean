/-! A pattern by its sort and number, on both sides. -/
section B3
variable {c c' m m' : Mm} {d : Nat} {ov : Bool} {g g' : Nat → Int32}
theorem sp_hasZ {o : Nat} {z : Int} (h1 : -1000000 ≤ z) (h2 : z ≤ 1000000) : f_X8_has o (iz z) c = some (cI (decide (0 ≤ z ∧ z < 16) && !decide (gA c (o + 1) z.toNat = 0)), c) := by
  by_cases q : 0 ≤ z ∧ z < 16
  · obtain ⟨u, rfl⟩ : ∃ u : Nat, z = (u : Int) := ⟨z.toNat, by omega⟩
    rw [← nI_iz, sp_has (by omega), decide_eq_true q, Bool.true_and]; rfl
  · rw [decide_eq_false q, Bool.false_and]
    unfold f_X8_has
    by_cases q2 : z < 0
    · rw [if_pos ((iz_nn (by omega) (by omega)).mpr q2)]; rfl
    · rw [if_neg (fun y => q2 ((iz_nn (by omega) (by omega)).mp y)), if_pos (show (16 : Int32) ≤ iz z from (iz_le (a := 16) (by omega) (by omega) (by omega) (by omega)).mpr (by omega))]; rfl
def hpt (m : Mm) (s n : Int) : Bool := decide (s = 0) || decide (s = 1) || (decide (s = 2) && decide (1 ≤ n ∧ n ≤ 100)) || (decide (s = 3) && decide (1 ≤ n ∧ n ≤ 6)) || (decide (s = 4) && decide (0 ≤ n ∧ n < 16) && decide (gA m 143 n.toNat = 1))
theorem m_hasP {s n : Int} (hb : ∀ u, u < 16 → gA m 143 u = 0 ∨ gA m 143 u = 1) (h1 : -1000000 ≤ s) (h2 : s ≤ 1000000) (h3 : -1000000 ≤ n) (h4 : n ≤ 1000000) : f_X12_hasPattern (iz s) (iz n) m = some (cI (hpt m s n), m) := by
  have eqs : ∀ k : Int, 0 ≤ k → k < 100 → (iz s = iz k ↔ s = k) := fun k k1 k2 => iz_inj (by omega) (by omega) (by omega) (by omega)
  unfold f_X12_hasPattern f_X12_hasPattern_25 f_X12_hasPattern_41
  rw [show (0 : Int32) = iz 0 from rfl, show (1 : Int32) = iz 1 from rfl, show (2 : Int32) = iz 2 from rfl, show (3 : Int32) = iz 3 from rfl, show (4 : Int32) = iz 4 from rfl, show (100 : Int32) = iz 100 from rfl, show (6 : Int32) = iz 6 from rfl, show (15 : Int32) = iz 15 from rfl]
  have l1 : (iz n < iz 1) ↔ n < 1 := iz_lt (by omega) (by omega) (by omega) (by omega)
  have l2 : (iz n ≤ iz 100) ↔ n ≤ 100 := iz_le (by omega) (by omega) (by omega) (by omega)
  have l3 : (iz n ≤ iz 6) ↔ n ≤ 6 := iz_le (by omega) (by omega) (by omega) (by omega)
  have l4 : (iz n < iz 0) ↔ n < 0 := iz_lt (by omega) (by omega) (by omega) (by omega)
  have l5 : (iz 15 < iz n) ↔ 15 < n := iz_lt (by omega) (by omega) (by omega) (by omega)
  have e0 := eqs 0 (by omega) (by omega)
  have e1 := eqs 1 (by omega) (by omega)
  have e2 := eqs 2 (by omega) (by omega)
  have e3 := eqs 3 (by omega) (by omega)
  have e4 := eqs 4 (by omega) (by omega)
  simp only [e0, e1, e2, e3, e4, l1, l2, l3, l4, l5]
  unfold hpt
  by_cases s0 : s = 0
  · subst s0; rfl
  by_cases s1 : s = 1
  · subst s1; rfl
  rw [if_neg s0, if_neg s1, decide_eq_false s0, decide_eq_false s1]
  by_cases s2 : s = 2
  · subst s2
    rw [if_pos rfl, if_neg (show ¬ (2 : Int) = 3 by decide), if_neg (show ¬ (2 : Int) = 4 by decide)]
    by_cases q1 : n < 1
    · rw [if_pos q1, decide_eq_false (show ¬ (1 ≤ n ∧ n ≤ 100) by omega)]; rfl
    · rw [if_neg q1]
      by_cases q2 : n ≤ 100
      · rw [if_pos q2, decide_eq_true (show (1 ≤ n ∧ n ≤ 100) by omega)]; rfl
      · rw [if_neg q2, decide_eq_false (show ¬ (1 ≤ n ∧ n ≤ 100) by omega)]; rfl
  rw [if_neg s2, decide_eq_false s2]
  by_cases s3 : s = 3
  · subst s3
    rw [if_pos rfl, if_neg (show ¬ (3 : Int) = 4 by decide)]
    by_cases q1 : n < 1
    · rw [if_pos q1, decide_eq_false (show ¬ (1 ≤ n ∧ n ≤ 6) by omega)]; rfl
    · rw [if_neg q1]
      by_cases q2 : n ≤ 6
      · rw [if_pos q2, decide_eq_true (show (1 ≤ n ∧ n ≤ 6) by omega)]; rfl
      · rw [if_neg q2, decide_eq_false (show ¬ (1 ≤ n ∧ n ≤ 6) by omega)]; rfl
  rw [if_neg s3, decide_eq_false s3]
  by_cases s4 : s = 4
  · subst s4
    rw [if_pos rfl]
    by_cases q1 : n < 0
    · rw [if_pos q1, decide_eq_false (show ¬ (0 ≤ n ∧ n < 16) by omega)]; rfl
    rw [if_neg q1]
    by_cases q2 : 15 < n
    · rw [if_pos q2, decide_eq_false (show ¬ (0 ≤ n ∧ n < 16) by omega)]; rfl
    obtain ⟨u, rfl⟩ : ∃ u : Nat, n = (u : Int) := ⟨n.toNat, by omega⟩
    rw [if_neg q2, ← nI_iz, ix_in (j := u) (nI_pos (by omega)) (nI_clamp (by omega)) (by omega), decide_eq_true (show (0 ≤ (u : Int) ∧ (u : Int) < 16) by omega), show ((u : Int)).toNat = u from rfl]
    rcases hb u (by omega) with e | e
    · rw [e]; rfl
    · rw [e]; rfl
  · rw [if_neg s4, decide_eq_false s4]; rfl
theorem m_put {to at' : Nat} {s n : Int} (hN : at' + 20 ≤ LN to) (hN2 : LN to < 1000) (hto : to ≠ 145 ∧ to ≠ 146 ∧ to ≠ 147) (h1 : -1000000 ≤ s) (h2 : s ≤ 1000000) (h4 : s = 4 → 0 ≤ n ∧ n < 16) : ∃ m', f_X12_putPattern to (nI at') (iz s) (iz n) m = some ((), m') ∧ Fr nF (fun a => a == to) m m' ∧ (∀ j, (j < at' ∨ at' + 20 ≤ j) → gA m' to j = gA m to j) ∧ gA m' to at' = iz s ∧ gA m' to (at' + 1) = iz n ∧ (s = 4 → ∀ k, 2 ≤ k → k < 20 → gA m' to (at' + k) = ur m n.toNat k) := by
  unfold f_X12_putPattern
  rw [ix_in (j := at') (nI_pos (by omega)) (nI_clamp (by omega)) (by omega), lb_eq, show nI at' + 1 = nI (at' + 1) from nI_add at' 1, ix_in (j := at' + 1) (nI_pos (by omega)) (nI_clamp (by omega)) (by omega), lb_eq]
  have f1 : Fr nF (fun a => a == to) m (uA (uA m to at' (iz s)) to (at' + 1) (iz n)) := (Fr.refl.uA _ _ (by simp)).uA _ _ (by simp)
  have a1 : gA (uA (uA m to at' (iz s)) to (at' + 1) (iz n)) to = wr (wr (gA m to) at' (iz s)) (at' + 1) (iz n) := by rw [gA_wr, gA_wr]
  have o1 : ∀ b, b ≠ to → gA (uA (uA m to at' (iz s)) to (at' + 1) (iz n)) b = gA m b := fun b hb => by rw [gA_wo _ _ _ hb, gA_wo _ _ _ hb]
  generalize uA (uA m to at' (iz s)) to (at' + 1) (iz n) = m1 at f1 a1 o1
  by_cases q : s = 4
  · subst q
    obtain ⟨n1, n2⟩ := h4 rfl
    obtain ⟨u, rfl⟩ : ∃ u : Nat, n = (u : Int) := ⟨n.toNat, by omega⟩
    rw [if_pos (show iz 4 = (4 : Int32) from rfl), ← nI_iz u, ix_in (j := u) (nI_pos (by omega)) (nI_clamp (by omega)) (by omega), show nI at' + 2 = nI (at' + 2) from nI_add at' 2, ix_in (j := at' + 2) (nI_pos (by omega)) (nI_clamp (by omega)) (by omega), lb_eq, ix_in (j := u) (nI_pos (by omega)) (nI_clamp (by omega)) (by omega), show nI at' + 3 = nI (at' + 3) from nI_add at' 3, ix_in (j := at' + 3) (nI_pos (by omega)) (nI_clamp (by omega)) (by omega), lb_eq, gA_wo _ _ _ (Ne.symm hto.2.1), o1 145 (Ne.symm hto.1), o1 146 (Ne.symm hto.2.1)]
    have f2 : Fr nF (fun a => a == to) m (uA (uA m1 to (at' + 2) (gA m 145 u)) to (at' + 3) (gA m 146 u)) := (f1.uA _ _ (by simp)).uA _ _ (by simp)
    have a2 : gA (uA (uA m1 to (at' + 2) (gA m 145 u)) to (at' + 3) (gA m 146 u)) to = wr (wr (wr (wr (gA m to) at' (iz 4)) (at' + 1) (iz (u : Int))) (at' + 2) (gA m 145 u)) (at' + 3) (gA m 146 u) := by rw [gA_wr, gA_wr, a1]
    have o2 : gA (uA (uA m1 to (at' + 2) (gA m 145 u)) to (at' + 3) (gA m 146 u)) 147 = gA m 147 := by rw [gA_wo _ _ _ (Ne.symm hto.2.2), gA_wo _ _ _ (Ne.symm hto.2.2), o1 _ (Ne.symm hto.2.2)]
    generalize uA (uA m1 to (at' + 2) (gA m 145 u)) to (at' + 3) (gA m 146 u) = m2 at f2 a2 o2
    have go : ∀ (N k : Nat) (T : Mm), 16 - k < N → k ≤ 16 → Fr nF (fun a => a == to) m T → (∀ j, gA T to j = if at' + 4 ≤ j ∧ j < at' + 4 + k then gA m 147 (16 * u + (j - (at' + 4))) else gA m2 to j) → ∃ m', f_X12_putPattern_l43 N to (nI at') (nI u) (nI k) T = some ((), m') ∧ Fr nF (fun a => a == to) m m' ∧ (∀ j, gA m' to j = if at' + 4 ≤ j ∧ j < at' + 20 then gA m 147 (16 * u + (j - (at' + 4))) else gA m2 to j) := by
      intro N
      induction N with
      | zero => intro k T h; omega
      | succ N ih =>
        intro k T g1 g2 g3 g4
        show ∃ m', f_X12_putPattern_b43 (f_X12_putPattern_l43 N) to (nI at') (nI u) (nI k) T = _ ∧ _
        unfold f_X12_putPattern_b43
        by_cases e : k = 16
        · subst e
          rw [if_pos (by decide)]
          exact ⟨T, rfl, g3, fun j => by rw [g4 j]⟩
        · rw [if_neg (show ¬ (16 : Int32) ≤ nI k from nI_ge (b := 16) (by omega) (by omega)), show (16 : Int32) * nI u = nI (16 * u) from pk_mul 16 u, nI_add, ix_in (j := 16 * u + k) (nI_pos (by omega)) (nI_clamp (by omega)) (by omega), show nI at' + 4 = nI (at' + 4) from nI_add at' 4, nI_add, ix_in (j := at' + 4 + k) (nI_pos (by omega)) (nI_clamp (by omega)) (by omega), lb_eq, show nI k + 1 = nI (k + 1) from nI_add k 1, g3.a (show (147 == to) = false by simp; omega)]
          refine ih (k + 1) _ (by omega) (by omega) (g3.uA _ _ (by simp)) (fun j => ?_)
          rw [gA_wr]
          by_cases z : j = at' + 4 + k
          · rw [z, wr_s, if_pos (by omega)]
            congr 1
            omega
          · rw [wr_o _ z, g4 j]
            by_cases y : at' + 4 ≤ j ∧ j < at' + 4 + k
            · rw [if_pos y, if_pos (by omega)]
            · rw [if_neg y, if_neg (by omega)]
    obtain ⟨m', e1, e2, e3⟩ := go FU 0 m2 (FU_gt (by omega)) (by omega) f2 (fun j => by rw [if_neg (by omega)])
    refine ⟨m', e1, e2, fun j hj => ?_, ?_, ?_, fun _ k k1 k2 => ?_⟩
    · rw [e3, if_neg (by omega), a2, wr_o _ (by omega), wr_o _ (by omega), wr_o _ (by omega), wr_o _ (by omega)]
    · rw [e3, if_neg (by omega), a2, wr_o _ (by omega), wr_o _ (by omega), wr_o _ (by omega), wr_s]
    · rw [e3, if_neg (by omega), a2, wr_o _ (by omega), wr_o _ (by omega), wr_s]
      exact (nI_iz u).symm
    · unfold ur
      rw [if_neg (by omega), if_neg (by omega), show ((u : Int)).toNat = u from rfl]
      by_cases k3 : k = 2
      · rw [if_pos k3, k3, e3, if_neg (by omega), a2, wr_o _ (by omega), wr_s]
      rw [if_neg k3]
      by_cases k4 : k = 3
      · rw [if_pos k4, k4, e3, if_neg (by omega), a2, wr_s]
      rw [if_neg k4, e3, if_pos (by omega)]
      congr 1
      omega
  · rw [if_neg (show ¬ iz s = 4 from fun y => q ((iz_inj (b := 4) (by omega) (by omega) (by omega) (by omega)).mp y))]
    refine ⟨m1, rfl, f1, fun j hj => ?_, ?_, ?_, fun z => absurd z q⟩
    · rw [a1, wr_o _ (by omega), wr_o _ (by omega)]
    · rw [a1, wr_o _ (by omega), wr_s]
    · rw [a1, wr_s]
theorem TL.b01 (h : TL c m) : ∀ u, u < 16 → gA m 143 u = 0 ∨ gA m 143 u = 1 := fun u hu => by
  obtain ⟨a, b, x, _, _⟩ := h.s u hu
  rw [x]; cases a
  · exact Or.inl rfl
  · exact Or.inr rfl
/-- a pattern is set on both sides -/
theorem two_tile {t : Nat} {s n : Int} (tl : TL c m) (en : gI c 118 45 = iz n) (ht : t = 50 ∨ t = 39) (s1 : -1000000 ≤ s) (s2 : s ≤ 1000000) (n1 : -32767 ≤ n) (n2 : n ≤ 32767) : f_X12_hasPattern (iz s) (iz n) m = some (cI (hpt m s n), m) ∧ ((hpt m s n = false ∧ f_X9_setTile t (iz s) c = some (0, c)) ∨ (hpt m s n = true ∧ 0 ≤ s ∧ s ≤ 4 ∧ ∃ c', f_X9_setTile t (iz s) c = some (1, c') ∧ Fr (tF t) (tA t) c c' ∧ ∀ to at' m0, gA m0 145 = gA m 145 → gA m0 146 = gA m 146 → gA m0 147 = gA m 147 → at' + 20 ≤ LN to → LN to < 1000 → (to ≠ 145 ∧ to ≠ 146 ∧ to ≠ 147) → ∃ m', f_X12_putPattern to (nI at') (iz s) (iz n) m0 = some ((), m') ∧ Fr nF (fun a => a == to) m0 m' ∧ (∀ j, (j < at' ∨ at' + 20 ≤ j) → gA m' to j = gA m0 to j) ∧ TR c' t (fun k => gA m' to (at' + k)) ∧ gA m' to at' = iz s ∧ gA m' to (at' + 1) = iz n)) := by
  refine ⟨m_hasP tl.b01 s1 s2 (by omega) (by omega), ?_⟩
  have tne : ∀ u, u < 16 → t ≠ 66 + 2 * u := fun u hu => by rcases ht with rfl | rfl <;> omega
  have put : ∀ (c' : Mm), (s = 4 → 0 ≤ n ∧ n < 16) → (∀ L : Nat → Int32, L 0 = iz s → L 1 = iz n → (s = 4 → ∀ k, 2 ≤ k → k < 20 → L k = ur m n.toNat k) → TR c' t L) → ∀ to at' m0, gA m0 145 = gA m 145 → gA m0 146 = gA m 146 → gA m0 147 = gA m 147 → at' + 20 ≤ LN to → LN to < 1000 → (to ≠ 145 ∧ to ≠ 146 ∧ to ≠ 147) → ∃ m', f_X12_putPattern to (nI at') (iz s) (iz n) m0 = some ((), m') ∧ Fr nF (fun a => a == to) m0 m' ∧ (∀ j, (j < at' ∨ at' + 20 ≤ j) → gA m' to j = gA m0 to j) ∧ TR c' t (fun k => gA m' to (at' + k)) ∧ gA m' to at' = iz s ∧ gA m' to (at' + 1) = iz n := by
    intro c' h4 hL to at' m0 z1 z2 z3 y1 y2 y3
    obtain ⟨m', p1, p2, p3, p4, p5, p6⟩ := m_put (m := m0) y1 y2 y3 s1 s2 h4
    refine ⟨m', p1, p2, p3, hL _ p4 p5 (fun e k k1 k2 => ?_), p4, p5⟩
    rw [p6 e k k1 k2]
    unfold ur
    rw [z1, z2, z3]
  have es : ∀ k : Int, 0 ≤ k → k < 100 → (iz s = iz k ↔ s = k) := fun k k1 k2 => iz_inj (by omega) (by omega) (by omega) (by omega)
  have e0 : iz s = 0 ↔ s = 0 := es 0 (by omega) (by omega)
  have e1 : iz s = 1 ↔ s = 1 := es 1 (by omega) (by omega)
  have e2 : iz s = 2 ↔ s = 2 := es 2 (by omega) (by omega)
  have e3 : iz s = 3 ↔ s = 3 := es 3 (by omega) (by omega)
  have e4 : iz s = 4 ↔ s = 4 := es 4 (by omega) (by omega)
  unfold f_X9_setTile
  rw [en, lb_eq]
  by_cases s0 : s = 0
  · subst s0
    obtain ⟨c', a1, a2, a3⟩ := c_solid (c := c) (t := t) (L := fun _ => 0) rfl
    refine Or.inr ⟨rfl, by omega, by omega, c', ?_, a2, put c' (fun e => absurd e (by decide)) (fun L l0 _ _ => ?_)⟩
    · rw [if_pos (by rfl), a1, bd_eq]
    · obtain ⟨c2, b1, _, b3⟩ := c_solid (c := c) (t := t) (L := L) l0
      rw [a1] at b1
      have := congrArg Prod.snd (Option.some.inj b1)
      rw [show c' = c2 from this]; exact b3
  rw [if_neg (fun y => s0 (e0.mp y))]
  by_cases s1' : s = 1
  · subst s1'
    obtain ⟨c', a1, a2, a3⟩ := c_white (c := c) (t := t) (L := fun _ => 1) rfl
    refine Or.inr ⟨rfl, by omega, by omega, c', ?_, a2, put c' (fun e => absurd e (by decide)) (fun L l0 _ _ => ?_)⟩
    · rw [if_pos (by rfl), a1, bd_eq]
    · obtain ⟨c2, b1, _, b3⟩ := c_white (c := c) (t := t) (L := L) l0
      rw [a1] at b1
      have := congrArg Prod.snd (Option.some.inj b1)
      rw [show c' = c2 from this]; exact b3
  rw [if_neg (fun y => s1' (e1.mp y))]
  by_cases s2' : s = 2
  · subst s2'
    rw [if_pos (by rfl)]
    have hh : hpt m 2 n = decide (1 ≤ n ∧ n ≤ 100) := by unfold hpt; simp
    rw [hh]
    by_cases q1 : n < 1
    · rw [if_pos (show iz n < 1 from (iz_lt (b := 1) (by omega) (by omega) (by omega) (by omega)).mpr q1)]
      exact Or.inl ⟨decide_eq_false (by omega), rfl⟩
    rw [if_neg (show ¬ iz n < 1 from fun y => q1 ((iz_lt (b := 1) (by omega) (by omega) (by omega) (by omega)).mp y))]
    by_cases q2 : 100 < n
    · rw [if_pos (show 100 < iz n from (iz_lt (a := 100) (by omega) (by omega) (by omega) (by omega)).mpr q2)]
      exact Or.inl ⟨decide_eq_false (by omega), rfl⟩
    rw [if_neg (show ¬ 100 < iz n from fun y => q2 ((iz_lt (a := 100) (by omega) (by omega) (by omega) (by omega)).mp y))]
    obtain ⟨u, rfl⟩ : ∃ u : Nat, n = (u : Int) := ⟨n.toNat, by omega⟩
    obtain ⟨c', a1, a2, a3⟩ := c_shade (c := c) (t := t) (n := u) (L := fun k => if k = 0 then 2 else nI u) (by omega) rfl rfl
    refine Or.inr ⟨decide_eq_true (by omega), by omega, by omega, c', ?_, a2, put c' (fun e => absurd e (by decide)) (fun L l0 l1 _ => ?_)⟩
    · rw [← nI_iz, a1, bd_eq]
    · obtain ⟨c2, b1, _, b3⟩ := c_shade (c := c) (t := t) (n := u) (L := L) (by omega) l0 (l1.trans (nI_iz u).symm)
      rw [a1] at b1
      have := congrArg Prod.snd (Option.some.inj b1)
      rw [show c' = c2 from this]; exact b3
  rw [if_neg (fun y => s2' (e2.mp y))]
  by_cases s3' : s = 3
  · subst s3'
    rw [if_pos (by rfl)]
    have hh : hpt m 3 n = decide (1 ≤ n ∧ n ≤ 6) := by unfold hpt; simp
    rw [hh]
    by_cases q1 : n < 1
    · rw [if_pos (show iz n < 1 from (iz_lt (b := 1) (by omega) (by omega) (by omega) (by omega)).mpr q1)]
      exact Or.inl ⟨decide_eq_false (by omega), rfl⟩
    rw [if_neg (show ¬ iz n < 1 from fun y => q1 ((iz_lt (b := 1) (by omega) (by omega) (by omega) (by omega)).mp y))]
    by_cases q2 : 6 < n
    · rw [if_pos (show 6 < iz n from (iz_lt (a := 6) (by omega) (by omega) (by omega) (by omega)).mpr q2)]
      exact Or.inl ⟨decide_eq_false (by omega), rfl⟩
    rw [if_neg (show ¬ 6 < iz n from fun y => q2 ((iz_lt (a := 6) (by omega) (by omega) (by omega) (by omega)).mp y))]
    obtain ⟨u, rfl⟩ : ∃ u : Nat, n = (u : Int) := ⟨n.toNat, by omega⟩
    obtain ⟨c', a1, a2, a3⟩ := c_hatch (c := c) (t := t) (n := u) (L := fun k => if k = 0 then 3 else nI u) (by omega) (by omega) rfl rfl
    refine Or.inr ⟨decide_eq_true (by omega), by omega, by omega, c', ?_, a2, put c' (fun e => absurd e (by decide)) (fun L l0 l1 _ => ?_)⟩
    · rw [← nI_iz, a1, bd_eq]
    · obtain ⟨c2, b1, _, b3⟩ := c_hatch (c := c) (t := t) (n := u) (L := L) (by omega) (by omega) l0 (l1.trans (nI_iz u).symm)
      rw [a1] at b1
      have := congrArg Prod.snd (Option.some.inj b1)
      rw [show c' = c2 from this]; exact b3
  rw [if_neg (fun y => s3' (e3.mp y))]
  by_cases s4' : s = 4
  · subst s4'
    rw [if_pos (by rfl), sp_hasZ (by omega) (by omega), bd_eq]
    have hh : hpt m 4 n = (decide (0 ≤ n ∧ n < 16) && decide (gA m 143 n.toNat = 1)) := by unfold hpt; simp
    rw [hh]
    by_cases q : 0 ≤ n ∧ n < 16
    · rw [decide_eq_true q, Bool.true_and, Bool.true_and]
      obtain ⟨u, rfl⟩ : ∃ u : Nat, n = (u : Int) := ⟨n.toNat, by omega⟩
      rw [show ((u : Int)).toNat = u from rfl]
      obtain ⟨a, b, x1, x2, x3⟩ := tl.s u (by omega)
      rw [show gA c (36 + 1) u = sv a b from x3, x1]
      cases a
      · rw [if_pos (by cases b <;> rfl)]
        exact Or.inl ⟨rfl, rfl⟩
      · rw [if_neg (by cases b <;> decide), ← nI_iz, if_neg (show ¬ (16 : Int32) ≤ nI u from nI_ge (b := 16) (by omega) (by omega)), ix_in (j := u) (nI_pos (by omega)) (nI_clamp (by omega)) (by omega), ix_in (j := u) (nI_pos (by omega)) (nI_clamp (by omega)) (by omega)]
        have trs := tl.t u (by omega) (by rw [x1]; rfl)
        have h2 : gI c 1002 (66 + 2 * u) = 0 ∨ gI c 1002 (66 + 2 * u) = 1 := by
          obtain ⟨_, w, h, _, _, _, _, _, _, z, _⟩ := trs
          rw [z]
          cases decide (ur m u 0 = 1)
          · exact Or.inl rfl
          · exact Or.inr rfl
        obtain ⟨c', a1, a2, a3⟩ := trs.copy (tne u (by omega)) h2
        refine Or.inr ⟨rfl, by omega, by omega, c', by rw [a1, bd_eq], a2, ?_⟩
        rw [nI_iz u]
        refine put c' (fun _ => by omega) (fun L l0 l1 l2 => ?_)
        refine a3.congr (fun k hk => ?_)
        by_cases k0 : k = 0
        · rw [k0, l0]; rfl
        by_cases k1 : k = 1
        · rw [k1, l1]
          unfold ur
          rw [if_neg (by decide), if_pos rfl, nI_iz]
        exact l2 rfl k (by omega) hk
    · rw [decide_eq_false q, Bool.false_and, Bool.false_and, if_pos (by rfl)]
      exact Or.inl ⟨rfl, rfl⟩
  · rw [if_neg (fun y => s4' (e4.mp y))]
    refine Or.inl ⟨?_, rfl⟩
    unfold hpt
    rw [decide_eq_false s0, decide_eq_false s1', decide_eq_false s2', decide_eq_false s3', decide_eq_false s4']; rfl
end B3
