/-! Lines and forms on both sides. -/
section C0
variable {c c' c0 c1 c2 m m' m0 m1 m2 T : Mm} {d : Nat} {ov ov' : Bool} {g : Nat → Int32} {Gc Gm : Gty}
theorem MU.menv (h : MU d ov c m) (fm : Fr nF meA m m') : MU d ov c m' := h.fr (Fr.refl (PF := nF) (PA := noA)) fm (fun _ _ e => by cases e) (fun _ e => by cases e) (fun _ _ e => by cases e) (fun a e => by
  have : a = 134 := by simpa [meA] using e
  subst this; rfl) ⟨rfl, rfl, rfl⟩ h.wc.ev h.wc.ka h.wc.mu ((fm.i rfl).trans h.m1)
theorem m_homeA (m : Mm) : ∃ m', f_X12_homeY m = some ((), m') ∧ Fr nF meA m m' ∧ gA m' 134 0 = gA m 134 0 ∧ gA m' 134 1 = gA m 134 1 := by
  obtain ⟨z, e, z1, z2⟩ := iz_ex (gA m 134 4 + gA m 134 6 * 3 / 4)
  unfold f_X12_homeY
  rw [e, iz_long z1 z2, m_setY (by omega) (by omega), bd_eq]
  exact ⟨_, rfl, Fr.refl.uA _ _ (by rfl), by rw [gA_wr, wr_o _ (by decide)], by rw [gA_wr, wr_o _ (by decide)]⟩
theorem u_homeY (h : MU d ov c m) : wp (f_X7_homeY 46 c) (fun _ c' => MUQ d ov c m c') := by
  obtain ⟨g, ev, eb⟩ := h.wc.ev
  obtain ⟨t, t1, t2⟩ := eb.k4
  obtain ⟨v, v1, v2⟩ := eb.k6
  have hH := lgH_le g
  have l1 := clp_lo ((t + v * 3 / 4 : Nat) : Int) (96 * lgH g)
  have l2 := clp_hi ((t + v * 3 / 4 : Nat) : Int) (96 * lgH g)
  have ei := iz_int (a := clp ((t + v * 3 / 4 : Nat) : Int) (96 * lgH g)) (by omega) (by omega)
  unfold f_X7_homeY
  rw [show gI c 704 46 = g 4 from ev.i (704, 1, 4) (by decide), show gI c 708 46 = g 6 from ev.i (708, 1, 6) (by decide), t1, v1, hy_val t2 v2, c_moveY (ev.sf eb) (by omega) (by omega), bd_eq]
  exact wp_ret (h.env (Fr.refl.uI _ (by rfl)) ⟨_, ev.setI (f := 707) (o := 1) (k := 190) (by decide) _, eb.set (by decide) _ (by rw [ei]; exact l1) (by rw [ei]; show _ ≤ (76800 : Int); omega)⟩)
theorem u_moveX {z : Int} (h : MU d ov c m) (h1 : -4611686018427387904 ≤ z) (h2 : z < 4611686018427387904) : wp (f_X7_moveX 46 (jz z) c) (fun _ c' => MUQ d ov c m c') := by
  obtain ⟨g, ev, eb⟩ := h.wc.ev
  have hW := lgW_le g
  have l1 := clp_lo z (96 * lgW g)
  have l2 := clp_hi z (96 * lgW g)
  have ei := iz_int (a := clp z (96 * lgW g)) (by omega) (by omega)
  rw [c_moveX (ev.sf eb) h1 h2]
  exact wp_ret (h.env (Fr.refl.uI _ (by rfl)) ⟨_, ev.setI (f := 706) (o := 1) (k := 189) (by decide) _, eb.setX _ (by rw [ei]; exact l1) (by rw [ei]; omega)⟩)
theorem u_moveY {z : Int} (h : MU d ov c m) (h1 : -4611686018427387904 ≤ z) (h2 : z < 4611686018427387904) : wp (f_X7_moveY 46 (jz z) c) (fun _ c' => MUQ d ov c m c') := by
  obtain ⟨g, ev, eb⟩ := h.wc.ev
  have hW := lgH_le g
  have l1 := clp_lo z (96 * lgH g)
  have l2 := clp_hi z (96 * lgH g)
  have ei := iz_int (a := clp z (96 * lgH g)) (by omega) (by omega)
  rw [c_moveY (ev.sf eb) h1 h2]
  exact wp_ret (h.env (Fr.refl.uI _ (by rfl)) ⟨_, ev.setI (f := 707) (o := 1) (k := 190) (by decide) _, eb.set (by decide) _ (by rw [ei]; exact l1) (by rw [ei]; show _ ≤ (76800 : Int); omega)⟩)
theorem u_form (h : MU d ov c m) (gs : GS Gc Gm d) : wp (f_X9_form Gc c) (fun _ c' => MUQ d ov c m c') := by
  unfold f_X9_form
  refine wp_call (u_eject h gs) ?_
  intro _ c1 q1
  refine wp_call (u_homeY q1.1) ?_
  intro _ c2 q2
  exact wp_ret (q1.trans q2)
theorem u_cr (h : MU d ov c m) : wp (f_X9_carriageReturn c) (fun _ c' => MUQ d ov c m c') := by
  obtain ⟨g, ev, eb⟩ := h.wc.ev
  obtain ⟨l, l1, l2⟩ := eb.k2
  unfold f_X9_carriageReturn
  rw [show gI c 702 46 = g 2 from ev.i (702, 1, 2) (by decide), l1, nI_j (by omega)]
  refine wp_call (u_moveX h (by omega) (by omega)) ?_
  intro _ c1 q1
  exact wp_ret q1
theorem u_line {n : Nat} (hn : n ≤ 32000) (h : MU d ov c m) (gs : GS Gc Gm d) : wp (f_X9_line Gc (nI n) c) (fun _ c' => MUQ d ov c m c') := by
  obtain ⟨g, ev, eb⟩ := h.wc.ev
  obtain ⟨y, y1, y2⟩ := eb.k190
  have e707 : gI c 707 46 = nI y := (ev.i (707, 1, 190) (by decide)).trans y1
  have fin : ∀ b : Int32, wp (f_X9_line_35 Gc (nI n) b (nI y + nI n) c) (fun _ c' => MUQ d ov c m c') := fun b => by
    unfold f_X9_line_35
    split
    · rw [e707, nI_add, nI_j (by omega)]
      refine wp_call (u_moveY h (by omega) (by omega)) ?_
      intro _ c1 q1
      exact wp_ret q1
    · refine wp_call (u_form h gs) ?_
      intro _ c1 q1
      exact wp_ret q1
  unfold f_X9_line
  split
  · rw [c_down (ev.sf eb), bd_eq, e707]; exact fin _
  · rw [e707]; exact fin _
theorem OU.env (h : RR d ov c m) (e : EP c m c' m') : OU d ov c m c' m' := ⟨Or.inl (h.env e.fc e.fm e.v e.b e.e0 e.e1), KP.env e.fc e.fm, fun _ => ⟨e.e0, e.e1⟩⟩
theorem OU.refl (h : RR d ov c m) : OU d ov c m c m := ⟨Or.inl h, KP.refl, fun _ => ⟨rfl, rfl⟩⟩
theorem OU.pre (k : KP d ov c m c1 m1) (p : ov = true → gA m1 134 0 = gA m 134 0 ∧ gA m1 134 1 = gA m 134 1) (h : OU d ov c1 m1 c' m') : OU d ov c m c' m' := ⟨h.1, k.trans h.2.1, fun z => ⟨(h.2.2 z).1.trans (p z).1, (h.2.2 z).2.trans (p z).2⟩⟩
theorem OU.muc (h : OU d ov c m c1 m1) (q : MUQ d ov c1 m1 c') : OU d ov c m c' m1 := ⟨Or.inr q.1, KP_mk (h.2.1.fc.trans q.2) h.2.1.fm h.2.1.p1 h.2.1.p2 h.2.1.p3 h.2.1.p4, h.2.2⟩
theorem OU.mum (h : OU d ov c m c' m1) (mu : MU d ov c' m1) (fm : Fr nF meA m1 m') (e : gA m' 134 0 = gA m1 134 0 ∧ gA m' 134 1 = gA m1 134 1) : OU d ov c m c' m' := ⟨Or.inr (mu.menv fm), h.2.1.trans (KP.env Fr.refl fm), fun z => ⟨e.1.trans (h.2.2 z).1, e.2.trans (h.2.2 z).2⟩⟩
/-- what follows when there isn't much, on both sides; when there is, the class's end alone -/
theorem P2_form (h : RR d ov c m) (gs : GS Gc Gm d) : P2 (f_X9_form Gc c) (bd (f_X12_eject Gm m) fun _ T2 => bd (f_X12_homeY T2) fun _ T3 => some ((), T3)) (fun _ c' _ m' => OU d ov c m c' m') := by
  unfold f_X9_form
  refine P2_bd (P2_eject h gs) ?_
  rintro _ c1 _ m1 ⟨ou, _⟩
  rcases ou.1 with rr | mu
  · obtain ⟨c2, m2, e1, e2, e3⟩ := hy rr.ev rr.eb
    rw [e1, e2, bd_eq, bd_eq]
    exact P2_ret (OU.pre ou.2.1 ou.2.2 (OU.env rr e3))
  · obtain ⟨_, c2, e1, e2⟩ := u_homeY mu
    obtain ⟨m2, f1, f2, f3⟩ := m_homeA m1
    rw [e1, f1, bd_eq, bd_eq]
    exact P2_ret ((ou.muc e2).mum e2.1 f2 f3)
theorem P2_line {n : Nat} (hn : n ≤ 32000) (h : RR d ov c m) (gs : GS Gc Gm d) : P2 (f_X9_line Gc (nI n) c) (f_X12_line Gm (nI n) m) (fun _ c' _ m' => OU d ov c m c' m') := by
  obtain ⟨y, y1, y2⟩ := h.eb.k190
  obtain ⟨s, s1, s2⟩ := h.eb.k9
  obtain ⟨b, b1, b2⟩ := h.eb.k5
  have hH := lgH_le (gA m 134)
  have e707 : gI c 707 46 = nI y := (h.ev.i (707, 1, 190) (by decide)).trans y1
  have e107 : gI c 107 45 = nI s := (h.ev.i (107, 0, 9) (by decide)).trans s1
  have e705 : gI c 705 46 = nI b := (h.ev.i (705, 1, 5) (by decide)).trans b1
  have fin : ∀ l : Nat, l ≤ 76800 → P2 (f_X9_line_35 Gc (nI n) (nI l) (nI y + nI n) c) (f_X12_line_41 Gm (jz ((y + n : Nat) : Int)) (nI l) (jz ((y + n : Nat) : Int)) m) (fun _ c' _ m' => OU d ov c m c' m') := fun l hl => by
    unfold f_X9_line_35 f_X12_line_41
    have eq : lg_cmp (jz ((y + n : Nat) : Int)) (nI l).toInt64 ≤ 0 ↔ y + n ≤ l := by
      rw [c_le, nI_j (by omega), jz_le (by omega) (by omega) (by omega) (by omega)]; omega
    rw [nI_add]
    by_cases q : y + n ≤ l
    · rw [if_pos (nI_le q (by omega)), if_pos (eq.mpr q), e707, nI_add, nI_j (by omega)]
      obtain ⟨c1, m1, e1, e2, e3, _⟩ := my (z := ((y + n : Nat) : Int)) h.ev h.eb (by omega) (by omega)
      rw [e1, e2, bd_eq, bd_eq]
      exact P2_ret (OU.env h e3)
    · rw [if_neg (nI_ge (by omega) (by omega)), if_neg (fun z => q (eq.mp z))]
      refine P2_el ?_ (P2_form h gs)
      cases f_X9_form Gc c with
      | none => rfl
      | some v => rfl
  unfold f_X9_line f_X12_line
  rw [y1, nI_j (by omega), nI_j (by omega), jz_add, lb_eq, show (y : Int) + (n : Int) = ((y + n : Nat) : Int) by omega, e107, s1, e707, e705, b1]
  rcases (show s = 0 ∨ s = 1 by omega) with rfl | rfl
  · rw [if_pos (show nI 0 = 0 from rfl), if_neg (show ¬ nI 0 = 1 by decide), c_down (h.ev.sf h.eb), bd_eq, m_high, bd_eq, show (96 : Int32) * nI (lgH (gA m 134)) = nI (96 * lgH (gA m 134)) from pk_mul 96 _]
    exact fin _ (by omega)
  · rw [if_neg (show ¬ nI 1 = 0 by decide), if_pos (show nI 1 = 1 from rfl)]
    exact fin _ b2
end C0
