/-! The fields of the page, on both sides. -/
section C7
variable {c c' c0 c1 c2 m m' m0 m1 m2 T : Mm} {d w b : Nat} {ov ov' ng sg : Bool} {g L : Nat → Int32} {Gc Gm : Gty}
theorem CV.new {v : Nat} (h : CV c m g 0 v) (fc : Fr eF eA c c') (fm : Fr nF meA m m') (g' : Nat → Int32) : CV c' m' g' 0 v := by
  have p : pbit m' = pbit m := by unfold pbit; rw [fm.a (by rfl)]
  have pg : ∀ {g9 : Nat → Int32} {x y : Nat}, x < lgW g9 → y < lgH g9 → pbit m (phX g9 x y) (phY g9 x y) = false := fun {g9 x y} hx hy => by
    have q := ph_in hx hy
    have w1 : pgW (g9 0) ≤ 640 := by unfold pgW; split <;> (try split) <;> (try split) <;> omega
    have w2 : pgH (g9 0) ≤ 800 := by unfold pgH; split <;> (try split) <;> (try split) <;> omega
    exact h.z rfl _ _ (by omega) (by omega)
  have al : ∀ (g9 : Nat → Int32) (x y : Nat), (decide (x < lgW g9) && decide (y < lgH g9) && pbit m (phX g9 x y) (phY g9 x y)) = false := fun g9 x y => by
    by_cases hx : x < lgW g9
    · by_cases hy : y < lgH g9
      · rw [pg hx hy]; simp
      · simp [hy]
    · simp [hx]
  refine CV_mk ?_ ?_ h.k3 ?_ ?_ h.v3 ?_ ?_ ?_
  · rw [fc.i (by rfl)]; exact h.k1
  · rw [fm.i (by rfl)]; exact h.k2
  · rw [fc.i (by rfl)]; exact h.v1
  · rw [fm.j (by rfl)]; exact h.v2
  · rw [fc.i (by rfl)]; exact h.u
  · intro x y hx hy
    rw [fc.a (by rfl), p, al g' x y, h.d x y hx hy, al g x y]
  · rw [p]; exact h.z
theorem RR.newp {v : Nat} (h : RR d ov c m) (fc : Fr eF eA c c') (fm : Fr nF meA m m') (ev : EVq c' 45 (gA m' 134)) (eb : EB (gA m' 134)) (cv : CV c m (gA m 134) 0 v) : RR d ov c' m' := by
  obtain ⟨q, q1, q2, q3⟩ := h.gn
  obtain ⟨p, hp1, hp2⟩ : ∃ p, gI c 602 5 = nI p ∧ p ≤ 12 := by
    obtain ⟨s, p, _, z1, _, z3, _⟩ := h.sh
    exact ⟨p, z1, z3⟩
  exact RR_mk ev eb (by rw [fc.i (by rfl)]; exact h.d1) (by rw [fm.i (by rfl)]; exact h.d2) h.d3 (by rw [fc.i (by rfl)]; exact h.o1) (by rw [fm.i (by rfl)]; exact h.o2) (by rw [fm.i (by rfl)]; exact h.im) ⟨q, by rw [fc.i (by rfl)]; exact q1, by rw [fm.i (by rfl)]; exact q2, q3⟩
    ⟨0, v, cv.new fc fm _⟩ (h.sh.fr hp1 hp2 fc fm (fun _ => rfl) ⟨rfl, rfl, rfl, fun i hi => eA_o (by omega)⟩ ⟨rfl, rfl, rfl, rfl⟩ ⟨rfl, rfl, rfl, rfl⟩) (h.tb.fr fm rfl rfl) (h.ft.fr fc fm ⟨rfl, rfl, rfl, rfl, rfl, rfl⟩ ⟨rfl, rfl, rfl, rfl, rfl, rfl, rfl⟩ rfl)
    (h.ka.fr fc ⟨rfl, rfl⟩ ⟨rfl, rfl, rfl⟩) (h.tl.fr fc fm rfl ⟨rfl, rfl, rfl, rfl, rfl⟩ (fun f i a b => eF_o (by omega)) (fun i a b => eA_o (by omega))) (h.mc.fr fc fm ⟨rfl, rfl, rfl⟩ ⟨rfl, rfl, rfl, rfl⟩) (by rw [fc.r (by rfl)]; exact h.rd) (by rw [fm.r (by rfl)]; exact h.sc)
theorem own_rr {n o v : Nat} (h : RR d ov c m) (cv : CV c m (gA m 134) 0 v) (hn : n ≤ 3) (ho : o ≤ 1) (fm0 : Fr nF meA m m0) (hm : gA m0 134 = wr (wr (gA m 134) 0 (nI n)) 1 (nI o)) : ∃ c' m', f_X7_turn 46 (nI n) (nI o) c = some ((), c') ∧ f_X12_pagesOwn m0 = some ((), m') ∧ RR d ov c' m' ∧ KP d ov c m c' m' := by
  obtain ⟨c1, m1, e1, e2, e3, e4, e5, e6⟩ := turned h.ev h.eb hn ho hm
  exact ⟨c1, m1, e1, e2, h.newp e5 (fm0.trans e6) e3 e4 cv, KP.env e5 (fm0.trans e6)⟩
theorem own_mu {n o : Nat} (h : MU d ov c m) (hn : n ≤ 3) (ho : o ≤ 1) : wp (f_X7_turn 46 (nI n) (nI o) c) (fun _ c' => MUQ d ov c m c') := by
  obtain ⟨g, ev, eb⟩ := h.wc.ev
  obtain ⟨c1, m1, e1, e2, e3, e4, e5, e6⟩ := turned (m := (c.1, c.2.1, c.2.2.1, (fun _ => wr (wr g 0 (nI n)) 1 (nI o)), c.2.2.2.2)) ev eb hn ho rfl
  rw [e1]
  exact wp_ret (h.env e5 ⟨_, e3, e4⟩)
/-- a new format or orientation: the page goes out first -/
theorem P2_own {i a : Nat} (hi : i = 0 ∧ a ≤ 3 ∨ i = 1 ∧ a ≤ 1) (h : RR d false c m) (gs : GS Gc Gm d) : P2 (bd (f_X9_eject Gc c) fun _ T5 => f_X7_turn 46 (if i = 0 then nI a else gI T5 700 46) (if i = 0 then gI T5 701 46 else nI a) T5) (bd (f_X12_eject Gm m) fun _ T2 => if (gI T2 1233 133) = 0 then (lb (uA T2 134 i (nI a)) fun T3 => f_X12_pagesOwn T3) else (some ((), T2))) (fun _ c' _ m' => OU d false c m c' m') := by
  refine P2_bd (P2_eject h gs) ?_
  rintro _ c1 _ m1 ⟨ou, bl⟩
  rcases ou.1 with rr | mu
  · obtain ⟨v, cv⟩ := bl rfl rr
    obtain ⟨f, f1, f2⟩ := rr.eb.k0
    obtain ⟨o, o1, o2⟩ := rr.eb.k1
    rw [rr.sh.z.2, if_pos rfl, lb_eq, show gI c1 700 46 = nI f from (rr.ev.i (700, 1, 0) (by decide)).trans f1, show gI c1 701 46 = nI o from (rr.ev.i (701, 1, 1) (by decide)).trans o1]
    rcases hi with ⟨rfl, ha⟩ | ⟨rfl, ha⟩
    · obtain ⟨c2, m2, e1, e2, e3, e4⟩ := own_rr (m0 := uA m1 134 0 (nI a)) rr cv ha o2 (Fr.refl.uA _ _ (by rfl)) (by
        rw [gA_wr]; funext j
        by_cases q : j = 1
        · rw [q, wr_s, wr_o _ (by decide), o1]
        · rw [wr_o _ q])
      rw [if_pos rfl, if_pos rfl, e1, e2]
      exact P2_ret ⟨Or.inl e3, ou.2.1.trans e4, fun z => by cases z⟩
    · obtain ⟨c2, m2, e1, e2, e3, e4⟩ := own_rr (m0 := uA m1 134 1 (nI a)) rr cv f2 ha (Fr.refl.uA _ _ (by rfl)) (by
        rw [gA_wr]; funext j
        by_cases q : j = 1
        · rw [q, wr_s, wr_s]
        · rw [wr_o _ q, wr_o _ q]
          by_cases q2 : j = 0
          · rw [q2, wr_s, f1]
          · rw [wr_o _ q2])
      rw [if_neg (by decide), if_neg (by decide), e1, e2]
      exact P2_ret ⟨Or.inl e3, ou.2.1.trans e4, fun z => by cases z⟩
  · rw [if_neg (show ¬ gI m1 1233 133 = 0 by rw [mu.m1]; decide)]
    obtain ⟨g, ev, eb⟩ := mu.wc.ev
    obtain ⟨f, f1, f2⟩ := eb.k0
    obtain ⟨o, o1, o2⟩ := eb.k1
    rw [show gI c1 700 46 = nI f from (ev.i (700, 1, 0) (by decide)).trans f1, show gI c1 701 46 = nI o from (ev.i (701, 1, 1) (by decide)).trans o1]
    rcases hi with ⟨rfl, ha⟩ | ⟨rfl, ha⟩
    · obtain ⟨_, c2, e1, e2⟩ := own_mu mu ha o2
      rw [if_pos rfl, if_pos rfl, e1]
      exact P2_ret (ou.muc e2)
    · obtain ⟨_, c2, e1, e2⟩ := own_mu mu f2 ha
      rw [if_neg (by decide), if_neg (by decide), e1]
      exact P2_ret (ou.muc e2)
end C7
