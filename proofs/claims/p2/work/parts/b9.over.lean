/-! Overlays, lines and forms, on both sides. -/
def e2F (f i : Nat) : Bool := (decide (45 ≤ i) && decide (i ≤ 62)) || (decide (98 ≤ i) && decide (i < 125)) || (i == 23 && f == 915)
def e2A (i : Nat) : Bool := (decide (45 ≤ i) && decide (i ≤ 62)) || (decide (98 ≤ i) && decide (i < 125))
def e1F (f i : Nat) : Bool := (decide (45 ≤ i) && decide (i ≤ 62)) || (i == 23 && f == 915)
def e1A (i : Nat) : Bool := decide (45 ≤ i) && decide (i ≤ 62)
def m2F (f i : Nat) : Bool := i == 133 && f == 1231
def m2A (a : Nat) : Bool := a == 134 || a == 135
section B9
variable {c c' c0 c1 c2 m m' m0 m1 m2 T : Mm} {d : Nat} {ov ov' : Bool} {PF QF : Nat → Nat → Bool} {PA QA : Nat → Bool} {g : Nat → Int32} {Gc Gm : Gty}
theorem Fr.fix {f0 i0 : Nat} (h : Fr (fun f i => PF f i || (f == f0 && i == i0)) PA c c') (e1 : gI c' f0 i0 = gI c f0 i0) (e2 : gJ c' f0 i0 = gJ c f0 i0) (e3 : gR c' f0 i0 = gR c f0 i0) : Fr PF PA c c' := by
  refine ⟨fun f i e => ?_, h.2⟩
  by_cases q : f = f0 ∧ i = i0
  · obtain ⟨rfl, rfl⟩ := q
    exact ⟨e1, e2, e3⟩
  · exact h.1 f i (by
      show (PF f i || (f == f0 && i == i0)) = false
      rw [e, Bool.false_or]
      by_cases q1 : f = f0
      · have : ¬ i = i0 := fun z => q ⟨q1, z⟩
        simp [this]
      · simp [q1])
theorem e2_out {f i : Nat} (h : i < 23 ∨ (23 < i ∧ i < 45) ∨ (62 < i ∧ i < 98) ∨ 125 ≤ i) : e2F f i = false ∧ e2A i = false := by
  constructor
  · unfold e2F
    have h1 : (decide (45 ≤ i) && decide (i ≤ 62)) = false := by
      by_cases z : 45 ≤ i
      · rw [decide_eq_false (show ¬ i ≤ 62 by omega), Bool.and_false]
      · rw [decide_eq_false z, Bool.false_and]
    have h2 : (decide (98 ≤ i) && decide (i < 125)) = false := by
      by_cases z : 98 ≤ i
      · rw [decide_eq_false (show ¬ i < 125 by omega), Bool.and_false]
      · rw [decide_eq_false z, Bool.false_and]
    have h3 : (i == 23) = false := by simp; omega
    rw [h1, h2, h3]; rfl
  · unfold e2A
    have h1 : (decide (45 ≤ i) && decide (i ≤ 62)) = false := by
      by_cases z : 45 ≤ i
      · rw [decide_eq_false (show ¬ i ≤ 62 by omega), Bool.and_false]
      · rw [decide_eq_false z, Bool.false_and]
    have h2 : (decide (98 ≤ i) && decide (i < 125)) = false := by
      by_cases z : 98 ≤ i
      · rw [decide_eq_false (show ¬ i < 125 by omega), Bool.and_false]
      · rw [decide_eq_false z, Bool.false_and]
    rw [h1, h2]; rfl
theorem RR.env2 (h : RR d ov c m) (fc : Fr e2F e2A c c') (fm : Fr m2F m2A m m') (ev : EVq c' 45 (gA m' 134)) (eb : EB (gA m' 134)) (e0 : gA m' 134 0 = gA m 134 0) (e1 : gA m' 134 1 = gA m 134 1) (o1 : gI c' 915 23 = cI ov') (o2 : gI m' 1231 133 = cI ov') : RR d ov' c' m' := by
  obtain ⟨q, q1, q2, q3⟩ := h.gn
  obtain ⟨k, v, hcv⟩ := h.cv
  obtain ⟨p, hp1, hp2⟩ := h.sh.pp
  exact RR_mk ev eb ((fc.i (by rfl)).trans h.d1) ((fm.i (by rfl)).trans h.d2) h.d3 o1 o2 ((fm.i (by rfl)).trans h.im) ⟨q, (fc.i (by rfl)).trans q1, (fm.i (by rfl)).trans q2, q3⟩
    ⟨k, v, hcv.fr fc fm e0 e1 ⟨rfl, rfl, rfl⟩ ⟨rfl, rfl⟩ rfl rfl⟩ (h.sh.fr hp1 hp2 fc fm (fun _ => rfl) ⟨rfl, rfl, rfl, fun i hi => (e2_out (f := 0) (by omega)).2⟩ ⟨rfl, rfl, rfl, rfl⟩ ⟨rfl, rfl, rfl, rfl⟩) (h.tb.fr fm rfl rfl) (h.ft.fr fc fm ⟨rfl, rfl, rfl, rfl, rfl, rfl⟩ ⟨rfl, rfl, rfl, rfl, rfl, rfl, rfl⟩ rfl)
    (h.ka.fr fc ⟨rfl, rfl⟩ ⟨rfl, rfl, rfl⟩) (h.tl.fr fc fm rfl ⟨rfl, rfl, rfl, rfl, rfl⟩ (fun f i a b => (e2_out (by omega)).1) (fun i a b => (e2_out (f := 0) (by omega)).2)) (h.mc.fr fc fm ⟨rfl, rfl, rfl⟩ ⟨rfl, rfl, rfl, rfl⟩) ((fc.r (by rfl)).trans h.rd) (by rw [fm.r (by rfl)]; exact h.sc)
theorem ns_e2 {f i : Nat} (e : e2F f i = true) : cNS f i = true := by
  by_cases q : i < 23 ∨ (23 < i ∧ i < 45) ∨ (62 < i ∧ i < 98) ∨ 125 ≤ i
  · rw [(e2_out q).1] at e; cases e
  · unfold cNS
    have h1 : (i != 27) = true := by simp; omega
    have h2 : (decide (66 ≤ i) && decide (i ≤ 97)) = false := by simp; omega
    rw [h1, h2]; simp
theorem na_e2 {i : Nat} (e : e2A i = true) : cNA i = true := by
  by_cases q : i < 45 ∨ (62 < i ∧ i < 98) ∨ 125 ≤ i
  · have : e2A i = false := by
      by_cases q2 : i = 23
      · rw [q2]; rfl
      · exact (e2_out (f := 0) (by omega)).2
    rw [this] at e; cases e
  · unfold cNA; simp; omega
theorem MU.env2 (h : MU d ov c m) (fc : Fr e2F e2A c c') (fm : Fr m2F m2A m m') (ev : ∃ g, EVq c' 45 g ∧ EB g) (o1 : gI c' 915 23 = cI ov') : MU d ov' c' m' := by
  refine MU_mk (WC_mk (mu_fr h.wc.mu (fc.i (by rfl)) (fc.i (by rfl)) (fc.i (by rfl))) ev ((fc.i (by rfl)).trans h.wc.d1) h.wc.d3 o1 (h.wc.ka.fr fc ⟨rfl, rfl⟩ ⟨rfl, rfl, rfl⟩) ((fc.r (by rfl)).trans h.wc.rd) (h.wc.fk.fr fc ⟨rfl, rfl, rfl⟩)) ((fm.i (by rfl)).trans h.m1) (h.st.fr (fc.weak (fun f i z => ?_) (fun a z => ?_)) (fm.weak (fun f i z => ?_) (fun a z => ?_)))
  · cases y : e2F f i
    · rfl
    · rw [ns_e2 y] at z; cases z
  · cases y : e2A a
    · rfl
    · rw [na_e2 y] at z; cases z
  · cases y : m2F f i
    · rfl
    · unfold m2F at y
      have : i = 133 ∧ f = 1231 := by simpa using y
      obtain ⟨rfl, rfl⟩ := this
      exact absurd z (by decide)
  · cases y : m2A a
    · rfl
    · unfold m2A at y
      rcases (show a = 134 ∨ a = 135 by simpa using y) with rfl | rfl <;> exact absurd z (by decide)
theorem MCq.hasZ (h : MCq c m) {o : Int} (h1 : -1 ≤ o) (h2 : o ≤ 15) : f_X8_has 41 (iz o) c = some (cI (decide (0 ≤ o ∧ o < 16) && decide (gA m 148 o.toNat = 1)), c) := by
  rw [sp_hasZ (by omega) (by omega)]
  by_cases q : 0 ≤ o ∧ o < 16
  · obtain ⟨u, rfl⟩ : ∃ u : Nat, o = (u : Int) := ⟨o.toNat, by omega⟩
    obtain ⟨a, b, x, _, z⟩ := h.s u (by omega)
    rw [show ((u : Int)).toNat = u from rfl, show gA c (41 + 1) u = sv a b from z, x]
    cases a <;> cases b <;> rfl
  · rw [decide_eq_false q, Bool.false_and, Bool.false_and]
def noF (d : Nat) (f i : Nat) : Bool := skF d false f i || (f == 915 && i == 23)
theorem sk_e1 {d f i : Nat} (e : noF d f i = false) : e1F f i = false := by
  unfold noF at e
  rw [Bool.or_eq_false_iff] at e
  have h := e.1
  have h2 := e.2
  unfold skF at h
  simp only [Bool.or_eq_false_iff, Bool.not_false, Bool.true_and] at h
  obtain ⟨⟨⟨⟨⟨⟨⟨⟨⟨_, _⟩, _⟩, _⟩, _⟩, a6⟩, a7⟩, _⟩, _⟩, _⟩ := h
  unfold e1F
  have k1 : (decide (45 ≤ i) && decide (i ≤ 62)) = false := by
    by_cases z : 45 ≤ i
    · by_cases z2 : i ≤ 53
      · rw [decide_eq_true z, decide_eq_true z2] at a6; cases a6
      · by_cases z3 : i ≤ 62
        · rw [decide_eq_true (show 54 ≤ i by omega), decide_eq_true z3] at a7; cases a7
        · rw [decide_eq_false z3, Bool.and_false]
    · rw [decide_eq_false z, Bool.false_and]
  rw [k1, Bool.false_or, Bool.and_comm]; exact h2
theorem ska_e1 {d a : Nat} (e : skA d false a = false) : e1A a = false := by
  unfold skA at e
  simp only [Bool.or_eq_false_iff, Bool.not_false, Bool.true_and] at e
  obtain ⟨⟨⟨⟨_, a6⟩, a7⟩, _⟩, _⟩ := e
  unfold e1A
  by_cases z : 45 ≤ a
  · by_cases z2 : a ≤ 53
    · rw [decide_eq_true z, decide_eq_true z2] at a6; cases a6
    · by_cases z3 : a ≤ 62
      · rw [decide_eq_true (show 54 ≤ a by omega), decide_eq_true z3] at a7; cases a7
      · rw [decide_eq_false z3, Bool.and_false]
  · rw [decide_eq_false z, Bool.false_and]
theorem e1_2 {f i : Nat} (e : e2F f i = false) : e1F f i = false := by
  unfold e2F at e
  rw [Bool.or_eq_false_iff, Bool.or_eq_false_iff] at e
  unfold e1F
  rw [e.1.1, e.2]; rfl
theorem e1a_2 {i : Nat} (e : e2A i = false) : e1A i = false := by
  unfold e2A at e
  rw [Bool.or_eq_false_iff] at e
  exact e.1
theorem en54 {f i : Nat} (e : e1F f i = false) : enF 54 f i = false ∧ eF f i = false := by
  unfold e1F at e
  rw [Bool.or_eq_false_iff] at e
  have h := e.1
  unfold enF eF
  by_cases z : 45 ≤ i
  · have z2 : ¬ i ≤ 62 := fun z2 => by rw [decide_eq_true z, decide_eq_true z2] at h; cases h
    exact ⟨by rw [decide_eq_false (show ¬ i ≤ 54 + 8 by omega), Bool.and_false], by rw [decide_eq_false (show ¬ i ≤ 53 by omega), Bool.and_false]⟩
  · exact ⟨by rw [decide_eq_false (show ¬ 54 ≤ i by omega), Bool.false_and], by rw [decide_eq_false z, Bool.false_and]⟩
theorem en54a {i : Nat} (h : e1A i = false) : enA 54 i = false ∧ eA i = false := by
  unfold e1A at h
  unfold enA eA
  by_cases z : 45 ≤ i
  · have z2 : ¬ i ≤ 62 := fun z2 => by rw [decide_eq_true z, decide_eq_true z2] at h; cases h
    exact ⟨by rw [decide_eq_false (show ¬ i ≤ 54 + 8 by omega), Bool.and_false], by rw [decide_eq_false (show ¬ i ≤ 53 by omega), Bool.and_false]⟩
  · exact ⟨by rw [decide_eq_false (show ¬ 54 ≤ i by omega), Bool.false_and], by rw [decide_eq_false z, Bool.false_and]⟩
theorem en45 {f i : Nat} : enF 45 f i = eF f i := rfl
theorem sk_t {d : Nat} {f i : Nat} (e : noF d f i = false) : skF d true f i = false := by
  unfold noF at e
  rw [Bool.or_eq_false_iff] at e
  have h := e.1
  unfold skF at h ⊢
  simp only [Bool.or_eq_false_iff, Bool.not_false, Bool.not_true, Bool.true_and, Bool.false_and] at h ⊢
  obtain ⟨⟨⟨⟨⟨⟨⟨⟨⟨a1, a2⟩, a3⟩, a4⟩, a5⟩, a6⟩, a7⟩, a8⟩, a9⟩, a10⟩ := h
  exact ⟨⟨⟨⟨⟨⟨⟨⟨⟨a1, a2⟩, a3⟩, a4⟩, a5⟩, a6⟩, trivial⟩, a8⟩, a9⟩, a10⟩
theorem ska_t {d : Nat} {a : Nat} (h : skA d false a = false) : skA d true a = false := by
  unfold skA at h ⊢
  simp only [Bool.or_eq_false_iff, Bool.not_false, Bool.not_true, Bool.true_and, Bool.false_and] at h ⊢
  obtain ⟨⟨h1, h2⟩, h3⟩ := h
  exact ⟨⟨⟨h1.1, trivial⟩, h2⟩, h3⟩
/-- into the overlay, on the class's side -/
theorem c_into (ev : EVq c 45 g) (eb : EB g) : ∃ f r c1 c2, g 0 = nI f ∧ f ≤ 3 ∧ g 1 = nI r ∧ r ≤ 1 ∧ f_X1_copy 54 45 c = some ((), c1) ∧ f_X1_reset 45 (gI c1 700 46) (gI c1 701 46) c1 = some ((), c2) ∧ Fr e1F e1A c (uI c2 915 23 1) ∧ EVq (uI c2 915 23 1) 45 (gE f r) ∧ EVq (uI c2 915 23 1) 54 g ∧ gI (uI c2 915 23 1) 120 54 = g 187 ∧ gJ (uI c2 915 23 1) 915 23 = gJ c 915 23 ∧ gR (uI c2 915 23 1) 915 23 = gR c 915 23 := by
  obtain ⟨f, f1, f2⟩ := eb.k0
  obtain ⟨r, r1, r2⟩ := eb.k1
  obtain ⟨c1, a1, a2, a3⟩ := ev.copy (t := 54) eb (by omega)
  have g700 : gI c1 700 46 = nI f := by rw [a2.i (by rfl)]; exact (ev.i (700, 1, 0) (by decide)).trans f1
  have g701 : gI c1 701 46 = nI r := by rw [a2.i (by rfl)]; exact (ev.i (701, 1, 1) (by decide)).trans r1
  obtain ⟨c2, b1, b2, b3⟩ := c_reset9 (c := c1) f2 r2
  have ev54 : EVq c2 54 g := a3.fr b2 (fun f i x y => eF_o (by omega)) (fun i x y => eA_o (by omega))
  have k3 : Fr (fun f i => f == 915 && i == 23) noA c2 (uI c2 915 23 1) := Fr.refl.uI _ (by rfl)
  have ev543 : EVq (uI c2 915 23 1) 54 g := ev54.fr k3 (fun f i x y => by
    have : (i == 23) = false := by simp; omega
    rw [this, Bool.and_false]) (fun _ _ _ => rfl)
  have ev3 : EVq (uI c2 915 23 1) 45 (gE f r) := b3.fr k3 (fun f i x y => by
    have : (i == 23) = false := by simp; omega
    rw [this, Bool.and_false]) (fun _ _ _ => rfl)
  refine ⟨f, r, c1, c2, f1, f2, r1, r2, a1, by rw [g700, g701]; exact b1, ((a2.weak (fun f i e => (en54 e).1) (fun i e => (en54a e).1)).trans (b2.weak (fun f i e => (en54 e).2) (fun i e => (en54a e).2))).uI _ (by rfl), ev3, ev543, ev543.i (120, 0, 187) (by decide), ?_, ?_⟩
  · show gJ c2 915 23 = _
    rw [b2.j (by rfl), a2.j (by rfl)]
  · show gR c2 915 23 = _
    rw [b2.r (by rfl), a2.r (by rfl)]
/-- out of it -/
theorem c_out (ev : EVq c 54 g) (eb : EB g) : ∃ c', f_X1_copy 45 54 (uI c 915 23 0) = some ((), c') ∧ Fr e1F e1A c c' ∧ EVq c' 45 g ∧ gI c' 915 23 = 0 ∧ gJ c' 915 23 = gJ c 915 23 ∧ gR c' 915 23 = gR c 915 23 := by
  have k3 : Fr (fun f i => f == 915 && i == 23) noA c (uI c 915 23 0) := Fr.refl.uI _ (by rfl)
  have ev2 : EVq (uI c 915 23 0) 54 g := ev.fr k3 (fun f i x y => by
    have : (i == 23) = false := by simp; omega
    rw [this, Bool.and_false]) (fun _ _ _ => rfl)
  obtain ⟨c', a1, a2, a3⟩ := ev2.copy (t := 45) eb (by omega)
  refine ⟨c', a1, (Fr.refl.uI _ (by rfl)).trans (a2.weak (fun f i e => (en54 e).2) (fun i e => (en54a e).2)), a3, ?_, ?_, ?_⟩
  · rw [a2.i (by rfl), gI_uI, if_pos ⟨rfl, rfl⟩]
  · rw [a2.j (by rfl)]; rfl
  · rw [a2.r (by rfl)]; rfl
/-- much came in an overlay, or before: the class's page goes -/
theorem u_eject (h : MU d ov c m) (gs : GS Gc Gm d) : wp (f_X9_eject Gc c) (fun _ c' => MUQ d ov c m c') := by
  obtain ⟨g, ev, eb⟩ := h.wc.ev
  obtain ⟨o, o1, o2, o3⟩ := eb.k187
  have e120 : gI c 120 45 = iz o := (ev.i (120, 0, 187) (by decide)).trans o1
  -- the copies don't come
  have fin : ∀ c0, MU d ov c0 m → Fr (skF d ov) (skA d ov) c c0 → wp (f_X9_eject_l115 Gc FU 0 c0) (fun _ c' => MUQ d ov c m c') := by
    intro c0 h0 f0
    obtain ⟨_, c', e1, e2⟩ := u_clear h0
    have ec : f_X9_eject_l115 Gc FU 0 c0 = some ((), c') := by
      rw [show FU = 3999999999 + 1 from rfl]
      show f_X9_eject_b115 Gc (f_X9_eject_l115 Gc 3999999999) 0 c0 = _
      unfold f_X9_eject_b115
      rw [h0.wc.mu, bd_eq, if_neg (show ¬ (1 : Int32) = 0 by decide), e1, bd_eq]
      split <;> rfl
    rw [ec]
    exact wp_ret ⟨e2.1, f0.trans e2.2⟩
  unfold f_X9_eject
  rw [h.wc.o1]
  cases ov
  · rw [if_pos (by rfl)]
    by_cases q : gI c 2 24 = 0
    · rw [if_pos q]; exact wp_ret (MUQ.refl h)
    rw [if_neg q, e120, sp_hasZ (by omega) (by omega), bd_eq]
    cases hb : (decide (0 ≤ o ∧ o < 16) && !decide (gA c (41 + 1) o.toNat = 0))
    · rw [if_pos (by rfl)]
      exact fin c h Fr.refl
    · rw [if_neg (by decide), h.wc.d1]
      by_cases q3 : 3 ≤ d
      · rw [if_pos (show (3 : Int32) ≤ nI d from nI_le (a := 3) q3 (by have := h.wc.d3; omega))]
        exact fin c h Fr.refl
      · rw [if_neg (show ¬ (3 : Int32) ≤ nI d from nI_ge (b := 3) (by omega) (by omega))]
        obtain ⟨f, r, c1, c2, f1, f2, r1, r2, x1, x2, x3, x4, x5, x6, x7, x8⟩ := c_into ev eb
        rw [x1, bd_eq, x2, bd_eq, lb_eq, x6, o1]
        have mu3 : MU d true (uI c2 915 23 1) m := h.env2 (x3.weak (fun _ _ e => e1_2 e) (fun _ e => e1a_2 e)) (Fr.refl (PF := m2F) (PA := m2A)) ⟨_, x4, gE_b f2 r2⟩ (by rw [gI_uI, if_pos ⟨rfl, rfl⟩]; rfl)
        obtain ⟨_, c4, y1, y2, y3⟩ := gs.u _ m true o o2 o3 mu3
        have ev4 : EVq c4 54 g := x5.fr y3 (fun f i a b => by unfold skF; simp; omega) (fun i a b => by unfold skA; simp; omega)
        obtain ⟨c6, z1, z2, z3, z4, z5, z6⟩ := c_out ev4 eb
        rw [y1, bd_eq, lb_eq, z1, bd_eq]
        have mu6 : MU d false c6 m := y2.env2 (z2.weak (fun _ _ e => e1_2 e) (fun _ e => e1a_2 e)) (Fr.refl (PF := m2F) (PA := m2A)) ⟨g, z3, eb⟩ z4
        have F6 : Fr (noF d) (skA d false) c c6 := ((x3.weak (fun _ _ e => sk_e1 e) (fun _ e => ska_e1 e)).trans (y3.weak (fun _ _ e => sk_t e) (fun _ e => ska_t e))).trans (z2.weak (fun _ _ e => sk_e1 e) (fun _ e => ska_e1 e))
        refine fin c6 mu6 (Fr.fix F6 ?_ ?_ ?_)
        · rw [z4, h.wc.o1]; rfl
        · rw [z5, y3.j (by unfold skF; simp; omega), x7]
        · rw [z6, y3.r (by unfold skF; simp; omega), x8]
  · rw [if_neg (by decide)]; exact wp_ret (MUQ.refl h)
def EQ2 (d : Nat) (ov : Bool) (c m : Mm) : Unit → Mm → Unit → Mm → Prop := fun _ c' _ m' => OU d ov c m c' m' ∧ (ov = false → RR d ov c' m' → ∃ v, CV c' m' (gA m' 134) 0 v)
theorem EJQ.eq {ov : Bool} (h : EJQ d ov c m c' m') : EQ2 d ov c m () c' () m' := by
  obtain ⟨h1, h2, h3⟩ := h
  refine ⟨⟨?_, h2, fun _ => by rw [h3]; exact ⟨rfl, rfl⟩⟩, fun _ rr => ?_⟩
  · rcases h1 with h1 | h1
    · exact Or.inl h1.1
    · exact Or.inr h1
  · rcases h1 with h1 | h1
    · exact h1.2
    · have := rr.sh.z.2
      rw [h1.m1] at this
      exact absurd this (by decide)
/-- the page comes, if there are marks -/
theorem P2_eject (h : RR d ov c m) (gs : GS Gc Gm d) : P2 (f_X9_eject Gc c) (f_X12_eject Gm m) (EQ2 d ov c m) := by
  obtain ⟨k, v, hcv⟩ := h.cv
  obtain ⟨o, o1, o2, o3⟩ := h.eb.k187
  obtain ⟨C, C1, C2, C3⟩ := h.eb.k8
  have e120 : gI c 120 45 = iz o := (h.ev.i (120, 0, 187) (by decide)).trans o1
  unfold f_X9_eject f_X12_eject
  rw [h.o1, h.o2]
  cases ov
  · rw [if_pos (show cI false = 0 from rfl), if_pos (show cI false = 0 from rfl), hcv.k1, hcv.k2]
    by_cases k0 : k = 0
    · subst k0
      rw [if_pos (show nI 0 = 0 from rfl), if_pos (show nI 0 = 0 from rfl)]
      exact P2_ret ⟨⟨Or.inl h, KP.refl, fun e => (by cases e)⟩, fun _ _ => ⟨v, hcv⟩⟩
    have k3 := hcv.k3
    rw [if_neg (nI_ne0 (by omega) (by omega)), if_neg (nI_ne0 (by omega) (by omega)), lb_eq, e120, h.mc.hasZ o2 o3, bd_eq, o1]
    have loop : ∀ c1 m1, RR d false c1 m1 → gA m1 134 8 = nI C → P2 (f_X9_eject_l115 Gc FU 0 c1) (lb (gA m1 134 8) fun v2 => f_X12_eject_l107 Gm FU v2 0 m1) (fun _ c' _ m' => EJQ d false c1 m1 c' m') := fun c1 m1 rr e8 => by
      rw [lb_eq, e8]
      exact P2_copies C3 FU FU 0 c1 m1 (FU_gt (by omega)) (FU_gt (by omega)) (by omega) rr e8
    by_cases q : o = -1
    · subst q
      rw [if_pos (show cI (decide (0 ≤ (-1 : Int) ∧ (-1 : Int) < 16) && decide (gA m 148 ((-1 : Int)).toNat = 1)) = 0 from rfl), if_pos (show iz (-1) = -1 by decide)]
      exact P2_mono (loop c m h C1) (fun _ c' _ m' e => EJQ.eq e)
    · obtain ⟨u, rfl⟩ : ∃ u : Nat, o = (u : Int) := ⟨o.toNat, by omega⟩
      rw [if_neg (show ¬ iz (u : Int) = -1 from fun y => by
        rw [show (-1 : Int32) = iz (-1) by decide, iz_inj (by omega) (by omega) (by omega) (by omega)] at y; omega), ← nI_iz, ix_in (j := u) (nI_pos (by omega)) (nI_clamp (by omega)) (by omega), decide_eq_true (show 0 ≤ (u : Int) ∧ (u : Int) < 16 by omega), Bool.true_and, show ((u : Int)).toNat = u from rfl]
      obtain ⟨a, b, x1, x2, x3⟩ := h.mc.s u (by omega)
      rw [x1]
      cases a
      · rw [if_pos (show cI (decide (cI false = 1)) = 0 from rfl), if_pos (show cI false = 0 from rfl)]
        exact P2_mono (loop c m h C1) (fun _ c' _ m' e => EJQ.eq e)
      · rw [if_neg (show ¬ cI (decide (cI true = 1)) = 0 by decide), if_neg (show ¬ cI true = 0 by decide), h.d1, h.d2]
        by_cases q3 : 3 ≤ d
        · have := h.d3
          rw [if_pos (show (3 : Int32) ≤ nI d from nI_le (a := 3) q3 (by omega)), if_pos (show (3 : Int32) ≤ nI d from nI_le (a := 3) q3 (by omega))]
          exact P2_mono (loop c m h C1) (fun _ c' _ m' e => EJQ.eq e)
        · rw [if_neg (show ¬ (3 : Int32) ≤ nI d from nI_ge (b := 3) (by omega) (by omega)), if_neg (show ¬ (3 : Int32) ≤ nI d from nI_ge (b := 3) (by omega) (by omega))]
          -- into the overlay
          obtain ⟨f, r, c1, c2, f1, f2, r1, r2, y1, y2, y3, y4, y5, y6, y7, y8⟩ := c_into h.ev h.eb
          obtain ⟨m1, w1, w2, w3⟩ := m_save (m := m) (a := 4) (by omega)
          have w1' : f_X12_save 4 m = some ((), m1) := w1
          have e01 : gA m1 134 = gA m 134 := w2.a rfl
          obtain ⟨m2, v1, v2, v3⟩ := m_reset9 (m := m1) f2 r2
          have r0 : f_X12_reset (gA m1 134 0) (gA m1 134 1) m1 = some ((), m2) := by rw [e01, f1, r1]; exact v1
          rw [y1, bd_eq, y2, bd_eq, lb_eq, y6, o1, ← nI_iz, w1', bd_eq, r0, bd_eq, lb_eq]
          have fm3 : Fr m2F m2A m (uI m2 1231 133 1) := ((w2.weak (fun _ _ _ => rfl) (fun a e => by unfold m2A at e; revert e; simp)).trans (v2.weak (fun _ _ _ => rfl) (fun a e => by unfold m2A at e; unfold meA; revert e; simp; intro a b; exact fun z => absurd z a))).uI _ (by rfl)
          have e3 : ∀ k, k < 192 → gA (uI m2 1231 133 1) 134 k = gE f r k := v3
          have rr3 : RR d true (uI c2 915 23 1) (uI m2 1231 133 1) := h.env2 (y3.weak (fun _ _ e => e1_2 e) (fun _ e => e1a_2 e)) fm3 (y4.congr e3) ((gE_b f2 r2).congr e3) (by rw [e3 0 (by omega), f1]; rfl) (by rw [e3 1 (by omega), r1]; rfl) (by rw [gI_uI, if_pos ⟨rfl, rfl⟩]; rfl) (by rw [gI_uI, if_pos ⟨rfl, rfl⟩]; rfl)
          have s148 : gA (uI m2 1231 133 1) 148 u = 1 := by rw [fm3.a (by rfl), x1]; rfl
          refine P2_bd (gs.a _ _ true u rr3 (by omega) (by omega) s148) ?_
          rintro _ c4 _ m4 ⟨q1, q2, q4⟩
          have q4' := q4 rfl
          have ev4 : EVq c4 54 (gA m 134) := y5.fr q2.fc (fun f i a b => by unfold skF; simp; omega) (fun i a b => by unfold skA; simp; omega)
          obtain ⟨c6, z1, z2, z3, z4, z5, z6⟩ := c_out ev4 h.eb
          have F6 : Fr (noF d) (skA d false) c c6 := ((y3.weak (fun _ _ e => sk_e1 e) (fun _ e => ska_e1 e)).trans (q2.fc.weak (fun _ _ e => sk_t e) (fun _ e => ska_t e))).trans (z2.weak (fun _ _ e => sk_e1 e) (fun _ e => ska_e1 e))
          have F7 : Fr (skF d false) (skA d false) c c6 := Fr.fix F6 (by rw [z4, h.o1]; rfl) (by rw [z5, q2.fc.j (by unfold skF; simp; omega), y7]) (by rw [z6, q2.fc.r (by unfold skF; simp; omega), y8])
          rw [lb_eq, z1, bd_eq, lb_eq]
          -- the reference's frames
          have M5 : Fr (fun f i => mkF f i || (f == 1231 && i == 133)) mkA m (uI m4 1231 133 0) := ((fm3.weak (fun f i e => by unfold m2F; rw [Bool.or_eq_false_iff] at e; rw [Bool.and_comm]; exact e.2) (fun a e => by
            cases y : m2A a
            · rfl
            · unfold m2A at y
              rcases (show a = 134 ∨ a = 135 by simpa using y) with rfl | rfl <;> exact absurd e (by decide))).trans (q2.fm.weak (fun f i e => (Bool.or_eq_false_iff.mp e).1) (fun _ e => e))).uI _ (by simp)
          have p52 : (gI (uI m4 1231 133 0) 1252 133 = gI m 1252 133 ∨ gI (uI m4 1231 133 0) 1252 133 = 0) ∧ gI (uI m4 1231 133 0) 1227 133 = gI m 1227 133 := by
            rw [gI_uI, if_neg (by decide), gI_uI, if_neg (by decide)]
            refine ⟨?_, q2.p4.2.trans (fm3.i (by rfl))⟩
            rcases q2.p4.1 with e | e
            · exact Or.inl (e.trans (fm3.i (by rfl)))
            · exact Or.inr e
          have p35 : ∀ j, j < 192 * d + 192 → gA m4 135 j = gA m 135 j := fun j hj => by
            rw [q2.p1 j hj]
            show gA m2 135 j = _
            rw [v2.a (show meA 135 = false from rfl), w3, if_neg (by omega)]
          have p56 : ∀ j, j < 1500 * d → gA m4 156 j = gA m 156 j := fun j hj => by
            rw [q2.p3 j hj]
            show gA m2 156 j = _
            rw [v2.a (show meA 156 = false from rfl), w2.a rfl]
          rcases q1 with rr4 | mu4
          · have n0 : gI (uI m4 1231 133 0) 1233 133 = 0 := by rw [gI_uI, if_neg (by decide)]; exact rr4.sh.z.2
            obtain ⟨m6, t1, t2, t3⟩ := m_back (m := uI m4 1231 133 0) (a := 4) (by omega)
            have t1' : f_X12_back 4 (uI m4 1231 133 0) = some ((), m6) := t1
            have t4 : ∀ j, j < 192 → gA m6 134 j = gA m 134 j := fun j hj => by
              rw [t3 j hj]
              show gA m4 135 (192 * 4 + j) = _
              rw [q2.p2 rfl _ (by omega)]
              show gA m2 135 (192 * 4 + j) = _
              rw [v2.a (show meA 135 = false from rfl), w3, if_pos (by omega), show 192 * 4 + j - 192 * 4 = j by omega]
            rw [if_pos n0, t1', bd_eq]
            have fm6 : Fr m2F m2A m4 m6 := (Fr.refl.uI _ (by rfl)).trans (t2.weak (fun _ _ _ => rfl) (fun a e => by unfold m2A at e; unfold meA; revert e; simp; intro a b; exact fun z => absurd z a))
            have rr6 : RR d false c6 m6 := rr4.env2 (z2.weak (fun _ _ e => e1_2 e) (fun _ e => e1a_2 e)) fm6 (z3.congr t4) (h.eb.congr t4) (by rw [t4 0 (by omega), q4'.1, e3 0 (by omega), f1]; rfl) (by rw [t4 1 (by omega), q4'.2, e3 1 (by omega), r1]; rfl) z4 (by rw [t2.i rfl, gI_uI, if_pos ⟨rfl, rfl⟩]; rfl)
            have M6 : Fr mkF mkA m m6 := Fr.fix (M5.trans (t2.weak (fun _ _ _ => rfl) (fun a e => by
              cases y : meA a
              · rfl
              · unfold meA at y
                have : a = 134 := by simpa using y
                subst this; exact absurd e (by decide)))) (by rw [t2.i rfl, gI_uI, if_pos ⟨rfl, rfl⟩, h.o2]; rfl) (by rw [t2.j rfl]; show gJ m4 1231 133 = _; rw [q2.fm.j (by rfl)]; show gJ m2 1231 133 = _; rw [v2.j rfl, w2.j rfl]) (by rw [t2.r rfl]; show gR m4 1231 133 = _; rw [q2.fm.r (by rfl)]; show gR m2 1231 133 = _; rw [v2.r rfl, w2.r rfl])
            have kp6 : KP d false c m c6 m6 := KP_mk F7 M6 (fun j hj => by rw [t2.a (show meA 135 = false from rfl)]; exact p35 j hj) (fun e => by cases e) (fun j hj => by rw [t2.a (show meA 156 = false from rfl)]; exact p56 j hj) ⟨by rw [t2.i rfl]; exact p52.1, by rw [t2.i rfl]; exact p52.2⟩
            refine P2_mono (loop c6 m6 rr6 (by rw [t4 8 (by omega)]; exact C1)) ?_
            intro _ c' _ m' e
            obtain ⟨⟨u1, u2, u3⟩, u4⟩ := e.eq
            exact ⟨⟨u1, kp6.trans u2, fun z => by cases z⟩, u4⟩
          · have n1 : ¬ gI (uI m4 1231 133 0) 1233 133 = 0 := by rw [gI_uI, if_neg (by decide), mu4.m1]; decide
            rw [if_neg n1]
            have mu6 : MU d false c6 (uI m4 1231 133 0) := mu4.env2 (z2.weak (fun _ _ e => e1_2 e) (fun _ e => e1a_2 e)) (Fr.refl.uI (PF := m2F) (PA := m2A) _ (by rfl)) ⟨_, z3, h.eb⟩ z4
            obtain ⟨_, c7, s1, s2⟩ := u_clear mu6
            have ec : f_X9_eject_l115 Gc FU 0 c6 = some ((), c7) := by
              rw [show FU = 3999999999 + 1 from rfl]
              show f_X9_eject_b115 Gc (f_X9_eject_l115 Gc 3999999999) 0 c6 = _
              unfold f_X9_eject_b115
              rw [mu6.wc.mu, bd_eq, if_neg (show ¬ (1 : Int32) = 0 by decide), s1, bd_eq]
              split <;> rfl
            rw [ec]
            have M6 : Fr mkF mkA m (uI m4 1231 133 0) := Fr.fix M5 (by rw [gI_uI, if_pos ⟨rfl, rfl⟩, h.o2]; rfl) (by show gJ m4 1231 133 = _; rw [q2.fm.j (by rfl)]; show gJ m2 1231 133 = _; rw [v2.j rfl, w2.j rfl]) (by show gR m4 1231 133 = _; rw [q2.fm.r (by rfl)]; show gR m2 1231 133 = _; rw [v2.r rfl, w2.r rfl])
            refine P2_ret ⟨⟨Or.inr s2.1, KP_mk (F7.trans s2.2) M6 p35 (fun e => by cases e) p56 p52, fun z => by cases z⟩, fun _ rr => ?_⟩
            have := rr.sh.z.2
            rw [s2.1.m1] at this
            exact absurd this (by decide)
  · rw [if_neg (by decide), if_neg (by decide)]
    exact P2_ret ⟨⟨Or.inl h, KP.refl, fun _ => ⟨rfl, rfl⟩⟩, fun e => (by cases e)⟩
end B9
