/-! A macro is called, on both sides. -/
def kwF (d : Nat) (ov : Bool) (f i : Nat) : Bool := skF d ov f i || (decide (98 + 9 * d ≤ i) && decide (i < 107 + 9 * d) && decide (i < 125))
def kwA (d : Nat) (ov : Bool) (a : Nat) : Bool := skA d ov a || (decide (98 + 9 * d ≤ a) && decide (a < 107 + 9 * d) && decide (a < 125))
def KW (d : Nat) (ov : Bool) (c m c' m' : Mm) : Prop := (Fr (kwF d ov) (kwA d ov) c c') ∧ (Fr mkF mkA m m') ∧ (∀ j, j < 192 * d → gA m' 135 j = gA m 135 j) ∧ (ov = true → ∀ j, 768 ≤ j → gA m' 135 j = gA m 135 j) ∧ (∀ j, j < 1500 * d → gA m' 156 j = gA m 156 j) ∧ ((gI m' 1252 133 = gI m 1252 133 ∨ gI m' 1252 133 = 0) ∧ gI m' 1227 133 = gI m 1227 133)
def OW (d : Nat) (ov : Bool) (c m c' m' : Mm) : Prop := (RR d ov c' m' ∨ MU d ov c' m') ∧ KW d ov c m c' m' ∧ (ov = true → gA m' 134 0 = gA m 134 0 ∧ gA m' 134 1 = gA m 134 1)
section E7
variable {c c' c0 c1 c2 c3 m m' m0 m1 m2 m3 T : Mm} {d w b : Nat} {ov ov' ng sg : Bool} {g L : Nat → Int32} {Gc Gm : Gty} {PF QF : Nat → Nat → Bool} {PA QA : Nat → Bool}
theorem KP.kw (h : KP d ov c m c' m') : KW d ov c m c' m' := ⟨h.fc.weak (fun f i e => (Bool.or_eq_false_iff.mp e).1) (fun a e => (Bool.or_eq_false_iff.mp e).1), h.fm, fun j hj => h.p1 j (by omega), h.p2, h.p3, h.p4⟩
theorem OU.ow (h : OU d ov c m c' m') : OW d ov c m c' m' := ⟨h.1, h.2.1.kw, h.2.2⟩
theorem KW.trans (h : KW d ov c m c1 m1) (h2 : KW d ov c1 m1 c2 m2) : KW d ov c m c2 m2 := ⟨h.1.trans h2.1, h.2.1.trans h2.2.1, fun j hj => (h2.2.2.1 j hj).trans (h.2.2.1 j hj), fun e j hj => (h2.2.2.2.1 e j hj).trans (h.2.2.2.1 e j hj), fun j hj => (h2.2.2.2.2.1 j hj).trans (h.2.2.2.2.1 j hj), ⟨by
  rcases h2.2.2.2.2.2.1 with e | e
  · rcases h.2.2.2.2.2.1 with e2 | e2
    · exact Or.inl (e.trans e2)
    · exact Or.inr (e.trans e2)
  · exact Or.inr e, h2.2.2.2.2.2.2.trans h.2.2.2.2.2.2⟩⟩
theorem OW.pre (k : KW d ov c m c1 m1) (p : ov = true → gA m1 134 0 = gA m 134 0 ∧ gA m1 134 1 = gA m 134 1) (h : OW d ov c1 m1 c' m') : OW d ov c m c' m' := ⟨h.1, k.trans h.2.1, fun z => ⟨(h.2.2 z).1.trans (p z).1, (h.2.2 z).2.trans (p z).2⟩⟩
theorem sk_9 {d : Nat} {ov : Bool} {f i : Nat} (hd : d < 3) (h1 : 98 + 9 * d ≤ i) (h2 : i ≤ 98 + 9 * d + 8) : skF d ov f i = false ∧ skA d ov i = false := by
  constructor
  · unfold skF; simp; omega
  · unfold skA; simp; omega
/-- the environment that was kept comes back -/
theorem c_back9 (hd : d < 3) (ev : EVq c (98 + 9 * d) g) (eb : EB g) : ∃ c', f_X1_copy 45 (98 + 9 * d) c = some ((), c') ∧ Fr eF eA c c' ∧ EVq c' 45 g := by
  obtain ⟨c', e1, e2, e3⟩ := ev.copy (t := 45) eb (by omega)
  exact ⟨c', e1, e2, e3⟩
theorem qq_9 {d f i : Nat} (hd : d < 3) (e : qqF f i = true) : enF (98 + 9 * d) f i = false := by
  unfold qqF at e; unfold enF; revert e; simp; omega
theorem qq_9a {d a : Nat} (hd : d < 3) (e : qqA a = true) : enA (98 + 9 * d) a = false := by
  unfold qqA at e; unfold enA; revert e; simp; omega
theorem P2_back (hd : d < 3) (gs : GS Gc Gm d) (g0b : EB g) (ou : OU d ov c1 m1 c2 m2) (g01 : gA m1 134 0 = g 0 ∧ gA m1 134 1 = g 1) (ev : EVq c1 (98 + 9 * d) g) (sv : ∀ j, j < 192 → gA m1 135 (192 * d + j) = g j) :
    P2 (if (gI c2 700 46) = (gI c2 700 ((98 + 9 * d) + 1)) then (if (gI c2 701 46) = (gI c2 701 ((98 + 9 * d) + 1)) then (f_X9_callMacro_100 Gc (98 + 9 * d) 0 c2) else (f_X9_callMacro_100 Gc (98 + 9 * d) 1 c2)) else (f_X9_callMacro_100 Gc (98 + 9 * d) 1 c2))
      (if (gI m2 1233 133) = 0 then (ix ((nI d * 192) + 0) 960 fun j14 => if (gA m2 134 0) = (gA m2 135 j14) then (ix ((nI d * 192) + 1) 960 fun j18 => if (gA m2 134 1) = (gA m2 135 j18) then (bd (f_X12_back (nI d) m2) fun _ T20 => some ((), T20)) else (bd (f_X12_eject Gm m2) fun _ T21 => bd (f_X12_back (nI d) T21) fun _ T22 => some ((), T22))) else (bd (f_X12_eject Gm m2) fun _ T16 => bd (f_X12_back (nI d) T16) fun _ T17 => some ((), T17))) else (some ((), m2)))
      (fun _ c' _ m' => OU d ov c1 m1 c' m') := by
  have ev2 : EVq c2 (98 + 9 * d) g := ev.fr ou.2.1.fc (fun f i a b => (sk_9 hd a b).1) (fun i a b => (sk_9 (f := 0) hd a b).2)
  have sv2 : ∀ j, j < 192 → gA m2 135 (192 * d + j) = g j := fun j hj => by rw [ou.2.1.p1 _ (by omega)]; exact sv j hj
  have e0 : gI c2 700 ((98 + 9 * d) + 1) = g 0 := ev2.i (700, 1, 0) (by decide)
  have e1 : gI c2 701 ((98 + 9 * d) + 1) = g 1 := ev2.i (701, 1, 1) (by decide)
  have i0 : ∀ {α : Type} (K : Nat → Option α), ix ((nI d * 192) + 0) 960 K = K (192 * d) := fun K => by
    rw [show nI d * 192 = nI (d * 192) from pk_mul d 192, show nI (d * 192) + 0 = nI (d * 192) by simp, ix_in (j := 192 * d) (nI_pos (by omega)) (by rw [nI_clamp (by omega)]; omega) (by omega)]
  have i1 : ∀ {α : Type} (K : Nat → Option α), ix ((nI d * 192) + 1) 960 K = K (192 * d + 1) := fun K => by
    rw [show nI d * 192 = nI (d * 192) from pk_mul d 192, show nI (d * 192) + 1 = nI (d * 192 + 1) from nI_add _ 1, ix_in (j := 192 * d + 1) (nI_pos (by omega)) (by rw [nI_clamp (by omega)]; omega) (by omega)]
  rw [e0, e1]
  have c100 : ∀ T, f_X9_callMacro_100 Gc (98 + 9 * d) 0 T = f_X1_copy 45 (98 + 9 * d) T := fun T => by
    unfold f_X9_callMacro_100
    rw [if_pos rfl, bd_u]
  have c101 : ∀ T, f_X9_callMacro_100 Gc (98 + 9 * d) 1 T = bd (f_X9_eject Gc T) fun _ T2 => f_X1_copy 45 (98 + 9 * d) T2 := fun T => by
    unfold f_X9_callMacro_100
    rw [if_neg (by decide)]
    congr 1
    funext _ T2
    rw [bd_u]
  -- the environments come back, not turned
  have same : RR d ov c2 m2 → gA m2 134 0 = g 0 → gA m2 134 1 = g 1 → P2 (f_X1_copy 45 (98 + 9 * d) c2) (bd (f_X12_back (nI d) m2) fun _ T20 => some ((), T20)) (fun _ c' _ m' => OU d ov c1 m1 c' m') := fun rr z0 z1 => by
    obtain ⟨c3, x1, x2, x3⟩ := c_back9 hd ev2 g0b
    obtain ⟨m3, y1, y2, y3⟩ := m_back (m := m2) (a := d) (by omega)
    have ye : ∀ j, j < 192 → gA m3 134 j = g j := fun j hj => (y3 j hj).trans (sv2 j hj)
    rw [x1, y1, bd_eq]
    have q0 : gA m3 134 0 = gA m2 134 0 := (ye 0 (by omega)).trans z0.symm
    have q1 : gA m3 134 1 = gA m2 134 1 := (ye 1 (by omega)).trans z1.symm
    have w2 : Fr nF meA m2 m3 := y2
    exact P2_ret (OU.pre ou.2.1 ou.2.2 (OU.env rr (EP_mk (x3.congr ye) (g0b.congr ye) x2 w2 q0 q1)))
  -- turned
  have turn : RR d ov c2 m2 → (¬ gA m2 134 0 = g 0 ∨ ¬ gA m2 134 1 = g 1) → P2 (bd (f_X9_eject Gc c2) fun _ T2 => f_X1_copy 45 (98 + 9 * d) T2) (bd (f_X12_eject Gm m2) fun _ T21 => bd (f_X12_back (nI d) T21) fun _ T22 => some ((), T22)) (fun _ c' _ m' => OU d ov c1 m1 c' m') := fun rr hz => by
    cases ov with
    | true =>
      have := ou.2.2 rfl
      exact absurd hz (fun z => by
        rcases z with z | z
        · exact z (this.1.trans g01.1)
        · exact z (this.2.trans g01.2))
    | false =>
      refine P2_bd (P2_eject rr gs) ?_
      rintro _ c3 _ m3 ⟨ou3, wh⟩
      have ev3 : EVq c3 (98 + 9 * d) g := ev2.fr ou3.2.1.fc (fun f i a b => (sk_9 hd a b).1) (fun i a b => (sk_9 (f := 0) hd a b).2)
      have sv3 : ∀ j, j < 192 → gA m3 135 (192 * d + j) = g j := fun j hj => by rw [ou3.2.1.p1 _ (by omega)]; exact sv2 j hj
      obtain ⟨c4, x1, x2, x3⟩ := c_back9 hd ev3 g0b
      obtain ⟨m4, y1, y2, y3⟩ := m_back (m := m3) (a := d) (by omega)
      have ye : ∀ j, j < 192 → gA m4 134 j = g j := fun j hj => (y3 j hj).trans (sv3 j hj)
      rw [x1, y1, bd_eq]
      have kp : KP d false c1 m1 c4 m4 := (ou.2.1.trans ou3.2.1).trans (KP.env x2 y2)
      rcases ou3.1 with rr3 | mu3
      · obtain ⟨v, cv⟩ := wh rfl rr3
        exact P2_ret ⟨Or.inl (rr3.newp x2 y2 (x3.congr ye) (g0b.congr ye) cv), kp, fun z => by cases z⟩
      · have q := mu3.env x2 ⟨g, x3, g0b⟩
        exact P2_ret ⟨Or.inr (q.1.menv y2), kp, fun z => by cases z⟩
  rcases ou.1 with rr | mu
  · have f0 : gI c2 700 46 = gA m2 134 0 := rr.ev.i (700, 1, 0) (by decide)
    have f1 : gI c2 701 46 = gA m2 134 1 := rr.ev.i (701, 1, 1) (by decide)
    rw [rr.sh.z.2, if_pos rfl, i0, f0, f1, show gA m2 135 (192 * d) = g 0 from sv2 0 (by omega), i1, show gA m2 135 (192 * d + 1) = g 1 from sv2 1 (by omega), c100, c101]
    by_cases z0 : gA m2 134 0 = g 0
    · rw [if_pos z0, if_pos z0]
      by_cases z1 : gA m2 134 1 = g 1
      · rw [if_pos z1, if_pos z1]; exact same rr z0 z1
      · rw [if_neg z1, if_neg z1]; exact turn rr (Or.inr z1)
    · rw [if_neg z0, if_neg z0]; exact turn rr (Or.inl z0)
  · rw [if_neg (show ¬ gI m2 1233 133 = 0 by rw [mu.m1]; decide), c100, c101]
    have fin : ∀ c3, MUQ d ov c2 m2 c3 → wp (f_X1_copy 45 (98 + 9 * d) c3) (fun _ c' => MUQ d ov c2 m2 c') := fun c3 q => by
      have ev3 : EVq c3 (98 + 9 * d) g := ev2.fr q.2 (fun f i a b => (sk_9 hd a b).1) (fun i a b => (sk_9 (f := 0) hd a b).2)
      obtain ⟨c4, x1, x2, x3⟩ := c_back9 hd ev3 g0b
      rw [x1]
      exact wp_ret (q.trans (q.1.env x2 ⟨g, x3, g0b⟩))
    have ej : wp (bd (f_X9_eject Gc c2) fun _ T2 => f_X1_copy 45 (98 + 9 * d) T2) (fun _ c' => MUQ d ov c2 m2 c') := wp_call (u_eject mu gs) (fun _ c3 q => fin c3 q)
    have al : wp (if (gI c2 700 46) = g 0 then (if (gI c2 701 46) = g 1 then (f_X1_copy 45 (98 + 9 * d) c2) else (bd (f_X9_eject Gc c2) fun _ T2 => f_X1_copy 45 (98 + 9 * d) T2)) else (bd (f_X9_eject Gc c2) fun _ T2 => f_X1_copy 45 (98 + 9 * d) T2)) (fun _ c' => MUQ d ov c2 m2 c') := by
      split
      · split
        · exact fin c2 (MUQ.refl mu)
        · exact ej
      · exact ej
    obtain ⟨_, c4, x1, x2⟩ := al
    rw [x1]
    exact P2_ret (ou.muc x2)
theorem P2_call {u : Nat} (hu : u < 16) (h : RR d ov c m) (gs : GS Gc Gm d) : P2 (f_X9_callMacro Gc (nI u) c) (ix (nI u) 16 fun j9 => if (gA m 148 j9) = 0 then (some ((), m)) else (if 3 ≤ (gI m 1229 133) then (some ((), m)) else (lb ((gI m 1229 133)) fun v11 => bd (f_X12_save v11 m) fun _ T12 => bd (Gm (nI u) T12) fun _ T13 => if (gI T13 1233 133) = 0 then (ix ((v11 * 192) + 0) 960 fun j14 => if (gA T13 134 0) = (gA T13 135 j14) then (ix ((v11 * 192) + 1) 960 fun j18 => if (gA T13 134 1) = (gA T13 135 j18) then (bd (f_X12_back v11 T13) fun _ T20 => some ((), T20)) else (bd (f_X12_eject Gm T13) fun _ T21 => bd (f_X12_back v11 T21) fun _ T22 => some ((), T22))) else (bd (f_X12_eject Gm T13) fun _ T16 => bd (f_X12_back v11 T16) fun _ T17 => some ((), T17))) else (some ((), T13))))) (fun _ c' _ m' => OW d ov c m c' m') := by
  obtain ⟨a, p, s1, s2, s3⟩ := h.mc.s u hu
  have hd3 := h.d3
  unfold f_X9_callMacro
  rw [ix_in (j := u) (nI_pos (by omega)) (nI_clamp (by omega)) (by omega), s1, h.d1, h.d2, if_neg (nI_pos (by omega))]
  by_cases q3 : 3 ≤ d
  · rw [if_pos (show (3 : Int32) ≤ nI d from nI_le (a := 3) q3 (by omega))]
    cases a
    · rw [if_pos (show cI false = 0 from rfl)]; exact P2_ret (OU.refl h).ow
    · rw [if_neg (show ¬ cI true = 0 by decide), if_pos (show (3 : Int32) ≤ nI d from nI_le (a := 3) q3 (by omega))]; exact P2_ret (OU.refl h).ow
  · have hd : d < 3 := by omega
    have n3 : ¬ (3 : Int32) ≤ nI d := nI_ge (b := 3) (by omega) (by omega)
    rw [if_neg n3, ix_in (j := d) (nI_pos (by omega)) (nI_clamp (by omega)) hd, ix_in (j := d) (nI_pos (by omega)) (nI_clamp (by omega)) hd]
    obtain ⟨c1, x1, x2, x3⟩ := h.ev.copy (t := 98 + 9 * d) h.eb (by omega)
    rw [x1, bd_eq]
    have fcw : Fr (kwF d ov) (kwA d ov) c c1 := x2.weak (fun f i e => by
      have := (Bool.or_eq_false_iff.mp e).2
      unfold enF; revert this; simp; omega) (fun a e => by
      have := (Bool.or_eq_false_iff.mp e).2
      unfold enA; revert this; simp; omega)
    cases a
    · -- there is no such macro
      have h1 : RR d ov c1 m := h.frG x2 (Fr.refl (PF := nF) (PA := noA)) (fun f i e => qq_9 hd e) (fun a e => qq_9a hd e) (fun _ _ => rfl) (fun _ _ => rfl)
      have g42 : gA c1 42 u = 0 := by
        rw [x2.a (by unfold enA; simp; omega), s3]; rfl
      have gb := gs.b c1 (u : Int) (by omega) (by omega) h1.d1 (Or.inr (Or.inr g42))
      rw [← nI_iz] at gb
      rw [if_pos (show cI false = 0 from rfl), gb, bd_eq, show gI c1 700 46 = gI c1 700 ((98 + 9 * d) + 1) from (h1.ev.i (700, 1, 0) (by decide)).trans (x3.i (700, 1, 0) (by decide)).symm, if_pos rfl, show gI c1 701 46 = gI c1 701 ((98 + 9 * d) + 1) from (h1.ev.i (701, 1, 1) (by decide)).trans (x3.i (701, 1, 1) (by decide)).symm, if_pos rfl]
      obtain ⟨c2, y1, y2, y3⟩ := c_back9 hd x3 h.eb
      have c100 : f_X9_callMacro_100 Gc (98 + 9 * d) 0 c1 = some ((), c2) := by
        unfold f_X9_callMacro_100
        rw [if_pos rfl, bd_u, y1]
      rw [c100]
      exact P2_ret (OW.pre ⟨fcw, Fr.refl, fun _ _ => rfl, fun _ _ _ => rfl, fun _ _ => rfl, ⟨Or.inl rfl, rfl⟩⟩ (fun _ => ⟨rfl, rfl⟩) (OU.env h1 (EP_mk y3 h.eb y2 Fr.refl rfl rfl)).ow)
    · rw [if_neg (show ¬ cI true = 0 by decide), if_neg n3, lb_eq]
      obtain ⟨m1, w1, w2, w3⟩ := m_save (m := m) (a := d) (by omega)
      have e34 : gA m1 134 = gA m 134 := w2.a rfl
      have h1 : RR d ov c1 m1 := h.frG x2 w2 (fun f i e => qq_9 hd e) (fun a e => qq_9a hd e) (fun _ _ => rfl) (fun a e => by
        cases q : (a == 135)
        · rfl
        · have : a = 135 := by simpa using q
          subst this
          unfold qqN at e; simp at e)
      have kw : KW d ov c m c1 m1 := ⟨fcw, w2.weak (fun _ _ _ => rfl) (fun a e => by
        cases q : (a == 135)
        · rfl
        · have : a = 135 := by simpa using q
          subst this
          exact absurd e (by decide)), fun j hj => by rw [w3, if_neg (by omega)], fun _ j hj => by rw [w3, if_neg (by omega)], fun j _ => by rw [w2.a rfl], ⟨Or.inl (w2.i rfl), w2.i rfl⟩⟩
      rw [w1, bd_eq]
      refine P2_bd (gs.a c1 m1 ov u h1 hd hu (by rw [w2.a rfl, s1]; rfl)) ?_
      intro _ c2 _ m2 ou
      refine P2_mono (P2_back (g := gA m 134) hd gs h.eb ou ⟨by rw [e34], by rw [e34]⟩ x3 (fun j hj => by rw [w3, if_pos (by omega), show 192 * d + j - 192 * d = j by omega])) ?_
      intro _ c3 _ m3 q
      exact OW.pre kw (fun _ => ⟨by rw [e34], by rw [e34]⟩) q.ow
end E7
