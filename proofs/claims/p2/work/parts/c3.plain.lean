/-! A code that stands alone, on both sides (all but 27). -/
section C3
variable {c c' c0 c1 c2 m m' m0 m1 m2 T : Mm} {d : Nat} {ov ov' : Bool} {g L : Nat → Int32} {Gc Gm : Gty}
theorem bd_as {α β γ : Type} (a : Option (α × Mm)) (f : α → Mm → Option (β × Mm)) (k : β → Mm → Option (γ × Mm)) : bd (bd a f) k = bd a (fun x T => bd (f x T) k) := by cases a <;> rfl
theorem bd_ret {α : Type} (a : Option (α × Mm)) : bd a (fun x T => some (x, T)) = a := by cases a <;> rfl
theorem bd_u (a : Option (Unit × Mm)) : bd a (fun _ T => some ((), T)) = a := by cases a <;> rfl
/-- the reference's own write where there is much -/
theorem m_setA {z : Int} (h1 : -4611686018427387904 ≤ z) (h2 : z < 4611686018427387904) : ∃ m', f_X12_setX (jz z) m = some ((), m') ∧ Fr nF meA m m' ∧ gA m' 134 0 = gA m 134 0 ∧ gA m' 134 1 = gA m 134 1 := ⟨_, m_setX h1 h2, Fr.refl.uA _ _ (by rfl), by rw [gA_wr, wr_o _ (by decide)], by rw [gA_wr, wr_o _ (by decide)]⟩
theorem m_cr (m : Mm) : ∃ m', f_X12_setX ((gA m 134 2).toInt64) m = some ((), m') ∧ Fr nF meA m m' ∧ gA m' 134 0 = gA m 134 0 ∧ gA m' 134 1 = gA m 134 1 := by
  obtain ⟨z, e, z1, z2⟩ := iz_ex (gA m 134 2)
  rw [e, iz_long z1 z2]
  exact m_setA (by omega) (by omega)
theorem MU.set (h : MU d ov c m) {f o k : Nat} (hm : (f, o, k) ∈ plnT) (ho : o ≤ 8) (hk : k ≠ 55 ∧ k ≠ 56 ∧ k ≠ 57 ∧ k ≠ 59 ∧ k ≠ 0 ∧ k ≠ 1 ∧ k ≠ 189) (v : Int32) (h1 : lo k ≤ v.toInt) (h2 : v.toInt ≤ hi k) : MUQ d ov c m (uI c f (45 + o) v) := by
  obtain ⟨g, ev, eb⟩ := h.wc.ev
  exact h.env (Fr.refl.uI _ (by unfold eF; simp; omega)) ⟨_, ev.setI hm v, eb.set hk v h1 h2⟩
/-- the carriage goes back -/
theorem two_cr (h : RR d ov c m) : ∃ c' m', f_X9_carriageReturn c = some ((), c') ∧ f_X12_setX ((gA m 134 2).toInt64) m = some ((), m') ∧ EP c m c' m' := by
  obtain ⟨l, l1, l2⟩ := h.eb.k2
  obtain ⟨c2, m2, s1, s2, s3, _⟩ := mx (z := (l : Int)) h.ev h.eb (by omega) (by omega)
  refine ⟨c2, m2, ?_, ?_, s3⟩
  · unfold f_X9_carriageReturn
    rw [show gI c 702 46 = nI l from (h.ev.i (702, 1, 2) (by decide)).trans l1, nI_j (by omega), s1, bd_eq]
  · rw [l1, nI_j (by omega), s2]
/-- the next stop of the tab -/
def tbZ (x l b t : Nat) : Nat := if x < l then l else max x (min (l + ((x - l) / (8 * t) + 1) * (8 * t)) b)
theorem tb_le {x l b t : Nat} (hx : x ≤ 76800) (hl : l ≤ 76800) (hb : b ≤ 76800) : tbZ x l b t ≤ 76800 := by
  unfold tbZ; split <;> omega
theorem tb_v {x l t : Nat} (hx : x ≤ 76800) (ht : t ≤ 32000) : (x - l) / (8 * t) * (8 * t) ≤ 76800 := Nat.le_trans (Nat.div_mul_le_self _ _) (by omega)
theorem c_tab {x l b t : Nat} (e2 : gI c 702 46 = nI l) (e3 : gI c 703 46 = nI b) (e6 : gI c 706 46 = nI x) (e9 : gI c 709 46 = nI t) (hx : x ≤ 76800) (hl : l ≤ 76800) (hb : b ≤ 76800) (ht : t ≤ 32000) : f_X7_tab 46 c = if l ≤ x ∧ t = 0 then some ((), c) else f_X7_moveX 46 (jz (tbZ x l b t : Nat)) c := by
  unfold f_X7_tab tbZ
  rw [e2, e3, e6, e9, show (8 : Int32) * nI t = nI (8 * t) from pk_mul 8 t, lb_eq]
  by_cases q : l ≤ x
  · rw [if_pos (nI_le q (by omega)), if_neg (show ¬ x < l by omega)]
    by_cases z : t = 0
    · rw [if_pos (show nI (8 * t) ≤ 0 by rw [z]; decide), if_pos ⟨q, z⟩]
    · have v := tb_v (l := l) hx ht
      rw [if_neg (show ¬ (l ≤ x ∧ t = 0) from fun y => z y.2), if_neg (show ¬ nI (8 * t) ≤ 0 from (show ¬ nI (8 * t) ≤ nI 0 from nI_ge (by omega) (by omega))), gd_eq (show ¬ nI (8 * t) = 0 from nI_ne0 (by omega) (by omega)), pk_sub q, pk_div (by omega) (by omega) (by omega), show (1 : Int32) = nI 1 from rfl, nI_add, pk_mul, nI_add, lb_eq, f_min, bd_eq]
      have e : (if nI b < nI (l + ((x - l) / (8 * t) + 1) * (8 * t)) then nI b else nI (l + ((x - l) / (8 * t) + 1) * (8 * t))) = nI (min (l + ((x - l) / (8 * t) + 1) * (8 * t)) b) := by
        have := Nat.add_mul ((x - l) / (8 * t)) 1 (8 * t)
        by_cases w : b < l + ((x - l) / (8 * t) + 1) * (8 * t)
        · rw [if_pos (nI_lt w (by omega)), Nat.min_eq_right (by omega)]
        · rw [if_neg (nI_nlt (by omega) (by omega)), Nat.min_eq_left (by omega)]
      rw [e, f_max, bd_eq]
      have e' : (if nI x < nI (min (l + ((x - l) / (8 * t) + 1) * (8 * t)) b) then nI (min (l + ((x - l) / (8 * t) + 1) * (8 * t)) b) else nI x) = nI (max x (min (l + ((x - l) / (8 * t) + 1) * (8 * t)) b)) := by
        by_cases w : x < min (l + ((x - l) / (8 * t) + 1) * (8 * t)) b
        · rw [if_pos (nI_lt w (by omega)), Nat.max_eq_right (by omega)]
        · rw [if_neg (nI_nlt (by omega) (by omega)), Nat.max_eq_left (by omega)]
      rw [e', nI_j (by omega), bd_u]
  · rw [if_neg (nI_ge (by omega) (by omega)), if_neg (fun y => q y.1), if_pos (show x < l by omega), nI_j (by omega), bd_u]
theorem two_tab (h : RR d ov c m) : ∃ c' m', f_X7_tab 46 c = some ((), c') ∧ f_X12_tab m = some ((), m') ∧ EP c m c' m' := by
  obtain ⟨l, l1, l2⟩ := h.eb.k2
  obtain ⟨b, b1, b2⟩ := h.eb.k3
  obtain ⟨t, t1, t2⟩ := h.eb.k7
  obtain ⟨x, x1, x2⟩ := h.eb.k189
  have hz := tb_le (x := x) (l := l) (b := b) (t := t) x2 l2 b2
  rw [c_tab ((h.ev.i (702, 1, 2) (by decide)).trans l1) ((h.ev.i (703, 1, 3) (by decide)).trans b1) ((h.ev.i (706, 1, 189) (by decide)).trans x1) ((h.ev.i (709, 1, 7) (by decide)).trans t1) x2 l2 b2 t2]
  unfold f_X12_tab
  rw [l1, x1, t1, b1, nI_j (by omega), show (8 : Int64) = jz 8 from rfl, jz_mul, lb_eq, show (8 : Int) * (t : Int) = ((8 * t : Nat) : Int) by omega]
  by_cases q : l ≤ x
  · rw [if_pos (nI_le q (by omega))]
    by_cases z : t = 0
    · rw [if_pos ⟨q, z⟩, if_pos (show lg_cmp (jz ((8 * t : Nat) : Int)) 0 = 0 by rw [z]; decide)]
      exact ⟨c, m, rfl, rfl, EP.refl h.ev h.eb⟩
    · have v := tb_v (l := l) x2 t2
      have := Nat.add_mul ((x - l) / (8 * t)) 1 (8 * t)
      have nz : ¬ jz ((8 * t : Nat) : Int) = 0 := fun y => by
        have := (jz_inj (a := ((8 * t : Nat) : Int)) (b := 0) (by omega) (by omega) (by omega) (by omega)).mp y
        omega
      have n0 : ¬ lg_cmp (jz ((8 * t : Nat) : Int)) 0 = 0 := fun y => by
        have a1 : lg_cmp (jz ((8 * t : Nat) : Int)) 0 ≤ 0 := by rw [y]; decide
        rw [c_le, show (0 : Int64) = jz 0 from rfl, jz_le (by omega) (by omega) (by omega) (by omega)] at a1
        omega
      have dv : jz ((x - l : Nat) : Int) / jz ((8 * t : Nat) : Int) = jz (((x - l) / (8 * t) : Nat) : Int) := by
        rw [jz_div (by omega) (by omega) (by omega) (by omega), show ((x - l : Nat) : Int).tdiv ((8 * t : Nat) : Int) = (((x - l) / (8 * t) : Nat) : Int) from (Int.ofNat_tdiv _ _)]
      rw [if_neg (fun y => z y.2), if_neg n0, gd_eq nz, pk_sub q, nI_j (by omega), nI_j (by omega), nI_j (by omega), dv, show (1 : Int64) = jz 1 from rfl, jz_add, jz_mul, jz_add, lb_eq, lb_eq, show (l : Int) + ((((x - l) / (8 * t) : Nat) : Int) + 1) * ((8 * t : Nat) : Int) = ((l + ((x - l) / (8 * t) + 1) * (8 * t) : Nat) : Int) by push_cast; rfl]
      have fin : ∀ w : Nat, w = min (l + ((x - l) / (8 * t) + 1) * (8 * t)) b → ∃ c' m', f_X7_moveX 46 (jz (tbZ x l b t : Nat)) c = some ((), c') ∧ f_X12_tab_100 (jz (w : Int)) m = some ((), m') ∧ EP c m c' m' := fun w hw => by
        unfold f_X12_tab_100
        rw [x1, nI_j (by omega)]
        have eq : lg_cmp (jz (w : Int)) (jz (x : Int)) ≤ 0 ↔ w ≤ x := by
          rw [c_le, jz_le (by omega) (by omega) (by omega) (by omega)]; omega
        by_cases p : w ≤ x
        · have ez : tbZ x l b t = x := by unfold tbZ; rw [if_neg (by omega), ← hw]; omega
          have ex := h.eb.x
          rw [x1, nI_iz, iz_int (by omega) (by omega)] at ex
          rw [ez, if_pos (eq.mpr p), c_moveX (h.ev.sf h.eb) (by omega) (by omega), clp_id (by omega) (by omega), ← nI_iz]
          refine ⟨_, m, rfl, rfl, EP_mk ?_ h.eb (Fr.refl.uI _ (by rfl)) Fr.refl rfl rfl⟩
          have q9 := h.ev.setI (f := 706) (o := 1) (k := 189) (by decide) (nI x)
          refine q9.congr (fun k _ => ?_)
          by_cases kk : k = 189
          · subst kk; rw [wr_s, x1]
          · rw [wr_o _ kk]
        · have ez : tbZ x l b t = w := by unfold tbZ; rw [if_neg (by omega), ← hw]; omega
          rw [ez, if_neg (fun y => p (eq.mp y)), bd_u]
          obtain ⟨c2, m2, s1, s2, s3, _⟩ := mx (z := (w : Int)) h.ev h.eb (by omega) (by omega)
          exact ⟨c2, m2, s1, s2, s3⟩
      by_cases w : l + ((x - l) / (8 * t) + 1) * (8 * t) ≤ b
      · rw [if_pos (by rw [c_le, jz_le (by omega) (by omega) (by omega) (by omega)]; omega)]
        exact fin _ (by rw [Nat.min_eq_left w])
      · rw [if_neg (fun y => w (by rw [c_le, jz_le (by omega) (by omega) (by omega) (by omega)] at y; omega))]
        exact fin _ (by rw [Nat.min_eq_right (by omega)])
  · rw [if_neg (fun y => q y.1), if_neg (nI_ge (by omega) (by omega)), show tbZ x l b t = l by unfold tbZ; rw [if_pos (by omega)], nI_j (by omega), bd_u]
    obtain ⟨c2, m2, s1, s2, s3, _⟩ := mx (z := (l : Int)) h.ev h.eb (by omega) (by omega)
    exact ⟨c2, m2, s1, s2, s3⟩
theorem u_tab (h : MU d ov c m) : wp (f_X7_tab 46 c) (fun _ c' => MUQ d ov c m c') := by
  obtain ⟨g, ev, eb⟩ := h.wc.ev
  obtain ⟨l, l1, l2⟩ := eb.k2
  obtain ⟨b, b1, b2⟩ := eb.k3
  obtain ⟨t, t1, t2⟩ := eb.k7
  obtain ⟨x, x1, x2⟩ := eb.k189
  have hz := tb_le (x := x) (l := l) (b := b) (t := t) x2 l2 b2
  rw [c_tab ((ev.i (702, 1, 2) (by decide)).trans l1) ((ev.i (703, 1, 3) (by decide)).trans b1) ((ev.i (706, 1, 189) (by decide)).trans x1) ((ev.i (709, 1, 7) (by decide)).trans t1) x2 l2 b2 t2]
  split
  · exact wp_ret (MUQ.refl h)
  · exact u_moveX h (by omega) (by omega)
/-- the pitch follows the wishes -/
theorem two_pitch (h : RR d ov c m) : ∃ c' m', f_X9_followPitch c = some ((), c') ∧ (bd (f_X12_fontInUse m) fun v4 T5 => ix (((7 : Int32) * v4) + 1) 119 fun j6 => lb (uA T5 134 7 ((gA T5 138 j6))) fun T8 => some ((), T8)) = some ((), m') ∧ OU d ov c m c' m' ∧ RR d ov c' m' := by
  obtain ⟨r, c1, m1, r1, r2, e1, f1, rr1, fc, fm⟩ := use2 h
  have e34 : gA m1 134 = gA m 134 := fm.a rfl
  obtain ⟨p, p1, p2⟩ := nI_lh (b := 32000) (rr1.ft.hp r r1)
  have ep := EP.one rr1.ev rr1.eb (f := 709) (o := 1) (k := 7) (by decide) (by decide) (by decide) (gA m1 138 (7 * r + 1)) (rr1.ft.hp r r1).1 (rr1.ft.hp r r1).2
  have ou := OU.pre (KP.iu (d := d) (ov := ov) fc fm) (fun _ => by rw [e34]; exact ⟨rfl, rfl⟩) (OU.env rr1 ep)
  refine ⟨uI c1 709 46 (gA m1 138 (7 * r + 1)), _, ?_, ?_, ou, rr1.env ep.fc ep.fm ep.v ep.b ep.e0 ep.e1⟩
  · unfold f_X9_followPitch
    rw [e1, show (2 : Int32) = nI 2 from rfl, c_num r1 (by omega), bd_eq, lb_eq, rr1.ft.nm r 2 r1 (by omega)]
    rfl
  · rw [f1, bd_eq, show (7 : Int32) * nI r = nI (7 * r) from pk_mul 7 r, show nI (7 * r) + 1 = nI (7 * r + 1) from nI_add _ 1, ix_in (j := 7 * r + 1) (nI_pos (by omega)) (nI_clamp (by omega)) (by omega), lb_eq]
theorem u_pitch (h : MU d ov c m) : wp (f_X9_followPitch c) (fun _ c' => MUQ d ov c m c') := by
  obtain ⟨g, ev, eb⟩ := h.wc.ev
  obtain ⟨c1, e1, e2, e3, e4⟩ := c_use ev eb h.wc.fk.1 h.wc.ka
  have q := h.iu e2 e3
  have b := q.1.wc.fk.2.1 _ e4
  unfold f_X9_followPitch
  rw [e1, show (2 : Int32) = nI 2 from rfl, c_num e4 (by omega), bd_eq, lb_eq]
  exact wp_ret (q.trans (q.1.set (f := 709) (o := 1) (k := 7) (by decide) (by decide) (by decide) _ b.1 b.2))
theorem c_oth {p : Int32} (h8 : ¬ p = 8) (h9 : ¬ p = 9) (h10 : ¬ p = 10) (h12 : ¬ p = 12) (h13 : ¬ p = 13) (h14 : ¬ p = 14) (h15 : ¬ p = 15) (h27 : ¬ p = 27) : f_X9_other Gc p c = if p < 32 then some ((), c) else f_X9_show Gc p c := by
  unfold f_X9_other
  rw [if_neg h8, if_neg h9, if_neg h10]
  simp only [h12, h13, h14, h15, h27, if_false, ite_self, bd_u]
theorem m_oth {p : Int32} (h8 : ¬ p = 8) (h9 : ¬ p = 9) (h10 : ¬ p = 10) (h12 : ¬ p = 12) (h13 : ¬ p = 13) (h14 : ¬ p = 14) (h15 : ¬ p = 15) : f_X12_plain Gm p m = if p < 32 then some ((), m) else f_X12_show Gm p m := by
  unfold f_X12_plain
  rw [if_neg h8, if_neg h9, if_neg h10, if_neg h12, if_neg h13, if_neg h14, if_neg h15, bd_u]
theorem o_8 : f_X9_other Gc 8 c = f_X7_moveX 46 ((gI c 706 46 - gI c 710 46).toInt64) c ∧ f_X12_plain Gm 8 m = f_X12_setX ((gA m 134 189).toInt64 - (gA m 134 188).toInt64) m := by
  unfold f_X9_other f_X12_plain
  rw [if_pos rfl, if_pos (by decide), if_pos rfl, bd_u, bd_u]; exact ⟨rfl, rfl⟩
theorem o_9 : f_X9_other Gc 9 c = f_X7_tab 46 c ∧ f_X12_plain Gm 9 m = f_X12_tab m := by
  unfold f_X9_other f_X12_plain
  rw [if_neg (by decide), if_pos rfl, if_pos (by decide), if_neg (by decide), if_pos rfl, bd_u, bd_u]; exact ⟨rfl, rfl⟩
theorem o_10 : f_X9_other Gc 10 c = (bd (f_X9_line Gc (gI c 708 46) c) fun _ T6 => f_X9_endWithReturn T6) ∧ f_X12_plain Gm 10 m = (bd (f_X12_line Gm (gA m 134 6) m) fun _ T6 => if (gA T6 134 10) < 2 then (some ((), T6)) else f_X12_setX (((gA T6 134 2)).toInt64) T6) := by
  unfold f_X9_other f_X12_plain
  rw [if_neg (by decide), if_neg (by decide), if_pos rfl, if_pos (by decide), if_neg (by decide), if_neg (by decide), if_pos rfl]
  simp only [bd_u]; exact ⟨trivial, trivial⟩
theorem o_12 : f_X9_other Gc 12 c = (bd (f_X9_form Gc c) fun _ T6 => f_X9_endWithReturn T6) ∧ f_X12_plain Gm 12 m = (bd (bd (f_X12_eject Gm m) fun _ T2 => bd (f_X12_homeY T2) fun _ T3 => some ((), T3)) fun _ T6 => if (gA T6 134 10) < 2 then (some ((), T6)) else f_X12_setX (((gA T6 134 2)).toInt64) T6) := by
  unfold f_X9_other f_X12_plain
  rw [if_neg (by decide), if_neg (by decide), if_neg (by decide), if_neg (by decide), if_pos rfl, if_pos (by decide), if_neg (by decide), if_neg (by decide), if_neg (by decide), if_pos rfl]
  simp only [bd_u, bd_as]; exact ⟨trivial, trivial⟩
theorem o_13 : f_X9_other Gc 13 c = (bd (f_X9_carriageReturn c) fun _ T14 => if ((gI T14 108 45) &&& 1) = 0 then (some ((), T14)) else f_X9_line Gc (gI T14 708 46) T14) ∧ f_X12_plain Gm 13 m = (bd (f_X12_setX (((gA m 134 2)).toInt64) m) fun _ T1 => if ((gA T1 134 10) - (gA T1 134 10) / 2 * 2) = 1 then (f_X12_line Gm (gA T1 134 6) T1) else (some ((), T1))) := by
  unfold f_X9_other f_X12_plain
  rw [if_neg (by decide), if_neg (by decide), if_neg (by decide), if_neg (by decide), if_neg (by decide), if_pos rfl, if_pos (by decide), if_neg (by decide), if_neg (by decide), if_neg (by decide), if_neg (by decide), if_pos rfl]
  simp only [bd_u]; exact ⟨trivial, trivial⟩
theorem o_14 {p : Nat} (h : p = 14 ∨ p = 15) : f_X9_other Gc (nI p) c = f_X9_followPitch (uI c 105 45 (cI (decide (p = 14)))) ∧ f_X12_plain Gm (nI p) m = (bd (f_X12_fontInUse (uA m 134 28 (cI (decide (p = 14))))) fun v4 T5 => ix (((7 : Int32) * v4) + 1) 119 fun j6 => lb (uA T5 134 7 ((gA T5 138 j6))) fun T8 => some ((), T8)) := by
  rcases h with rfl | rfl
  · refine ⟨?_, ?_⟩
    · show f_X9_other Gc 14 c = _
      unfold f_X9_other
      rw [if_neg (by decide), if_neg (by decide), if_neg (by decide), if_neg (by decide), if_neg (by decide), if_neg (by decide), if_pos rfl, if_pos rfl, lb_eq, bd_u]; rfl
    · show f_X12_plain Gm 14 m = _
      unfold f_X12_plain f_X12_plain_196 f_X12_plain_213
      rw [if_pos (by decide), if_neg (by decide), if_neg (by decide), if_neg (by decide), if_neg (by decide), if_neg (by decide), if_pos rfl, if_pos rfl, ix_in (j := 28) (by decide) (by decide) (by decide), lb_eq]; rfl
  · refine ⟨?_, ?_⟩
    · show f_X9_other Gc 15 c = _
      unfold f_X9_other
      rw [if_neg (by decide), if_neg (by decide), if_neg (by decide), if_neg (by decide), if_neg (by decide), if_neg (by decide), if_neg (by decide), if_pos rfl, if_neg (by decide), lb_eq, bd_u]; rfl
    · show f_X12_plain Gm 15 m = _
      unfold f_X12_plain f_X12_plain_196 f_X12_plain_213
      rw [if_pos (by decide), if_neg (by decide), if_neg (by decide), if_neg (by decide), if_neg (by decide), if_neg (by decide), if_neg (by decide), if_pos rfl, if_neg (by decide), ix_in (j := 28) (by decide) (by decide) (by decide), lb_eq]; rfl
theorem lf_tab : ∀ f, f < 4 → ((nI f &&& 1 = 0 ↔ ¬ nI f - nI f / 2 * 2 = 1) ∧ (nI f &&& 2 = 0 ↔ nI f < 2)) := by decide
/-- the end of a line or a form -/
theorem P2_ewr (h : OU d ov c m c1 m1) : P2 (f_X9_endWithReturn c1) (if (gA m1 134 10) < 2 then (some ((), m1)) else f_X12_setX (((gA m1 134 2)).toInt64) m1) (fun _ c' _ m' => OU d ov c m c' m') := by
  unfold f_X9_endWithReturn
  rcases h.1 with rr | mu
  · obtain ⟨f, f1, f2⟩ := rr.eb.k10
    have t := (lf_tab f (by omega)).2
    rw [show gI c1 108 45 = nI f from (rr.ev.i (108, 0, 10) (by decide)).trans f1, f1]
    by_cases q : nI f < 2
    · rw [if_pos (t.mpr q), if_pos q]; exact P2_ret h
    · rw [if_neg (fun y => q (t.mp y)), if_neg q, bd_u]
      obtain ⟨c2, m2, e1, e2, e3⟩ := two_cr rr
      rw [e1, e2]
      exact P2_ret (OU.pre h.2.1 h.2.2 (OU.env rr e3))
  · have cc : wp (if gI c1 108 45 &&& 2 = 0 then some ((), c1) else bd (f_X9_carriageReturn c1) fun _ T1 => some ((), T1)) (fun _ c' => MUQ d ov c1 m1 c') := by
      split
      · exact wp_ret (MUQ.refl mu)
      · rw [bd_u]; exact u_cr mu
    obtain ⟨_, c2, e1, e2⟩ := cc
    rw [e1]
    split
    · exact P2_ret (h.muc e2)
    · obtain ⟨m2, s1, s2, s3⟩ := m_cr m1
      rw [s1]
      exact P2_ret ((h.muc e2).mum e2.1 s2 s3)
theorem u_ewr (h : MU d ov c m) : wp (f_X9_endWithReturn c) (fun _ c' => MUQ d ov c m c') := by
  unfold f_X9_endWithReturn
  split
  · exact wp_ret (MUQ.refl h)
  · rw [bd_u]; exact u_cr h
theorem nI_ne {k a : Nat} (hk : k < 256) (ha : a < 256) (h : ¬ k = a) : ¬ nI k = nI a := fun y => h ((nI_eq (by omega) (by omega)).mp y)
theorem P2_plain {k : Nat} (hk : k < 256) (h27 : ¬ k = 27) (h : RR d ov c m) (gs : GS Gc Gm d) : P2 (f_X9_other Gc (nI k) c) (f_X12_plain Gm (nI k) m) (fun _ c' _ m' => OU d ov c m c' m') := by
  obtain ⟨v, v1, v2⟩ := h.eb.k6
  have e708 : gI c 708 46 = nI v := (h.ev.i (708, 1, 6) (by decide)).trans v1
  by_cases q8 : k = 8
  · subst q8
    obtain ⟨x, x1, x2⟩ := h.eb.k189
    obtain ⟨r, r1, r2⟩ := h.eb.k188
    obtain ⟨c2, m2, s1, s2, s3, _⟩ := mx (z := (x : Int) - (r : Int)) h.ev h.eb (by omega) (by omega)
    refine P2_el (show f_X9_other Gc (nI 8) c = _ from o_8 (Gm := Gm) (m := m) |>.1) (P2_er (show f_X12_plain Gm (nI 8) m = _ from o_8 (Gc := Gc) (c := c) |>.2) ?_)
    rw [show gI c 706 46 = nI x from (h.ev.i (706, 1, 189) (by decide)).trans x1, show gI c 710 46 = nI r from (h.ev.i (710, 1, 188) (by decide)).trans r1, x1, r1, nI_iz, nI_iz, iz_sub, iz_long (by omega) (by omega), iz_long (by omega) (by omega), iz_long (by omega) (by omega), jz_sub, s1, s2]
    exact P2_ret (OU.env h s3)
  by_cases q9 : k = 9
  · subst q9
    obtain ⟨c2, m2, s1, s2, s3⟩ := two_tab h
    refine P2_el (show f_X9_other Gc (nI 9) c = _ from o_9 (Gm := Gm) (m := m) |>.1) (P2_er (show f_X12_plain Gm (nI 9) m = _ from o_9 (Gc := Gc) (c := c) |>.2) ?_)
    rw [s1, s2]
    exact P2_ret (OU.env h s3)
  by_cases q10 : k = 10
  · subst q10
    refine P2_el (show f_X9_other Gc (nI 10) c = _ from o_10 (Gm := Gm) (m := m) |>.1) (P2_er (show f_X12_plain Gm (nI 10) m = _ from o_10 (Gc := Gc) (c := c) |>.2) ?_)
    rw [e708, v1]
    exact P2_bd (P2_line v2 h gs) (fun _ c1 _ m1 ou => P2_ewr ou)
  by_cases q12 : k = 12
  · subst q12
    refine P2_el (show f_X9_other Gc (nI 12) c = _ from o_12 (Gm := Gm) (m := m) |>.1) (P2_er (show f_X12_plain Gm (nI 12) m = _ from o_12 (Gc := Gc) (c := c) |>.2) ?_)
    exact P2_bd (P2_form h gs) (fun _ c1 _ m1 ou => P2_ewr ou)
  by_cases q13 : k = 13
  · subst q13
    refine P2_el (show f_X9_other Gc (nI 13) c = _ from o_13 (Gm := Gm) (m := m) |>.1) (P2_er (show f_X12_plain Gm (nI 13) m = _ from o_13 (Gc := Gc) (c := c) |>.2) ?_)
    obtain ⟨c2, m2, e1, e2, e3⟩ := two_cr h
    have rr := h.env e3.fc e3.fm e3.v e3.b e3.e0 e3.e1
    have ou := OU.env h e3
    obtain ⟨f, f1, f2⟩ := rr.eb.k10
    obtain ⟨w, w1, w2⟩ := rr.eb.k6
    have t := (lf_tab f (by omega)).1
    rw [e1, e2, bd_eq, bd_eq, show gI c2 108 45 = nI f from (rr.ev.i (108, 0, 10) (by decide)).trans f1, f1, show gI c2 708 46 = nI w from (rr.ev.i (708, 1, 6) (by decide)).trans w1, w1]
    by_cases q : nI f - nI f / 2 * 2 = 1
    · rw [if_neg (fun y => (t.mp y) q), if_pos q]
      exact P2_mono (P2_line w2 rr gs) (fun _ _ _ _ z => OU.pre ou.2.1 ou.2.2 z)
    · rw [if_pos (t.mpr q), if_neg q]; exact P2_ret ou
  by_cases q14 : k = 14 ∨ k = 15
  · obtain ⟨a1, a2⟩ := o_14 (Gc := Gc) (Gm := Gm) (c := c) (m := m) q14
    refine P2_el a1 (P2_er a2 ?_)
    have ep := EP.one h.ev h.eb (f := 105) (o := 0) (k := 28) (by decide) (by decide) (by decide) (cI (decide (k = 14))) (by cases decide (k = 14) <;> decide) (by cases decide (k = 14) <;> decide)
    obtain ⟨c2, m2, e1, e2, e3, _⟩ := two_pitch (h.env ep.fc ep.fm ep.v ep.b ep.e0 ep.e1)
    have ou := OU.env h ep
    rw [e1, e2]
    exact P2_ret (OU.pre ou.2.1 ou.2.2 e3)
  have w : ∀ a, a < 256 → ¬ k = a → ¬ nI k = nI a := fun a ha q => nI_ne hk ha q
  rw [c_oth (w 8 (by decide) q8) (w 9 (by decide) q9) (w 10 (by decide) q10) (w 12 (by decide) q12) (w 13 (by decide) q13) (w 14 (by decide) (fun y => q14 (Or.inl y))) (w 15 (by decide) (fun y => q14 (Or.inr y))) (w 27 (by decide) h27), m_oth (w 8 (by decide) q8) (w 9 (by decide) q9) (w 10 (by decide) q10) (w 12 (by decide) q12) (w 13 (by decide) q13) (w 14 (by decide) (fun y => q14 (Or.inl y))) (w 15 (by decide) (fun y => q14 (Or.inr y)))]
  split
  · exact P2_ret (OU.refl h)
  · exact P2_show hk h gs
theorem u_other {k : Nat} (hk : k < 256) (h27 : ¬ k = 27) (h : MU d ov c m) (gs : GS Gc Gm d) : wp (f_X9_other Gc (nI k) c) (fun _ c' => MUQ d ov c m c') := by
  obtain ⟨g, ev, eb⟩ := h.wc.ev
  obtain ⟨v, v1, v2⟩ := eb.k6
  have e708 : gI c 708 46 = nI v := (ev.i (708, 1, 6) (by decide)).trans v1
  by_cases q8 : k = 8
  · subst q8
    obtain ⟨x, x1, x2⟩ := eb.k189
    obtain ⟨r, r1, r2⟩ := eb.k188
    rw [show f_X9_other Gc (nI 8) c = _ from (o_8 (Gm := Gm) (m := m)).1, show gI c 706 46 = nI x from (ev.i (706, 1, 189) (by decide)).trans x1, show gI c 710 46 = nI r from (ev.i (710, 1, 188) (by decide)).trans r1, nI_iz, nI_iz, iz_sub, iz_long (by omega) (by omega)]
    exact u_moveX h (by omega) (by omega)
  by_cases q9 : k = 9
  · subst q9
    rw [show f_X9_other Gc (nI 9) c = _ from (o_9 (Gm := Gm) (m := m)).1]
    exact u_tab h
  by_cases q10 : k = 10
  · subst q10
    rw [show f_X9_other Gc (nI 10) c = _ from (o_10 (Gm := Gm) (m := m)).1, e708]
    refine wp_call (u_line v2 h gs) ?_
    intro _ c1 q1
    exact wp_mono (u_ewr q1.1) (fun _ _ z => q1.trans z)
  by_cases q12 : k = 12
  · subst q12
    rw [show f_X9_other Gc (nI 12) c = _ from (o_12 (Gm := Gm) (m := m)).1]
    refine wp_call (u_form h gs) ?_
    intro _ c1 q1
    exact wp_mono (u_ewr q1.1) (fun _ _ z => q1.trans z)
  by_cases q13 : k = 13
  · subst q13
    rw [show f_X9_other Gc (nI 13) c = _ from (o_13 (Gm := Gm) (m := m)).1]
    refine wp_call (u_cr h) ?_
    intro _ c1 q1
    obtain ⟨g1, ev1, eb1⟩ := q1.1.wc.ev
    obtain ⟨w, w1, w2⟩ := eb1.k6
    split
    · exact wp_ret q1
    · rw [show gI c1 708 46 = nI w from (ev1.i (708, 1, 6) (by decide)).trans w1]
      exact wp_mono (u_line w2 q1.1 gs) (fun _ _ z => q1.trans z)
  by_cases q14 : k = 14 ∨ k = 15
  · rw [(o_14 (Gc := Gc) (Gm := Gm) (c := c) (m := m) q14).1]
    have q1 := h.set (f := 105) (o := 0) (k := 28) (by decide) (by decide) (by decide) (cI (decide (k = 14))) (by cases decide (k = 14) <;> decide) (by cases decide (k = 14) <;> decide)
    exact wp_mono (u_pitch q1.1) (fun _ _ z => q1.trans z)
  have w : ∀ a, a < 256 → ¬ k = a → ¬ nI k = nI a := fun a ha q => nI_ne hk ha q
  rw [c_oth (w 8 (by decide) q8) (w 9 (by decide) q9) (w 10 (by decide) q10) (w 12 (by decide) q12) (w 13 (by decide) q13) (w 14 (by decide) (fun y => q14 (Or.inl y))) (w 15 (by decide) (fun y => q14 (Or.inr y))) (w 27 (by decide) h27)]
  split
  · exact wp_ret (MUQ.refl h)
  · exact u_show hk h gs
end C3
