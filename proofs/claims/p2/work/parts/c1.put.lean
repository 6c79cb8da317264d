/-! A code's mark and advance, on both sides. -/
section C1
variable {c c' c0 c1 c2 m m' m0 m1 m2 T : Mm} {d : Nat} {ov ov' : Bool} {g L : Nat → Int32} {Gc Gm : Gty} {ox oy : Nat}
/-- a sent glyph, dot by dot -/
theorem m_glyph {s w h X Y : Nat} {l t : Int} (hs : s < 400) (hw : w ≤ 32) (hh : h ≤ 32) (hX : X ≤ 800) (hY : Y ≤ 800) (l1 : -128 ≤ l) (l2 : l ≤ 127) (t1 : -128 ≤ t) (t2 : t ≤ 127) (e0 : gA m 141 (5 * s) = iz l) (e1 : gA m 141 (5 * s + 1) = iz t) (e2 : gA m 141 (5 * s + 2) = nI w) (e3 : gA m 141 (5 * s + 3) = nI h) (q : PQ m g L ox oy) : ∃ m', f_X12_glyph (nI s) (nI X) (nI Y) m = some ((), m') ∧ LV m m' g L ox oy (fun a b => bt (gA m 142 (32 * s + (b - ((Y : Int) - t)).toNat)) (w - 1 - (a - ((X : Int) + l)).toNat)) (fun a b => inR ((X : Int) + l) w a && inR ((Y : Int) - t) h b) := by
  unfold f_X12_glyph
  rw [show (5 : Int32) * nI s = nI (5 * s) from pk_mul 5 s, show nI (5 * s) + 2 = nI (5 * s + 2) from nI_add _ 2, ix_in (j := 5 * s + 2) (nI_pos (by omega)) (nI_clamp (by omega)) (by omega), lb_eq, show nI (5 * s) + 3 = nI (5 * s + 3) from nI_add _ 3, ix_in (j := 5 * s + 3) (nI_pos (by omega)) (nI_clamp (by omega)) (by omega), lb_eq, e2, e3]
  refine LV.block (m0 := m) (g := g) (L := L) (ox := ox) (oy := oy) (w := w) (h := h) (x0 := (X : Int) + l) (y0 := (Y : Int) - t) (R2 := fun n r T => f_X12_glyph_l27 n (nI s) (nI X) (nI Y) (nI w) (nI h) (nI r) T) (K := fun T => some ((), T)) ?_ ?_ FU 0 m (FU_gt (by omega)) (by omega) ((LV.refl q).congr (fun a b _ _ => by rw [inR_0, Bool.and_false]))
  · intro n r T hr hT
    have := LV.line (m0 := m) (g := g) (L := L) (ox := ox) (oy := oy) (S := fun a b => bt (gA m 142 (32 * s + (b - ((Y : Int) - t)).toNat)) (w - 1 - (a - ((X : Int) + l)).toNat)) (w := w) (x0 := (X : Int) + l) (yy := (Y : Int) - t + r) (V0 := fun a b => inR ((X : Int) + l) w a && inR ((Y : Int) - t) r b) (R := fun N i T => f_X12_glyph_l37 (f_X12_glyph_l27 n) N (nI s) (nI X) (nI Y) (nI w) (nI h) (nI r) (nI i) T) (K := fun T => f_X12_glyph_l27 n (nI s) (nI X) (nI Y) (nI w) (nI h) (nI (r + 1)) T) (by omega) (by omega) (by omega) (by omega) (by omega) ?_ ?_ ?_ FU 0 T (FU_gt (by omega)) (by omega) (hT.congr (fun a b _ _ => by rw [inR_0]; simp))
    · obtain ⟨T', a1, a2⟩ := this
      refine ⟨T', ?_, a2⟩
      show f_X12_glyph_b27 (f_X12_glyph_l27 n) (nI s) (nI X) (nI Y) (nI w) (nI h) (nI r) T = _
      unfold f_X12_glyph_b27
      rw [if_neg (nI_ge (by omega) (by omega))]
      exact a1
    · intro N i T hf hi
      show f_X12_glyph_b37 (f_X12_glyph_l27 n) (f_X12_glyph_l37 (f_X12_glyph_l27 n) N) (nI s) (nI X) (nI Y) (nI w) (nI h) (nI r) (nI i) T = _
      unfold f_X12_glyph_b37
      rw [if_neg (nI_ge (by omega) (by omega)), show (5 : Int32) * nI s = nI (5 * s) from pk_mul 5 s, ix_in (j := 5 * s) (nI_pos (by omega)) (nI_clamp (by omega)) (by omega), show nI (5 * s) + 1 = nI (5 * s + 1) from nI_add _ 1, ix_in (j := 5 * s + 1) (nI_pos (by omega)) (nI_clamp (by omega)) (by omega), show (32 : Int32) * nI s = nI (32 * s) from pk_mul 32 s, nI_add, ix_in (j := 32 * s + r) (nI_pos (by omega)) (nI_clamp (by omega)) (by omega), hf.a (show a157 141 = false from rfl), hf.a (show a157 142 = false from rfl), e0, e1, show nI w - 1 = nI (w - 1) from pk_sub (b := 1) (by omega), pk_sub (by omega), sdot _ (by omega), show nI i + 1 = nI (i + 1) from nI_add i 1, nI_iz X, nI_iz Y, iz_add, nI_iz i, iz_add, iz_sub, nI_iz r, iz_add]
      have z1 : ((Y : Int) - t + r - ((Y : Int) - t)).toNat = r := by omega
      have z2 : ((X : Int) + l + i - ((X : Int) + l)).toNat = i := by omega
      rw [z1, z2]
    · intro N T hf
      show f_X12_glyph_b37 (f_X12_glyph_l27 n) (f_X12_glyph_l37 (f_X12_glyph_l27 n) N) (nI s) (nI X) (nI Y) (nI w) (nI h) (nI r) (nI w) T = _
      unfold f_X12_glyph_b37
      rw [if_pos (Int32.le_refl _), show nI r + 1 = nI (r + 1) from nI_add r 1]
    · intro i hi
      rw [Bool.and_eq_false_iff]
      exact Or.inr (inR_f.mpr (by omega))
  · intro n T hf
    show f_X12_glyph_b27 (f_X12_glyph_l27 n) (nI s) (nI X) (nI Y) (nI w) (nI h) (nI h) T = _
    unfold f_X12_glyph_b27
    rw [if_pos (Int32.le_refl _)]
/-- a resident glyph, dot by dot -/
theorem m_resid {k X Y : Nat} (hk : k < 256) (hX : X ≤ 800) (hY : Y ≤ 800) (q : PQ m g L ox oy) : ∃ m', f_X12_residentGlyph (nI k) (nI X) (nI Y) m = some ((), m') ∧ LV m m' g L ox oy (fun a b => ((k * k + 7 * k * (b - ((Y : Int) - 7)).toNat + 13 * (b - ((Y : Int) - 7)).toNat * (b - ((Y : Int) - 7)).toNat) / 4).testBit (5 - (a - (X : Int)).toNat)) (fun a b => inR (X : Int) (6 : Nat) a && inR ((Y : Int) - 7) (8 : Nat) b) := by
  unfold f_X12_residentGlyph
  refine LV.block (m0 := m) (g := g) (L := L) (ox := ox) (oy := oy) (w := 6) (h := 8) (x0 := (X : Int)) (y0 := (Y : Int) - 7) (R2 := fun n r T => f_X12_residentGlyph_l3 n (nI k) (nI X) (nI Y) (nI r) T) (K := fun T => some ((), T)) ?_ ?_ FU 0 m (FU_gt (by omega)) (by omega) ((LV.refl q).congr (fun a b _ _ => by rw [inR_0, Bool.and_false]))
  · intro n r T hr hT
    have hN : k * k + 7 * k * r + 13 * r * r < 2 ^ 20 := by
      have h1 : k * k ≤ 255 * 255 := Nat.mul_le_mul (by omega) (by omega)
      have h2 : 7 * k * r ≤ 7 * 255 * 7 := Nat.mul_le_mul (by omega) (by omega)
      have h3 : 13 * r * r ≤ 13 * 7 * 7 := Nat.mul_le_mul (by omega) (by omega)
      omega
    have e63 : (((((nI k * nI k) + (((7 : Int32) * nI k) * nI r)) + (((13 : Int32) * nI r) * nI r)) / 4) &&& 63) = nI ((k * k + 7 * k * r + 13 * r * r) / 4 % 2 ^ 6) := by
      rw [pk_mul, show (7 : Int32) * nI k = nI (7 * k) from pk_mul 7 k, pk_mul, show (13 : Int32) * nI r = nI (13 * r) from pk_mul 13 r, pk_mul, nI_add, nI_add, show nI (k * k + 7 * k * r + 13 * r * r) / 4 = nI ((k * k + 7 * k * r + 13 * r * r) / 4) from pk_div (d := 4) (by omega) (by decide) (by decide), pk_andN (by omega) 6 (by decide)]
    have := LV.line (m0 := m) (g := g) (L := L) (ox := ox) (oy := oy) (S := fun a b => ((k * k + 7 * k * (b - ((Y : Int) - 7)).toNat + 13 * (b - ((Y : Int) - 7)).toNat * (b - ((Y : Int) - 7)).toNat) / 4).testBit (5 - (a - (X : Int)).toNat)) (w := 6) (x0 := (X : Int)) (yy := (Y : Int) - 7 + r) (V0 := fun a b => inR (X : Int) (6 : Nat) a && inR ((Y : Int) - 7) r b) (R := fun N i T => f_X12_residentGlyph_l40 (f_X12_residentGlyph_l3 n) N (nI k) (nI X) (nI Y) (nI r) (nI ((k * k + 7 * k * r + 13 * r * r) / 4 % 2 ^ 6)) (nI i) T) (K := fun T => f_X12_residentGlyph_l3 n (nI k) (nI X) (nI Y) (nI (r + 1)) T) (by omega) (by omega) (by omega) (by omega) (by omega) ?_ ?_ ?_ FU 0 T (FU_gt (by omega)) (by omega) (hT.congr (fun a b _ _ => by rw [inR_0]; simp))
    · obtain ⟨T', a1, a2⟩ := this
      refine ⟨T', ?_, a2⟩
      show f_X12_residentGlyph_b3 (f_X12_residentGlyph_l3 n) (nI k) (nI X) (nI Y) (nI r) T = _
      unfold f_X12_residentGlyph_b3
      rw [if_neg (show ¬ (8 : Int32) ≤ nI r from nI_ge (b := 8) (by omega) (by omega)), e63, lb_eq]
      exact a1
    · intro N i T hf hi
      show f_X12_residentGlyph_b40 (f_X12_residentGlyph_l3 n) (f_X12_residentGlyph_l40 (f_X12_residentGlyph_l3 n) N) (nI k) (nI X) (nI Y) (nI r) (nI ((k * k + 7 * k * r + 13 * r * r) / 4 % 2 ^ 6)) (nI i) T = _
      unfold f_X12_residentGlyph_b40
      have z1 : ((Y : Int) - 7 + r - ((Y : Int) - 7)).toNat = r := by omega
      have z2 : ((X : Int) + i - (X : Int)).toNat = i := by omega
      have z3 : ((k * k + 7 * k * r + 13 * r * r) / 4 % 2 ^ 6).testBit (5 - i) = ((k * k + 7 * k * r + 13 * r * r) / 4).testBit (5 - i) := by
        rw [Nat.testBit_mod_two_pow, decide_eq_true (by omega), Bool.true_and]
      rw [if_neg (show ¬ (6 : Int32) ≤ nI i from nI_ge (b := 6) (by omega) (by omega)), show (5 : Int32) - nI i = nI (5 - i) from pk_sub (a := 5) (by omega), sdot _ (by omega), nI_bt (by omega), z1, z2, z3, show nI i + 1 = nI (i + 1) from nI_add i 1, nI_iz X, nI_iz Y, nI_iz i, iz_add, show (7 : Int32) = iz 7 from rfl, iz_sub, nI_iz r, iz_add]
    · intro N T hf
      show f_X12_residentGlyph_b40 (f_X12_residentGlyph_l3 n) (f_X12_residentGlyph_l40 (f_X12_residentGlyph_l3 n) N) (nI k) (nI X) (nI Y) (nI r) (nI ((k * k + 7 * k * r + 13 * r * r) / 4 % 2 ^ 6)) (nI 6) T = _
      unfold f_X12_residentGlyph_b40
      rw [if_pos (by decide), show nI r + 1 = nI (r + 1) from nI_add r 1]
    · intro i hi
      rw [Bool.and_eq_false_iff]
      exact Or.inr (inR_f.mpr (by omega))
  · intro n T hf
    show f_X12_residentGlyph_b3 (f_X12_residentGlyph_l3 n) (nI k) (nI X) (nI Y) (nI 8) T = _
    unfold f_X12_residentGlyph_b3
    rw [if_pos (by decide)]
/-- both advance -/
theorem P2_adv {a : Nat} (ha : a ≤ 32000) (h : RR d ov c m) : P2 (f_X9_show_144 Gc (nI a) c) (f_X12_show_483 Gm (nI a) m) (fun _ c' _ m' => OU d ov c m c' m') := by
  obtain ⟨x, x1, x2⟩ := h.eb.k189
  have e706 : gI c 706 46 = nI x := (h.ev.i (706, 1, 189) (by decide)).trans x1
  obtain ⟨c1, m1, e1, e2, e3, _⟩ := mx (z := ((x + a : Nat) : Int)) h.ev h.eb (by omega) (by omega)
  unfold f_X9_show_144 f_X12_show_483
  rw [h.sh.z.2, if_pos rfl, e706, x1, nI_add, nI_j (by omega), nI_j (by omega), nI_j (by omega), jz_add, show (x : Int) + (a : Int) = ((x + a : Nat) : Int) by omega, e1, e2, bd_eq, bd_eq, lb_eq, lb_eq]
  have ei := nI_toInt (n := a) (by omega)
  have e4 := EP.one e3.v e3.b (f := 710) (o := 1) (k := 188) (by decide) (by decide) (by decide) (nI a) (by rw [ei]; show (0 : Int) ≤ _; omega) (by rw [ei]; show _ ≤ (32000 : Int); omega)
  exact P2_ret (OU.env h (e3.trans e4))
theorem u_adv {a : Nat} (ha : a ≤ 32000) (h : MU d ov c m) : wp (f_X9_show_144 Gc (nI a) c) (fun _ c' => MUQ d ov c m c') := by
  obtain ⟨g, ev, eb⟩ := h.wc.ev
  obtain ⟨x, x1, x2⟩ := eb.k189
  have e706 : gI c 706 46 = nI x := (ev.i (706, 1, 189) (by decide)).trans x1
  unfold f_X9_show_144
  rw [e706, nI_add, nI_j (by omega)]
  refine wp_call (u_moveX h (by omega) (by omega)) ?_
  intro _ c1 q1
  obtain ⟨g1, ev1, eb1⟩ := q1.1.wc.ev
  have ei := nI_toInt (n := a) (by omega)
  exact wp_ret (q1.trans (q1.1.env (Fr.refl.uI _ (by rfl)) ⟨_, ev1.setI (f := 710) (o := 1) (k := 188) (by decide) (nI a), eb1.set (by decide) _ (by rw [ei]; show (0 : Int) ≤ _; omega) (by rw [ei]; show _ ≤ (32000 : Int); omega)⟩))
/-- what a code's glyph is on both sides -/
def GL (c m : Mm) (k r : Nat) (has : Bool) (slot : Nat) (gm : Int32) : Prop := (has = true → slot < 494) ∧ (r = 16 → has = true → slot = k + 367 ∧ 33 ≤ k ∧ k ≤ 126) ∧ (r ≠ 16 → has = true → gm = nI slot ∧ slot < 400)
theorem GL.s {c m : Mm} {k r : Nat} {has : Bool} {slot : Nat} {gm : Int32} (h : GL c m k r has slot gm) : has = true → slot < 494 := h.1
theorem GL.r16 {c m : Mm} {k r : Nat} {has : Bool} {slot : Nat} {gm : Int32} (h : GL c m k r has slot gm) : r = 16 → has = true → slot = k + 367 ∧ 33 ≤ k ∧ k ≤ 126 := h.2.1
theorem GL.rn {c m : Mm} {k r : Nat} {has : Bool} {slot : Nat} {gm : Int32} (h : GL c m k r has slot gm) : r ≠ 16 → has = true → gm = nI slot ∧ slot < 400 := h.2.2
theorem GL_mk {c m : Mm} {k r : Nat} {has : Bool} {slot : Nat} {gm : Int32} (s : has = true → slot < 494) (r16 : r = 16 → has = true → slot = k + 367 ∧ 33 ≤ k ∧ k ≤ 126) (rn : r ≠ 16 → has = true → gm = nI slot ∧ slot < 400) : GL c m k r has slot gm := ⟨s, r16, rn⟩
theorem P2_put {k r a slot : Nat} {has : Bool} {gm : Int32} (hk : k < 256) (hr : r < 17) (ha : a ≤ 32000) (h : RR d ov c m) (gl : GL c m k r has slot gm) : P2 (f_X9_show_133 Gc (if has = true then nI slot else -1) (nI a) c) (f_X12_show_322 Gm (nI k) (cI (decide (r = 16))) gm (cI has) (nI a) m) (fun _ c' _ m' => OU d ov c m c' m') := by
  obtain ⟨X, X1, X2⟩ := h.eb.k189
  obtain ⟨Y, Y1, Y2⟩ := h.eb.k190
  have e706 : gI c 706 46 = nI X := (h.ev.i (706, 1, 189) (by decide)).trans X1
  have e707 : gI c 707 46 = nI Y := (h.ev.i (707, 1, 190) (by decide)).trans Y1
  have dX : nI X / 96 = nI (X / 96) := pk_div (d := 96) (by omega) (by decide) (by decide)
  have dY : nI Y / 96 = nI (Y / 96) := pk_div (d := 96) (by omega) (by decide) (by decide)
  unfold f_X9_show_133 f_X12_show_322
  rw [X1, Y1, dX, dY, lb_eq, lb_eq]
  cases has
  · rw [if_neg (show ¬ false = true by decide), if_pos (show (-1 : Int32) < 0 by decide), if_pos (show cI false = 0 from rfl)]
    unfold f_X12_show_446
    rw [if_pos rfl]
    exact P2_adv ha h
  · have hs := gl.s rfl
    rw [if_pos rfl, if_neg (nI_pos (by omega)), if_neg (show ¬ cI true = 0 by decide)]
    obtain ⟨px, px1, px2⟩ := h.eb.k51
    obtain ⟨py, py1, py2⟩ := h.eb.k52
    -- the mark and its dots
    have mk : ∀ (l t : Int) (w hh : Nat) (G : Mm → Option (Unit × Mm)), -128 ≤ l → l ≤ 127 → -128 ≤ t → t ≤ 127 → w ≤ 32 → hh ≤ 32 → gA c 33 (5 * slot) = iz l → gA c 33 (5 * slot + 1) = iz t → gA c 33 (5 * slot + 2) = nI w → gA c 33 (5 * slot + 3) = nI hh → (∀ m2, Fr mM0 mvA m m2 → PQ m2 (gA m 134) (fun j => gA m 134 (29 + j)) px py → ∃ m3, G m2 = some ((), m3) ∧ LV m2 m3 (gA m 134) (fun j => gA m 134 (29 + j)) px py (gS c slot (((X / 96 : Nat) : Int) + l) (((Y / 96 : Nat) : Int) - t)) (fun a b => inR (((X / 96 : Nat) : Int) + l) w a && inR (((Y / 96 : Nat) : Int) - t) hh b)) → ∃ c', f_X9_markGlyph (nI slot) c = some ((), c') ∧ Fr cvF cvA c c' ∧ ((∃ m1, f_X12_mark (jz (((X / 96 : Nat) : Int) + l)) (jz (((Y / 96 : Nat) : Int) - t)) (jz w) (jz hh) m = some (0, m1) ∧ MU d ov c' m1 ∧ Fr mMkF noA m m1) ∨ (∃ m1 m2 m3, f_X12_mark (jz (((X / 96 : Nat) : Int) + l)) (jz (((Y / 96 : Nat) : Int) - t)) (jz w) (jz hh) m = some (1, m1) ∧ f_X12_useAtHand m1 = some ((), m2) ∧ G m2 = some ((), m3) ∧ RR d ov c' m3 ∧ Fr mM0 mvA m m3)) := by
      intro l t w hh G l1 l2 t1 t2 hw hh2 h0 h1 h2 h3 hG
      obtain ⟨pn, pn1, pn2, pn3⟩ := h.eb.k30
      have tm := two_mark (slot := slot) (L := fun j => gA m 134 (29 + j)) (ox := px) (oy := py) (t := 50) (w := w) (hh := hh) (x0 := ((X / 96 : Nat) : Int) + l) (y0 := ((Y / 96 : Nat) : Int) - t) (S := gS c slot (((X / 96 : Nat) : Int) + l) (((Y / 96 : Nat) : Int) - t)) (F := fun T15 => lb ((gI T15 8 24)) fun v16 => f_X9_markGlyph_l127 FU (nI slot) (iz (((X / 96 : Nat) : Int) + l)) (iz (((Y / 96 : Nat) : Int) - t)) v16 T15) (P1 := f_X12_useAtHand) (G := G) h (by decide) h.ev.t (by decide) (by rw [pn1, iz_int (by omega) (by omega)]; exact pn2) (by rw [pn1, iz_int (by omega) (by omega)]; exact pn3) (by omega) (by omega) (by omega) (by omega) (by omega) (by omega) (fun c1 fx tx fy ty hf ik z8 z9 y1 y2 b1 b2 => ?_) (fun m1 hf => m_use (hf.a rfl)) hG px1 py1 px2 py2
      · obtain ⟨c', q1, q2, q3⟩ := tm
        refine ⟨c', ?_, q2, q3⟩
        unfold f_X9_markGlyph
        rw [show (0 : Int32) = nI 0 from rfl, c_head hs (by omega), bd_eq, e706, dX, Nat.add_zero, h0, nI_iz (X / 96), iz_add, lb_eq, show (1 : Int32) = nI 1 from rfl, c_head hs (by omega), bd_eq, e707, dY, h1, nI_iz (Y / 96), iz_sub, lb_eq, show (2 : Int32) = nI 2 from rfl, c_head hs (by omega), bd_eq, h2, show (3 : Int32) = nI 3 from rfl, c_head hs (by omega), bd_eq, h3]
        exact q1
      · have e34 : gA c1 34 = gA c 34 := by
          rcases hf with hf | hf
          · exact hf.a rfl
          · exact hf.a rfl
        rw [lb_eq, z8]
        obtain ⟨c', q1, q2, q3⟩ := c_grows (c0 := c1) (T := c1) (t := 50) (slot := slot) (w := w) (h := hh) (fx := fx) (tx := tx) (fy := fy) (ty := ty) (x0 := ((X / 96 : Nat) : Int) + l) (y0 := ((Y / 96 : Nat) : Int) - t) y2 hs (by omega) (by omega) (by omega) (by omega) hw hh2 (by omega) (by omega) (by omega) (by omega) FU fy (FU_gt (by omega)) (by omega) (by omega) ik z9 Fr.refl (fun A B _ _ => by rw [if_neg (by omega)])
        refine ⟨c', q1, q2, fun A B hA hB => ?_⟩
        rw [q3 A B hA hB]
        unfold gS
        rw [e34]
    -- behind the mark
    have go : ∀ (c' m1 : Mm), Fr cvF cvA c c' → MU d ov c' m1 → Fr mMkF noA m m1 → P2 (bd (some ((), c')) fun _ T1 => f_X9_show_144 Gc (nI a) T1) (f_X12_show_446 Gm (nI k) (cI (decide (r = 16))) gm (nI a) (nI (X / 96)) (nI (Y / 96)) 0 m1) (fun _ c' _ m' => OU d ov c m c' m') := by
      intro c' m1 fc mu fm
      unfold f_X12_show_446 f_X12_show_483
      rw [bd_eq, if_pos rfl, if_neg (show ¬ gI m1 1233 133 = 0 by rw [mu.m1]; decide)]
      obtain ⟨_, c2, e1, e2⟩ := u_adv (Gc := Gc) ha mu
      rw [e1]
      have ou : OU d ov c m c' m1 := ⟨Or.inr mu, KP.pg fc (fm.weak (fun _ _ e => e) (fun _ _ => rfl)), fun _ => by rw [fm.a rfl]; exact ⟨rfl, rfl⟩⟩
      exact P2_ret (ou.muc e2)
    have ok : ∀ (c' m3 : Mm), Fr cvF cvA c c' → RR d ov c' m3 → Fr mM0 mvA m m3 → P2 (bd (some ((), c')) fun _ T1 => f_X9_show_144 Gc (nI a) T1) (f_X12_show_483 Gm (nI a) m3) (fun _ c' _ m' => OU d ov c m c' m') := by
      intro c' m3 fc rr fm
      rw [bd_eq]
      refine P2_mono (P2_adv ha rr) ?_
      intro _ c2 _ m2 hq
      exact OU.pre (KP.pg fc (fm.weak (fun f i e => by unfold mvF at e; unfold mM0; revert e; simp; omega) (fun _ e => e))) (fun _ => by rw [fm.a rfl]; exact ⟨rfl, rfl⟩) hq
    by_cases q16 : r = 16
    · obtain ⟨s1, k1, k2⟩ := gl.r16 q16 rfl
      have hr5 := h.ft.hr slot (by omega) (by omega)
      obtain ⟨c', e1, e2, e3⟩ := mk 0 7 6 8 (fun T => f_X12_residentGlyph (nI k) (nI (X / 96)) (nI (Y / 96)) T) (by omega) (by omega) (by omega) (by omega) (by omega) (by omega) hr5.1 hr5.2.1 hr5.2.2.1 hr5.2.2.2.1 (fun m2 fm pq => by
        obtain ⟨m3, w1, w2⟩ := m_resid (k := k) (X := X / 96) (Y := Y / 96) hk (by omega) (by omega) pq
        refine ⟨m3, w1, (w2.src (fun x y hx hy hv => ?_)).congr (fun x y _ _ => by rw [Int.add_zero])⟩
        rw [Bool.and_eq_true, inR_t, inR_t] at hv
        have := h.ft.rr k ((y : Int) - (((Y / 96 : Nat) : Int) - 7)).toNat ((x : Int) - ((X / 96 : Nat) : Int)).toNat k1 k2 (by omega) (by omega)
        unfold gS
        rw [Int.add_zero, s1]
        exact this)
      rw [e1, decide_eq_true q16, if_neg (show ¬ cI true = 0 by decide), nI_iz (X / 96), nI_iz (Y / 96), iz_j (by omega) (by omega), show (7 : Int32) = iz 7 from rfl, iz_sub, iz_j (by omega) (by omega)]
      rw [Int.add_zero] at e3
      rcases e3 with ⟨m1, f1, f2, f3⟩ | ⟨m1, m2, m3, f1, f2, f3, f4, f5⟩
      · have f1' : f_X12_mark (jz ((X / 96 : Nat) : Int)) (jz (((Y / 96 : Nat) : Int) - 7)) 6 8 m = some (0, m1) := f1
        rw [f1', bd_eq, bd_eq, if_pos rfl]
        have := go c' m1 e2 f2 f3
        rw [q16] at this
        rw [nI_iz (X / 96), nI_iz (Y / 96)] at this
        exact this
      · have f1' : f_X12_mark (jz ((X / 96 : Nat) : Int)) (jz (((Y / 96 : Nat) : Int) - 7)) 6 8 m = some (1, m1) := f1
        rw [f1', bd_eq, bd_eq, if_neg (show ¬ (1 : Int32) = 0 by decide)]
        unfold f_X12_show_446
        rw [if_neg (show ¬ (1 : Int32) = 0 by decide), f2, bd_eq, if_neg (show ¬ cI true = 0 by decide), ← nI_iz (X / 96), ← nI_iz (Y / 96), f3, bd_eq]
        exact ok c' m3 e2 f4 f5
    · obtain ⟨s1, s2⟩ := gl.rn q16 rfl
      obtain ⟨b1, b2, b3, b4, b5⟩ := h.ft.hb slot s2
      obtain ⟨l, l1, l2, l3⟩ := iz_lh b1
      obtain ⟨t, t1, t2, t3⟩ := iz_lh b2
      obtain ⟨w, w1, w2⟩ := nI_lh (b := 32) b3
      obtain ⟨hh, h1, h2⟩ := nI_lh (b := 32) b4
      have hd := h.ft.hd
      obtain ⟨c', e1, e2, e3⟩ := mk l t w hh (fun T => f_X12_glyph (nI slot) (nI (X / 96)) (nI (Y / 96)) T) l2 l3 t2 t3 w2 h2 ((hd _ (by omega)).trans l1) ((hd _ (by omega)).trans t1) ((hd _ (by omega)).trans w1) ((hd _ (by omega)).trans h1) (fun m2 fm pq => by
        have e141 : gA m2 141 = gA m 141 := fm.a rfl
        obtain ⟨m3, v1, v2⟩ := m_glyph (s := slot) (w := w) (h := hh) (X := X / 96) (Y := Y / 96) (l := l) (t := t) s2 w2 h2 (by omega) (by omega) l2 l3 t2 t3 (by rw [e141]; exact l1) (by rw [e141]; exact t1) (by rw [e141]; exact w1) (by rw [e141]; exact h1) pq
        refine ⟨m3, v1, v2.src (fun x y hx hy hv => ?_)⟩
        rw [Bool.and_eq_true, inR_t, inR_t] at hv
        have ew : (gA m 141 (5 * slot + 2)).toInt = w := by rw [w1, nI_toInt (by omega)]
        have eh : (gA m 141 (5 * slot + 3)).toInt = hh := by rw [h1, nI_toInt (by omega)]
        have := h.ft.rw slot ((y : Int) - (((Y / 96 : Nat) : Int) - t)).toNat ((x : Int) - (((X / 96 : Nat) : Int) + l)).toNat s2 (by omega) (by omega) (by omega) (by omega)
        rw [ew, show ((w : Int)).toNat = w from rfl] at this
        unfold gS
        rw [this, fm.a (show mvA 142 = false from rfl)])
      rw [e1, decide_eq_false q16, if_pos (show cI false = 0 from rfl), s1, show (5 : Int32) * nI slot = nI (5 * slot) from pk_mul 5 slot, show nI (5 * slot) + 1 = nI (5 * slot + 1) from nI_add _ 1, show nI (5 * slot) + 2 = nI (5 * slot + 2) from nI_add _ 2, show nI (5 * slot) + 3 = nI (5 * slot + 3) from nI_add _ 3, ix_in (j := 5 * slot) (nI_pos (by omega)) (nI_clamp (by omega)) (by omega), ix_in (j := 5 * slot + 1) (nI_pos (by omega)) (nI_clamp (by omega)) (by omega), ix_in (j := 5 * slot + 2) (nI_pos (by omega)) (nI_clamp (by omega)) (by omega), ix_in (j := 5 * slot + 3) (nI_pos (by omega)) (nI_clamp (by omega)) (by omega), l1, t1, w1, h1, nI_iz (X / 96), nI_iz (Y / 96), iz_add, iz_sub, iz_j (by omega) (by omega), iz_j (by omega) (by omega), nI_j (by omega), nI_j (by omega)]
      rw [s1] at go
      rcases e3 with ⟨m1, f1, f2, f3⟩ | ⟨m1, m2, m3, f1, f2, f3, f4, f5⟩
      · rw [f1, bd_eq, bd_eq, if_pos rfl]
        have := go c' m1 e2 f2 f3
        rw [decide_eq_false q16] at this
        rw [nI_iz (X / 96), nI_iz (Y / 96)] at this
        exact this
      · rw [f1, bd_eq, bd_eq, if_neg (show ¬ (1 : Int32) = 0 by decide)]
        unfold f_X12_show_446
        rw [if_neg (show ¬ (1 : Int32) = 0 by decide), f2, bd_eq, if_pos (show cI false = 0 from rfl), ← nI_iz (X / 96), ← nI_iz (Y / 96), f3, bd_eq]
        exact ok c' m3 e2 f4 f5
end C1
