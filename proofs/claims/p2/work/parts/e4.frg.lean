/-! What the relation rests on, as one frame; a box of dots by its field. -/
def qqF (f i : Nat) : Bool := i == 5 || (i == 23 && (f == 913 || f == 914 || f == 915 || f == 916)) || (i == 24 && (f == 2 || f == 4 || f == 5)) || (i == 27 && (f == 208 || f == 209)) || (decide (45 ≤ i) && decide (i ≤ 53)) || (decide (66 ≤ i) && decide (i ≤ 97))
def qqA (a : Nat) : Bool := a == 6 || a == 7 || a == 8 || (decide (10 ≤ a) && decide (a ≤ 22)) || a == 25 || (decide (29 ≤ a) && decide (a ≤ 35)) || a == 37 || a == 42 || a == 43 || a == 44 || (decide (45 ≤ a) && decide (a ≤ 53)) || (decide (66 ≤ a) && decide (a ≤ 97))
def qqM (f : Nat) : Bool := f == 1209 || f == 1226 || f == 1229 || f == 1230 || f == 1231 || f == 1232 || f == 1233 || f == 1235 || f == 1240 || f == 1242 || f == 1249 || f == 1266
def qqN (a : Nat) : Bool := a == 134 || (decide (136 ≤ a) && decide (a ≤ 151)) || (decide (157 ≤ a) && decide (a ≤ 161)) || a == 165 || a == 166
section E4
variable {c c' c0 c1 c2 m m' m0 m1 m2 T : Mm} {d w b : Nat} {ov ov' ng sg : Bool} {g L : Nat → Int32} {Gc Gm : Gty} {PF QF : Nat → Nat → Bool} {PA QA : Nat → Bool}
theorem RR.frG (h : RR d ov c m) (fc : Fr PF PA c c') (fm : Fr QF QA m m') (e1 : ∀ f i, qqF f i = true → PF f i = false) (e2 : ∀ a, qqA a = true → PA a = false) (e3 : ∀ f, qqM f = true → QF f 133 = false) (e4 : ∀ a, qqN a = true → QA a = false) : RR d ov c' m' := by
  obtain ⟨q, q1, q2, q3⟩ := h.gn
  obtain ⟨k, v, hcv⟩ := h.cv
  obtain ⟨p, hp1, hp2⟩ := h.sh.pp
  have e34 : gA m' 134 = gA m 134 := fm.a (e4 _ rfl)
  refine RR_mk (by rw [e34]; exact h.ev.fr fc (fun f i a b => e1 f i (by unfold qqF; simp; omega)) (fun a x y => e2 a (by unfold qqA; simp; omega))) (by rw [e34]; exact h.eb) (by rw [fc.i (e1 _ _ rfl)]; exact h.d1) (by rw [fm.i (e3 _ rfl)]; exact h.d2) h.d3 (by rw [fc.i (e1 _ _ rfl)]; exact h.o1) (by rw [fm.i (e3 _ rfl)]; exact h.o2) (by rw [fm.i (e3 _ rfl)]; exact h.im) ⟨q, by rw [fc.i (e1 _ _ rfl)]; exact q1, by rw [fm.i (e3 _ rfl)]; exact q2, q3⟩
    ⟨k, v, hcv.fr fc fm (by rw [e34]) (by rw [e34]) ⟨e1 _ _ rfl, e1 _ _ rfl, e1 _ _ rfl⟩ ⟨e3 _ rfl, e3 _ rfl⟩ (e2 _ rfl) (e4 _ rfl)⟩ (h.sh.fr hp1 hp2 fc fm (fun f => e1 f 5 (by unfold qqF; simp)) ⟨e2 _ rfl, e2 _ rfl, e2 _ rfl, fun i hi => e2 _ (by unfold qqA; simp; omega)⟩ ⟨e3 _ rfl, e3 _ rfl, e3 _ rfl, e3 _ rfl⟩ ⟨e4 _ rfl, e4 _ rfl, e4 _ rfl, e4 _ rfl⟩) (h.tb.fr fm (e4 _ rfl) (e4 _ rfl))
    (h.ft.fr fc fm ⟨e2 _ rfl, e2 _ rfl, e2 _ rfl, e2 _ rfl, e2 _ rfl, e2 _ rfl⟩ ⟨e4 _ rfl, e4 _ rfl, e4 _ rfl, e4 _ rfl, e4 _ rfl, e4 _ rfl, e4 _ rfl⟩ (e3 _ rfl))
    (h.ka.fr fc ⟨e1 _ _ rfl, e1 _ _ rfl⟩ ⟨e2 _ rfl, e2 _ rfl, e2 _ rfl⟩) (h.tl.fr fc fm (e2 _ rfl) ⟨e4 _ rfl, e4 _ rfl, e4 _ rfl, e4 _ rfl, e4 _ rfl⟩ (fun f i a b => e1 f i (by unfold qqF; simp; omega)) (fun i a b => e2 i (by unfold qqA; simp; omega))) (h.mc.fr fc fm ⟨e2 _ rfl, e2 _ rfl, e2 _ rfl⟩ ⟨e4 _ rfl, e4 _ rfl, e4 _ rfl, e4 _ rfl⟩) (by rw [fc.r (e1 _ _ rfl)]; exact h.rd) (by rw [fm.r (e3 _ rfl)]; exact h.sc)
theorem rr_t39 {f i : Nat} (h : qqF f i = true) : tF 39 f i = false := by
  cases q : tF 39 f i
  · rfl
  · unfold tF at q
    have : i = 39 := by simp at q; exact q.1
    subst this
    unfold qqF at h; simp at h
theorem rr_a40 {a : Nat} (h : qqA a = true) : tA 39 a = false := by
  cases q : tA 39 a
  · rfl
  · unfold tA at q
    have : a = 40 := by simpa using q
    subst this
    unfold qqA at h; simp at h
/-- the line wholly black -/
theorem c_black0 (c : Mm) : ∃ c', f_X0_layBlack c = some ((), c') ∧ Fr nF a26 c c' ∧ ∀ X, X < 800 → dotW (gA c' 26) 0 X = true := by
  unfold f_X0_layBlack
  rw [f_fill (by decide), bd_eq]
  refine ⟨_, rfl, Fr.refl.vA _ (by rfl), fun X hX => ?_⟩
  unfold dotW
  rw [gA_vA, if_pos rfl, if_pos (show 0 + X / 32 < LN 26 from (show 0 + X / 32 < 25 by omega))]
  have h1 : ∀ i, i < 32 → bt (-1) i = true := by decide +kernel
  exact h1 _ (by omega)
theorem RR.ln26 (h : RR d ov c m) (fc : Fr nF a26 c c') : RR d ov c' m := h.frG fc (Fr.refl (PF := nF) (PA := noA)) (fun _ _ _ => rfl) (fun a e => by
  cases q : a26 a
  · rfl
  · unfold a26 at q
    have : a = 26 := by simpa using q
    subst this
    unfold qqA at e; simp at e) (fun _ _ => rfl) (fun _ _ => rfl)
theorem KP.boxC {F : Nat → Nat → Bool} {A : Nat → Bool} (fc : Fr F A c c') (hF : ∀ f i, F f i = true → i = 39 ∨ i = 24) (hA : ∀ a, A a = true → a = 40 ∨ a = 26 ∨ a = 25) : KP d ov c m c' m := KP.of fc (Fr.refl (PF := nF) (PA := noA)) (fun f i e => by
  rcases hF f i e with rfl | rfl <;> (unfold skF; simp)) (fun a e => by
  rcases hA a e with rfl | rfl | rfl <;> (unfold skA; simp)) (fun _ _ e => by cases e) (fun _ e => by cases e)
/-- a box marked and painted with a tile -/
theorem P2_boxL {t w' h' : Nat} {P1 : Mm → Option (Unit × Mm)} (h : RR d ov c m) (kt : t = 50 ∨ t = 39) (ht : TR c t L) (l1 : -32767 ≤ (L 1).toInt) (l2 : (L 1).toInt ≤ 32767) (hw : w' ≤ 32767) (hh : h' ≤ 32767)
    (hP : ∀ m1, Fr mM0 noA m m1 → ∃ m2, P1 m1 = some ((), m2) ∧ Fr nF a163 m1 m2 ∧ ∀ k, k < 20 → gA m2 163 k = L k) :
    P2 (bd (f_X0_layBlack c) fun _ T1 => bd (f_X9_markBox ((gI T1 706 46) / 96) ((gI T1 707 46) / 96) (nI w') (nI h') t T1) fun _ T5 => some ((), T5)) (bd (f_X12_mark ((((gA m 134 189) / 96)).toInt64) ((((gA m 134 190) / 96)).toInt64) ((nI w').toInt64) ((nI h').toInt64) m) fun v1 T2 => if v1 = 0 then (some ((), T2)) else (bd (P1 T2) fun _ T4 => f_X12_rectangle_140 (nI w') (nI h') T4)) (fun _ c' _ m' => OU d ov c m c' m') := by
  obtain ⟨X, X1, X2⟩ := h.eb.k189
  obtain ⟨Y, Y1, Y2⟩ := h.eb.k190
  obtain ⟨px, px1, px2⟩ := h.eb.k51
  obtain ⟨py, py1, py2⟩ := h.eb.k52
  obtain ⟨c1, b1, b2, b3⟩ := c_black0 c
  have h1 := h.ln26 b2
  have e706 : gI c1 706 46 = nI X := (h1.ev.i (706, 1, 189) (by decide)).trans X1
  have e707 : gI c1 707 46 = nI Y := (h1.ev.i (707, 1, 190) (by decide)).trans Y1
  have dX : nI X / 96 = nI (X / 96) := pk_div (d := 96) (by omega) (by decide) (by decide)
  have dY : nI Y / 96 = nI (Y / 96) := pk_div (d := 96) (by omega) (by decide) (by decide)
  have ht1 : TR c1 t L := ht.fr (b2.i rfl) (b2.i rfl) (b2.i rfl) (b2.b (by rcases kt with rfl | rfl <;> rfl))
  rw [b1, bd_eq, e706, e707, X1, Y1, dX, dY, nI_j (by omega), nI_j (by omega), nI_j (by omega), nI_j (by omega), bd_u]
  have tm := two_mark (slot := 0) (L := L) (ox := px) (oy := py) (t := t) (w := w') (hh := h') (x0 := ((X / 96 : Nat) : Int)) (y0 := ((Y / 96 : Nat) : Int)) (S := fun _ _ => true) (F := fun T5 => lb ((gI T5 8 24)) fun v6 => f_X9_markBox_l51 FU v6 T5) (P1 := P1) (G := fun T => f_X12_rectangle_140 (nI w') (nI h') T) h1 (by rcases kt with rfl | rfl <;> decide) ht1 (by rcases kt with rfl | rfl <;> decide) l1 l2 (by omega) (by omega) (by omega) (by omega) (by omega) (by omega) (fun c2 fx tx fy ty hf ik z8 z9 y1 y2 x3 x4 => ?_) hP (fun m2 fm pq => ?_) px1 py1 px2 py2
  · obtain ⟨c', q1, q2, q3⟩ := tm
    have kc : KP d ov c m c1 m := KP.boxC b2 (fun _ _ e => by cases e) (fun a e => by
      have : a = 26 := by simpa [a26] using e
      exact Or.inr (Or.inl this))
    unfold f_X9_markBox
    rw [nI_iz (X / 96), nI_iz (Y / 96), q1]
    rcases q3 with ⟨m1, f1, f2, f3⟩ | ⟨m1, m2, m3, f1, f2, f3, f4, f5⟩
    · rw [f1, bd_eq, if_pos rfl]
      exact P2_ret (OU.pre kc (fun _ => ⟨rfl, rfl⟩) ⟨Or.inr f2, KP.pg q2 (f3.weak (fun _ _ e => e) (fun _ _ => rfl)), fun _ => by rw [f3.a rfl]; exact ⟨rfl, rfl⟩⟩)
    · rw [f1, bd_eq, if_neg (show ¬ (1 : Int32) = 0 by decide), f2, bd_eq, f3]
      exact P2_ret (OU.pre kc (fun _ => ⟨rfl, rfl⟩) ⟨Or.inl f4, KP.pg q2 (f5.weak (fun f i e => by unfold mvF at e; unfold mM0; revert e; simp; omega) (fun _ e => e)), fun _ => by rw [f5.a rfl]; exact ⟨rfl, rfl⟩⟩)
  · have e26 : gA c2 26 = gA c1 26 := by
      rcases hf with hf | hf
      · exact hf.a rfl
      · exact hf.a rfl
    rw [lb_eq, z8]
    obtain ⟨c', q1, q2, q3⟩ := c_rows (c0 := c2) (L := L) (t := t) (fx := fx) (tx := tx) (fy := fy) (ty := ty) y2 FU fy c2 (FU_gt (by omega)) (by omega) (by omega) ik z9 Fr.refl (fun A B _ _ => by rw [if_neg (by omega)])
    refine ⟨c', q1, q2.weak (fun _ _ e => e) (fun a e => by unfold cvA at e; unfold a25; revert e; simp; omega), fun A B hA hB => ?_⟩
    rw [q3 A B hA hB, e26, b3 A hA]
  · obtain ⟨m', w1, w2⟩ := m_rect (x := X / 96) (y := Y / 96) (w := w') (h := h') (by omega) (by omega) (by omega) (by omega) pq
    refine ⟨m', ?_, w2⟩
    unfold f_X12_rectangle_140
    rw [pq.e, X1, Y1, dX, dY, lb_eq, lb_eq]
    exact w1
end E4
