/-! A glyph marked, on both sides. -/
def cvF (_ i : Nat) : Bool := i == 24
def cvA (a : Nat) : Bool := a == 25 || a == 26
def mvF (f i : Nat) : Bool := i == 133 && (f == 1233 || f == 1235 || f == 1236 || f == 1249)
def mvA (a : Nat) : Bool := a == 157 || a == 163
section B1
variable {c c' c0 c1 c2 m m' m0 m1 m2 T : Mm} {d : Nat} {ov : Bool} {PF QF : Nat → Nat → Bool} {PA QA : Nat → Bool} {g L : Nat → Int32} {ox oy : Nat}
theorem Sh.z (h : Sh c m) : gI c 603 5 = 0 ∧ gI m 1233 133 = 0 := by
  obtain ⟨s, p, hW, _⟩ := h
  exact ⟨hW.2.2.2.2.1, hW.2.2.2.2.2.1⟩
theorem RR.nm (h : RR d ov c m) : f_X9_isMuch c = some (0, c) := by
  obtain ⟨q, q1, q2, q3⟩ := h.gn
  obtain ⟨k, v, hcv⟩ := h.cv
  unfold f_X9_isMuch
  rw [q1, if_neg (show ¬ (60000 : Int32) < nI q from nI_nlt (a := 60000) (by omega) (by omega)), hcv.u, if_pos rfl, h.sh.z.1, if_pos rfl]
theorem mu_of (h : (∃ q, gI c 916 23 = nI q ∧ 60000 < q ∧ q < 2147483648) ∨ ¬ gI c 5 24 = 0 ∨ ¬ gI c 603 5 = 0) : f_X9_isMuch c = some (1, c) := by
  unfold f_X9_isMuch
  rcases h with ⟨q, h1, h2, h3⟩ | h | h
  · rw [h1, if_pos (show (60000 : Int32) < nI q from nI_lt (a := 60000) h2 (by omega))]
  · rw [if_neg h]; split <;> rfl
  · rw [if_neg h]; split
    · rfl
    · split <;> rfl
theorem mu_inv (h : f_X9_isMuch c = some (1, c)) : (60000 : Int32) < gI c 916 23 ∨ ¬ gI c 5 24 = 0 ∨ ¬ gI c 603 5 = 0 := by
  unfold f_X9_isMuch at h
  by_cases q : (60000 : Int32) < gI c 916 23
  · exact Or.inl q
  · rw [if_neg q] at h
    by_cases q2 : gI c 5 24 = 0
    · rw [if_pos q2] at h
      by_cases q3 : gI c 603 5 = 0
      · rw [if_pos q3] at h
        have h1 := congrArg Prod.fst (Option.some.inj h)
        exact absurd h1 (show ¬ (0 : Int32) = 1 by decide)
      · exact Or.inr (Or.inr q3)
    · exact Or.inr (Or.inl q2)
theorem mu_mk (h : (60000 : Int32) < gI c 916 23 ∨ ¬ gI c 5 24 = 0 ∨ ¬ gI c 603 5 = 0) : f_X9_isMuch c = some (1, c) := by
  unfold f_X9_isMuch
  rcases h with h | h | h
  · rw [if_pos h]
  · rw [if_neg h]; split <;> rfl
  · rw [if_neg h]; split
    · rfl
    · split <;> rfl
theorem mu_fr (h : f_X9_isMuch c = some (1, c)) (e1 : gI c' 916 23 = gI c 916 23) (e2 : gI c' 5 24 = gI c 5 24) (e3 : gI c' 603 5 = gI c 603 5) : f_X9_isMuch c' = some (1, c') := mu_mk (by rw [e1, e2, e3]; exact mu_inv h)
/-- there is much now -/
theorem RR.mu {g' : Nat → Int32} (h : RR d ov c m) (fc : Fr PF PA c c') (fm : Fr QF QA m m') (e1 : ∀ f i, PF f i = true → cNS f i = true) (e2 : ∀ a, PA a = true → cNA a = true) (e3 : ∀ f i, QF f i = true → mNS f i = true) (e4 : ∀ a, QA a = true → mNA a = true) (e5 : PF 913 23 = false ∧ PF 914 23 = false ∧ PF 915 23 = false) (ev : EVq c' 45 g') (eb : EB g') (ka : KA c') (mu : f_X9_isMuch c' = some (1, c')) (m1 : gI m' 1233 133 = 1) : MU d ov c' m' := by
  refine MU_mk (WC_mk mu ⟨g', ev, eb⟩ ((fc.i e5.2.1).trans h.d1) h.d3 ((fc.i e5.2.2).trans h.o1) ka ((fc.r e5.1).trans h.rd) (h.ft.fcs.fr fc ⟨by
    cases y : PA 30
    · rfl
    · exact absurd (e2 _ y) (by decide), by
    cases y : PA 31
    · rfl
    · exact absurd (e2 _ y) (by decide), by
    cases y : PA 33
    · rfl
    · exact absurd (e2 _ y) (by decide)⟩)) m1 ((SHt.of h.ft h.tl h.mc).fr (fc.weak (fun f i z => ?_) (fun a z => ?_)) (fm.weak (fun f i z => ?_) (fun a z => ?_)))
  · cases y : PF f i
    · rfl
    · rw [e1 f i y] at z; cases z
  · cases y : PA a
    · rfl
    · rw [e2 a y] at z; cases z
  · cases y : QF f i
    · rfl
    · rw [e3 f i y] at z; cases z
  · cases y : QA a
    · rfl
    · rw [e4 a y] at z; cases z
/-- the canvas and the page alone have changed -/
theorem RR.pg {k v : Nat} (h : RR d ov c m) (fc : Fr cvF cvA c c') (fm : Fr mM0 mvA m m') (cv : CV c' m' (gA m 134) k v) : RR d ov c' m' := by
  obtain ⟨q, q1, q2, q3⟩ := h.gn
  obtain ⟨p, hp1, hp2⟩ := h.sh.pp
  have e34 : gA m' 134 = gA m 134 := fm.a rfl
  exact RR_mk (by rw [e34]; exact h.ev.fr fc (fun f i a b => by unfold cvF; simp; omega) (fun i a b => by unfold cvA; simp; omega)) (by rw [e34]; exact h.eb) ((fc.i rfl).trans h.d1) ((fm.i (by rfl)).trans h.d2) h.d3 ((fc.i rfl).trans h.o1) ((fm.i (by rfl)).trans h.o2) ((fm.i (by rfl)).trans h.im) ⟨q, (fc.i rfl).trans q1, (fm.i (by rfl)).trans q2, q3⟩
    ⟨k, v, by rw [e34]; exact cv⟩ (h.sh.fr hp1 hp2 fc fm (fun f => rfl) ⟨rfl, rfl, rfl, fun i hi => by unfold cvA; simp; omega⟩ ⟨rfl, rfl, rfl, rfl⟩ ⟨rfl, rfl, rfl, rfl⟩) (h.tb.fr fm rfl rfl) (h.ft.fr fc fm ⟨rfl, rfl, rfl, rfl, rfl, rfl⟩ ⟨rfl, rfl, rfl, rfl, rfl, rfl, rfl⟩ rfl)
    (h.ka.fr fc ⟨rfl, rfl⟩ ⟨rfl, rfl, rfl⟩) (h.tl.fr fc fm rfl ⟨rfl, rfl, rfl, rfl, rfl⟩ (fun f i a b => by unfold cvF; simp; omega) (fun i a b => by unfold cvA; simp; omega)) (h.mc.fr fc fm ⟨rfl, rfl, rfl⟩ ⟨rfl, rfl, rfl, rfl⟩) ((fc.r rfl).trans h.rd) (by rw [fm.r (by rfl)]; exact h.sc)
theorem KP.pg (fc : Fr cvF cvA c c') (fm : Fr mvF mvA m m') : KP d ov c m c' m' := by
  refine KP.of fc fm (fun f i h => ?_) (fun a h => ?_) (fun f i h => ?_) (fun a h => ?_)
  · unfold cvF at h; unfold skF; rw [h]; simp
  · unfold cvA at h
    rcases (show a = 25 ∨ a = 26 by simpa using h) with rfl | rfl <;> rfl
  · unfold mvF at h
    have : i = 133 ∧ (f = 1233 ∨ f = 1235 ∨ f = 1236 ∨ f = 1249) := by simpa [or_assoc] using h
    obtain ⟨rfl, rfl | rfl | rfl | rfl⟩ := this <;> exact ⟨rfl, by decide⟩
  · unfold mvA at h
    rcases (show a = 157 ∨ a = 163 by simpa using h) with rfl | rfl <;> exact ⟨rfl, by decide, by decide⟩
theorem c_head {s k : Nat} (hs : s < 494) (hk : k < 5) : f_X2_head (nI s) (nI k) c = some (gA c 33 (5 * s + k), c) := by
  unfold f_X2_head
  rw [show nI s * (5 : Int32) = nI (s * 5) from pk_mul s 5, nI_add, lb_eq, if_neg (nI_pos (by omega)), if_neg (show ¬ (2470 : Int32) ≤ nI (s * 5 + k) from nI_ge (b := 2470) (by omega) (by omega)), ix_in (j := s * 5 + k) (nI_pos (by omega)) (nI_clamp (by omega)) (by omega), show s * 5 + k = 5 * s + k by omega]
theorem c_rowOf {s k : Nat} (hs : s < 494) (hk : k < 32) : f_X2_rowOf (nI s) (nI k) c = some (gA c 34 (32 * s + k), c) := by
  unfold f_X2_rowOf
  rw [show nI s * (32 : Int32) = nI (s * 32) from pk_mul s 32, nI_add, lb_eq, if_neg (nI_pos (by omega)), if_neg (show ¬ (15808 : Int32) ≤ nI (s * 32 + k) from nI_ge (b := 15808) (by omega) (by omega)), ix_in (j := s * 32 + k) (nI_pos (by omega)) (nI_clamp (by omega)) (by omega), show s * 32 + k = 32 * s + k by omega]
/-- the dots of a glyph, as the class has them -/
def gS (c : Mm) (slot : Nat) (x0 y0 : Int) (X Y : Int) : Bool := bt (gA c 34 (32 * slot + (Y - y0).toNat)) (31 - (X - x0).toNat)
/-- the class's rows of a glyph -/
theorem c_grows {t fx tx fy ty slot w h : Nat} {so po : Bool} {x0 y0 : Int} (hty : ty ≤ 800) (hs : slot < 494) (x1 : -10000 ≤ x0) (x2 : x0 ≤ 10000) (y1 : -10000 ≤ y0) (y2 : y0 ≤ 10000) (hw : w ≤ 32) (hh : h ≤ 32) (b1 : y0 ≤ fy) (b2 : (ty : Int) ≤ y0 + h) (b3 : x0 ≤ fx) (b4 : (tx : Int) ≤ x0 + w) : ∀ (n y : Nat) (T : Mm), ty - y < n → fy ≤ y → y ≤ ty → IK T t L ox oy so po fx tx → gI T 9 24 = nI ty → Fr nF cvA c0 T → (∀ X Y : Nat, X < 800 → Y < 800 → dotW (gA T 25) (25 * Y) X = if (fy ≤ Y ∧ Y < y) ∧ fx ≤ X ∧ X < tx then pnt (gS c0 slot x0 y0 X Y) (pd L ((X : Int) - ox) ((Y : Int) - oy)) so po (dotW (gA c0 25) (25 * Y) X) else dotW (gA c0 25) (25 * Y) X) → ∃ c', f_X9_markGlyph_l127 n (nI slot) (iz x0) (iz y0) (nI y) T = some ((), c') ∧ Fr nF cvA c0 c' ∧ (∀ X Y : Nat, X < 800 → Y < 800 → dotW (gA c' 25) (25 * Y) X = if (fy ≤ Y ∧ Y < ty) ∧ fx ≤ X ∧ X < tx then pnt (gS c0 slot x0 y0 X Y) (pd L ((X : Int) - ox) ((Y : Int) - oy)) so po (dotW (gA c0 25) (25 * Y) X) else dotW (gA c0 25) (25 * Y) X) := by
  intro n
  induction n with
  | zero => intro y T h; omega
  | succ n ih =>
    intro y T h1 h2 h3 h4 h9 h5 h6
    show ∃ c', f_X9_markGlyph_b127 (f_X9_markGlyph_l127 n) (nI slot) (iz x0) (iz y0) (nI y) T = _ ∧ _
    unfold f_X9_markGlyph_b127
    rw [h9]
    by_cases q : ty ≤ y
    · have : y = ty := by omega
      subst this
      rw [if_pos (nI_le q (by omega))]
      exact ⟨T, rfl, h5, h6⟩
    · have hh1 := h4.h1
      have hh2 := h4.h2
      obtain ⟨r, hr, hr2⟩ : ∃ r : Nat, (y : Int) - y0 = r ∧ r < 32 := ⟨((y : Int) - y0).toNat, by omega, by omega⟩
      have kk := h4.k
      have tk : t + 1 ≠ 25 ∧ t + 1 ≠ 26 := by
        constructor
        · intro e
          rw [show t = 24 by omega] at kk; exact absurd kk (by decide)
        · intro e
          rw [show t = 25 by omega] at kk; exact absurd kk (by decide)
      obtain ⟨T1, l1, l2, l3⟩ := c_word (c := T) (x := x0) (b := gA T 34 (32 * slot + r)) x1 x2
      have ik1 := h4.fr (c' := T1) (PA := a26) l2 (by simp [a26]; omega)
      obtain ⟨T2, e1, e2, e3⟩ := c_prow ik1 (y := y) (by omega)
      have f2 : Fr nF cvA c0 T2 := (h5.trans (l2.weak (fun _ _ _ => rfl) (fun a e => by unfold cvA at e; unfold a26; revert e; simp))).trans (e2.weak (fun _ _ _ => rfl) (fun a e => by unfold cvA at e; unfold a25; revert e; simp; omega))
      rw [if_neg (nI_ge (by omega) (by omega)), show nI y - iz y0 = nI r by rw [nI_iz, iz_sub, hr, ← nI_iz], c_rowOf hs hr2, bd_eq, l1, bd_eq, e1, bd_eq, show nI y + 1 = nI (y + 1) from nI_add y 1]
      refine ih (y + 1) T2 (by omega) (by omega) (by omega) (ik1.fr e2 (by simp [a25]; omega)) ((e2.i rfl).trans ((l2.i rfl).trans h9)) f2 (fun X Y hX hY => ?_)
      rw [e3 X Y hX hY, l2.a (show a26 25 = false from rfl)]
      by_cases z : Y = y
      · subst z
        rw [h6 X Y hX hY, if_neg (show ¬ ((fy ≤ Y ∧ Y < Y) ∧ fx ≤ X ∧ X < tx) by omega)]
        by_cases k : fx ≤ X ∧ X < tx
        · rw [if_pos ⟨rfl, k⟩, if_pos ⟨by omega, k⟩, l3 X hX (by omega) (by omega)]
          unfold gS
          rw [h5.a (show cvA 34 = false from rfl), hr, show ((r : Int)).toNat = r from rfl]
        · rw [if_neg (fun v => k v.2), if_neg (fun v => k v.2)]
      · rw [if_neg (fun v => z v.1), h6 X Y hX hY]
        by_cases k : (fy ≤ Y ∧ Y < y) ∧ fx ≤ X ∧ X < tx
        · rw [if_pos k, if_pos ⟨by omega, k.2⟩]
        · rw [if_neg k, if_neg (fun v => k ⟨by omega, v.2⟩)]
theorem LV.src {S S' V : Int → Int → Bool} (h : LV m0 m g L ox oy S V) (e : ∀ x y : Nat, x < lgW g → y < lgH g → V x y = true → S' x y = S x y) : LV m0 m g L ox oy S' V := LV_mk h.q h.f (fun x y hx hy => by
  rw [h.d x y hx hy]
  cases q : V x y
  · rw [if_neg (by decide), if_neg (by decide)]
  · rw [if_pos rfl, if_pos rfl, e x y hx hy q])
theorem TR.ld {t : Nat} (h : TR c t L) (h1 : -32767 ≤ (L 1).toInt) (h2 : (L 1).toInt ≤ 32767) : LD L := by
  obtain ⟨a0, w, hh, a1, a2, a3, a4, a5, a6, a7, a8, a9⟩ := h
  exact ⟨a0, fun e => ⟨w, hh, a1, a2, a3, a4, (a8 e).1, (a8 e).2⟩, h1, h2⟩
/-- a mark of both sides, its dots painted by these programs -/
theorem two_mark {t slot w hh : Nat} {x0 y0 : Int} {S : Int → Int → Bool} {F : Mm → Option (Unit × Mm)} {P1 G : Mm → Option (Unit × Mm)} (h : RR d ov c m) (kt : kS true t = 10) (ht : TR c t L) (htf : t + 1 ≠ 25 ∧ t + 1 ≠ 26 ∧ t ≠ 24) (l1 : -32767 ≤ (L 1).toInt) (l2 : (L 1).toInt ≤ 32767) (x1 : -1000 ≤ x0) (x2 : x0 ≤ 1000) (y1 : -1000 ≤ y0) (y2 : y0 ≤ 1000) (hw : w ≤ 40000) (hh2 : hh ≤ 40000)
    (hF : ∀ c1 fx tx fy ty, Fr (fun f i => i == 24 && !(f == 2 || f == 4 || f == 5)) noA c c1 ∨ Fr cvF noA c c1 → IK c1 t L ox oy (decide (gA m 134 49 = 1)) (isPo (gA m 134) L) fx tx → gI c1 8 24 = nI fy → gI c1 9 24 = nI ty → fy < ty → ty ≤ 800 → (x0 ≤ fx ∧ (tx : Int) ≤ x0 + w) → (y0 ≤ fy ∧ (ty : Int) ≤ y0 + hh) → ∃ c', F c1 = some ((), c') ∧ Fr nF cvA c1 c' ∧ ∀ X Y : Nat, X < 800 → Y < 800 → dotW (gA c' 25) (25 * Y) X = if (fy ≤ Y ∧ Y < ty) ∧ fx ≤ X ∧ X < tx then pnt (S X Y) (pd L ((X : Int) - ox) ((Y : Int) - oy)) (decide (gA m 134 49 = 1)) (isPo (gA m 134) L) (dotW (gA c1 25) (25 * Y) X) else dotW (gA c1 25) (25 * Y) X)
    (hP : ∀ m1, Fr mM0 noA m m1 → ∃ m2, P1 m1 = some ((), m2) ∧ Fr nF a163 m1 m2 ∧ ∀ k, k < 20 → gA m2 163 k = L k)
    (hG : ∀ m2, Fr mM0 mvA m m2 → PQ m2 (gA m 134) L ox oy → ∃ m3, G m2 = some ((), m3) ∧ LV m2 m3 (gA m 134) L ox oy S (fun a b => inR x0 w a && inR y0 hh b))
    (ex : gA m 134 51 = nI ox) (ey : gA m 134 52 = nI oy) (hox : ox ≤ 800) (hoy : oy ≤ 800) :
    ∃ c', (bd (f_X0_ink t 45 c) fun _ T11 => bd (f_X9_isMuch T11) fun v12 T13 => if v12 = 0 then (bd (f_X0_mark 46 (iz x0) (iz y0) (nI w) (nI hh) T13) fun v14 T15 => if v14 = 0 then (some ((), T15)) else (F T15)) else (some ((), T13))) = some ((), c') ∧ Fr cvF cvA c c' ∧
      ((∃ m1, f_X12_mark (jz x0) (jz y0) (jz w) (jz hh) m = some (0, m1) ∧ MU d ov c' m1 ∧ Fr mMkF noA m m1) ∨ (∃ m1 m2 m3, f_X12_mark (jz x0) (jz y0) (jz w) (jz hh) m = some (1, m1) ∧ P1 m1 = some ((), m2) ∧ G m2 = some ((), m3) ∧ RR d ov c' m3 ∧ Fr mM0 mvA m m3)) := by
  obtain ⟨k, v, hcv⟩ := h.cv
  have hW := lgW_le (gA m 134)
  have hH := lgH_le (gA m 134)
  obtain ⟨c1, i1, i2, i3, i4, i5, i6, i7⟩ := c_ink h.ev h.eb ht
  have sf1 : SF c1 46 (gA m 134) := by
    have sf := h.ev.sf h.eb
    exact ⟨(i2.i (by rfl)).trans sf.1, (i2.i (by rfl)).trans sf.2.1, sf.2.2⟩
  have i2' : Fr cvF cvA c c1 := i2.weak (fun f i e => by unfold cvF at e; unfold cInF; revert e; simp; intro e e2; exact absurd e2 e) (fun _ _ => rfl)
  have cv1 : CV c1 m (gA m 134) k v := hcv.fr i2 (Fr.refl (PF := nF) (PA := noA)) rfl rfl ⟨rfl, rfl, rfl⟩ ⟨rfl, rfl⟩ rfl rfl
  have nm1 : f_X9_isMuch c1 = some (0, c1) := by
    have := h.nm
    unfold f_X9_isMuch at this ⊢
    rw [i2.i (by rfl), i2.i (by rfl), i2.i (by rfl)]
    split at this
    · exact absurd (congrArg Prod.fst (Option.some.inj this)) (show ¬ (1 : Int32) = 0 by decide)
    · rename_i q1
      rw [if_neg q1]
      split at this
      · rename_i q2
        rw [if_pos q2]
        split at this
        · rename_i q3
          rw [if_pos q3]
        · exact absurd (congrArg Prod.fst (Option.some.inj this)) (show ¬ (1 : Int32) = 0 by decide)
      · exact absurd (congrArg Prod.fst (Option.some.inj this)) (show ¬ (1 : Int32) = 0 by decide)
  obtain ⟨rc, c2, rm, m1, e1, e2, q1, q2, q3⟩ := P2_mark (c := c1) (m := m) (g := gA m 134) (x := x0) (y := y0) (w := (w : Int)) (h := (hh : Int)) sf1 rfl cv1 (by omega) (by omega) (by omega) (by omega) (by omega) (by omega) (by omega) (by omega)
  rw [← nI_iz, ← nI_iz] at e1
  have q1' : Fr cvF cvA c c2 := i2'.trans (q1.weak (fun f i e => by unfold cvF at e; unfold cMkF; revert e; simp; intro e e2; exact absurd e2 e) (fun _ _ => rfl))
  rw [i1, bd_eq, nm1, bd_eq, if_pos rfl, e1, bd_eq]
  rcases q3 with ⟨r1, r2, r3, r4⟩ | ⟨r1, r2, v', cv2, r3⟩
  · subst r1; subst r2
    rw [if_pos rfl]
    refine ⟨c2, rfl, q1', Or.inl ⟨m1, e2, h.mu q1' q2 ?_ ?_ ?_ ?_ ⟨rfl, rfl, rfl⟩ (h.ev.fr q1' (fun f i a b => by unfold cvF; simp; omega) (fun i a b => by unfold cvA; simp; omega)) h.eb (h.ka.fr q1' ⟨rfl, rfl⟩ ⟨rfl, rfl, rfl⟩) (mu_mk (Or.inr (Or.inl (by rw [r3]; decide)))) r4, q2⟩⟩
    · intro f i e
      have : i = 24 := by simpa [cvF] using e
      subst this; rfl
    · intro a e
      unfold cvA at e
      rcases (show a = 25 ∨ a = 26 by simpa using e) with rfl | rfl <;> rfl
    · intro f i e
      unfold mMkF at e
      have : i = 133 ∧ (f = 1233 ∨ f = 1235 ∨ f = 1236 ∨ f = 1249) := by simpa [or_assoc] using e
      obtain ⟨rfl, rfl | rfl | rfl | rfl⟩ := this <;> rfl
    · intro a e; cases e
  · subst r1
    obtain ⟨m2, p1, p2, p3⟩ := hP m1 r2
    have fm2 : Fr mM0 mvA m m2 := (r2.weak (fun _ _ e => e) (fun _ _ => rfl)).trans (p2.weak (fun _ _ _ => rfl) (fun a e => by unfold mvA at e; unfold a163; revert e; simp))
    have ld := ht.ld l1 l2
    have pq : PQ m2 (gA m 134) L ox oy := PQ_mk p3 ld (fm2.a rfl) ex ey hox hoy h.eb.k1
    obtain ⟨m3, g1, g2⟩ := hG m2 fm2 pq
    have fm3 : Fr mM0 mvA m m3 := fm2.trans (g2.f.weak (fun _ _ _ => rfl) (fun a e => by unfold mvA at e; unfold a157; revert e; simp; omega))
    have cv3 : CV c2 m2 (gA m 134) (k + 1) v' := cv2.fr (Fr.refl (PF := nF) (PA := noA)) p2 rfl rfl ⟨rfl, rfl, rfl⟩ ⟨rfl, rfl⟩ rfl rfl
    have ik : ∀ fx tx, gI c2 6 24 = nI fx → gI c2 7 24 = nI tx → fx < tx → tx ≤ 800 → IK c2 t L ox oy (decide (gA m 134 49 = 1)) (isPo (gA m 134) L) fx tx := fun fx tx a1 a2 a3 a4 =>
      IK_mk ((q1.r (by rfl)).trans i3) kt (ht.fr (q1'.i (by simp [cvF]; exact htf.2.2)) (q1'.i (by simp [cvF]; exact htf.2.2)) (q1'.i (by simp [cvF]; exact htf.2.2)) (q1'.b (by simp [cvA]; omega))) ((q1.i (by rfl)).trans (i4.trans ex)) ((q1.i (by rfl)).trans (i5.trans ey)) ((q1.i (by rfl)).trans i6) ((q1.i (by rfl)).trans i7) a1 a2 hox hoy a3 a4
    rcases r3 with ⟨s1, s2⟩ | ⟨s1, fx, tx, fy, ty, s2, s3, s4, s5, s6, s7, s8, s9, s10⟩
    · subst s1
      rw [if_pos rfl]
      have cv4 : CV c2 m3 (gA m 134) (k + 1) v' := cv3.paint (c2 := c2) (PA := noA) (S := S) (B := fun _ _ => false) (by omega) Fr.refl g2 (fun X Y e => by cases e) (fun X Y hX hY => by
        have := s2 X Y hX hY
        cases y : (inR x0 w X && inR y0 hh Y)
        · rfl
        · rw [Bool.and_eq_true, inR_t, inR_t] at y
          exact absurd ⟨y.1, y.2⟩ this) (fun X Y _ _ => by rw [if_neg (by decide)])
      exact ⟨c2, rfl, q1', Or.inr ⟨m1, m2, m3, e2, p1, g1, h.pg q1' fm3 cv4, fm3⟩⟩
    · subst s1
      rw [if_neg (by decide)]
      have bx := (s10 fx fy (by omega) (by omega)).mpr ⟨⟨by omega, by omega⟩, by omega, by omega⟩
      have bx2 := (s10 (tx - 1) (ty - 1) (by omega) (by omega)).mpr ⟨⟨by omega, by omega⟩, by omega, by omega⟩
      obtain ⟨c3, f1, f2, f3⟩ := hF c2 fx tx fy ty (Or.inr ((i2.weak (fun f i e => by unfold cvF at e; unfold cInF; revert e; simp; intro e e2; exact absurd e2 e) (fun _ e => e)).trans (q1.weak (fun f i e => by unfold cvF at e; unfold cMkF; revert e; simp; intro e e2; exact absurd e2 e) (fun _ e => e)))) (ik fx tx s6 s7 s2 (by omega)) s8 s9 s4 (by omega) (by omega) (by omega)
      rw [f1]
      have q3' : Fr cvF cvA c c3 := q1'.trans (f2.weak (fun _ _ _ => rfl) (fun _ e => e))
      have cv4 : CV c3 m3 (gA m 134) (k + 1) v' := cv3.paint (PA := cvA) (S := S) (B := fun X Y => (decide (fx ≤ X) && decide (X < tx)) && (decide (fy ≤ Y) && decide (Y < ty))) (by omega) f2 g2 (fun X Y e => by
        simp only [Bool.and_eq_true, decide_eq_true_eq] at e; omega) (fun X Y hX hY => by
        have := s10 X Y hX hY
        rw [Bool.eq_iff_iff]
        simp only [Bool.and_eq_true, decide_eq_true_eq, inR_t]
        exact this) (fun X Y hX hY => by
        rw [f3 X Y hX hY]
        by_cases z : (fy ≤ Y ∧ Y < ty) ∧ fx ≤ X ∧ X < tx
        · rw [if_pos z, if_pos (by simp only [Bool.and_eq_true, decide_eq_true_eq]; omega)]
        · rw [if_neg z, if_neg (by simp only [Bool.and_eq_true, decide_eq_true_eq]; omega)])
      exact ⟨c3, rfl, q3', Or.inr ⟨m1, m2, m3, e2, p1, g1, h.pg q3' fm3 cv4, fm3⟩⟩
end B1
