/-! A row of data, by its field, on both sides. -/
section H7
variable {c c' c0 c1 c2 c3 m m' m0 m1 m2 m3 T T' M' : Mm} {d w b A o M o' n p r q a i s f k u h rb t v fl cnt wd sc st ox oy y : Nat} {F : Nat → Nat} {ov ov' ng sg z : Bool} {g L : Nat → Int32} {Gc Gm : Gty} {PF QF : Nat → Nat → Bool} {PA QA : Nat → Bool} {S V V1 V2 : Int → Int → Bool}
/-- the dots of a row laid, without its end -/
noncomputable def rowG (wd sc y st : Nat) (g L : Nat → Int32) (ox oy : Nat) (T : Mm) : Option (Unit × Mm) := @dite _ (∃ T', f_X12_rowData_l140 FU (nI wd) (nI sc) (nI y) 0 T = rFin sc T' ∧ LV T T' g L ox oy (rS g st sc) (fun a b => inR (st : Int) ((sc * wd : Nat) : Int) a && inR (y : Int) sc b)) (Classical.propDecidable _) (fun h => some ((), Classical.choose h)) (fun _ => none)
theorem rowG_of {T3 : Mm} (h : rowG wd sc y st g L ox oy T = some ((), T3)) : f_X12_rowData_l140 FU (nI wd) (nI sc) (nI y) 0 T = rFin sc T3 := by
  unfold rowG at h
  split at h
  · rename_i hh
    have := (Classical.choose_spec hh).1
    have e := congrArg Prod.snd (Option.some.inj h)
    dsimp only at e
    rw [e] at this
    exact this
  · cases h
theorem rowG_ok (e58 : g 58 = nI st) (hst : st ≤ 800) (hs1 : 1 ≤ sc) (hs4 : sc ≤ 4) (w2 : wd ≤ 640) (hy : y ≤ 800) (q : PQ T g L ox oy) : ∃ T3, rowG wd sc y st g L ox oy T = some ((), T3) ∧ LV T T3 g L ox oy (rS g st sc) (fun a b => inR (st : Int) ((sc * wd : Nat) : Int) a && inR (y : Int) sc b) := by
  have hh : ∃ T', f_X12_rowData_l140 FU (nI wd) (nI sc) (nI y) 0 T = rFin sc T' ∧ LV T T' g L ox oy (rS g st sc) (fun a b => inR (st : Int) ((sc * wd : Nat) : Int) a && inR (y : Int) sc b) := m_l140 e58 hst hs1 hs4 w2 hy FU 0 T (FU_gt (by omega)) (by omega) ((LV.refl q).congr (fun a b _ _ => by rw [Nat.mul_zero, inR_0, Bool.false_and]))
  refine ⟨Classical.choose hh, ?_, (Classical.choose_spec hh).2⟩
  unfold rowG
  rw [dif_pos hh]
/-- the dots of a row -/
def rWd (g : Nat → Int32) (wd : Nat) : Prop := 1 ≤ wd ∧ wd ≤ 640 ∧ ((g 55 = -1 ∧ wd = 640) ∨ (¬ g 55 = -1 ∧ (g 55 ≤ 640 ∧ g 55 = nI wd ∨ ¬ g 55 ≤ 640 ∧ wd = 640)))
theorem rWd_ex (e : EB g) : ∃ wd, rWd g wd ∧ ∀ T : Mm, gI T 402 48 = rz (g 55) → f_X4_dotsInRow 48 T = some (nI wd, T) := by
  obtain ⟨z, z0, z1, z2⟩ := e.k55
  have ez := e.z.1
  by_cases q : g 55 = -1
  · refine ⟨640, ⟨by omega, by omega, Or.inl ⟨q, rfl⟩⟩, fun T hT => ?_⟩
    unfold f_X4_dotsInRow
    rw [hT, q, show rz (-1) = 0 from rfl, if_pos (by decide)]; rfl
  · have hz : 1 ≤ z := by
      have n1 : z ≠ -1 := fun y => q (by rw [z0, y]; decide)
      have n0 : z ≠ 0 := fun y => ez (by rw [z0, y]; rfl)
      omega
    obtain ⟨x, rfl⟩ : ∃ x : Nat, z = (x : Int) := ⟨z.toNat, by omega⟩
    rw [← nI_iz] at z0
    have er : rz (g 55) = nI x := by unfold rz; rw [if_neg q, z0]
    have n0 : ¬ nI x ≤ 0 := nI_ge (a := 0) (by omega) (by omega)
    by_cases y : x ≤ 640
    · refine ⟨x, ⟨by omega, y, Or.inr ⟨q, Or.inl ⟨by rw [z0]; exact nI_le (b := 640) y (by omega), z0⟩⟩⟩, fun T hT => ?_⟩
      unfold f_X4_dotsInRow
      rw [hT, er, if_neg n0, f_min, bd_eq, if_neg (show ¬ (640 : Int32) < nI x from nI_nlt (a := 640) y (by omega))]
    · refine ⟨640, ⟨by omega, by omega, Or.inr ⟨q, Or.inr ⟨by rw [z0]; exact nI_ge (a := 640) (by omega) (by omega), rfl⟩⟩⟩, fun T hT => ?_⟩
      unfold f_X4_dotsInRow
      rw [hT, er, if_neg n0, f_min, bd_eq, if_pos (show (640 : Int32) < nI x from nI_lt (a := 640) (by omega) (by omega))]; rfl
/-- the row marked and painted, the place known -/
theorem P2_rowIn (h : RR d ov c m) (e57 : gA m 134 57 = 1) (nf : ¬ gA m 134 56 = -1 → gA m 134 59 < gA m 134 56) (hwd : rWd (gA m 134) wd) (hdir : ∀ T : Mm, gI T 402 48 = rz (gA m 134 55) → f_X4_dotsInRow 48 T = some (nI wd, T)) : P2 (bd (f_X0_layRow 48 c) fun _ T6 => lb (((gI T6 707 46) / 96)) fun v7 => bd (f_X4_dotsInRow 48 T6) fun v8 T9 => lb (((gI T6 400 48) * v8)) fun v10 => bd (f_X9_markBox (gI T9 405 48) v7 v10 (gI T9 400 48) 50 T9) fun _ T11 => bd (f_X9_growRows 1 T11) fun _ T12 => some ((), T12)) (f_X12_rowData_86 (nI wd) m) (fun _ c' _ m' => OU d ov c m c' m') := by
  obtain ⟨w1, w2, _⟩ := hwd
  obtain ⟨sc, s1, s2, s3⟩ := h.eb.k53
  obtain ⟨st, t1, t2⟩ := h.eb.k58
  obtain ⟨Y, Y1, Y2⟩ := h.eb.k190
  obtain ⟨px, px1, px2⟩ := h.eb.k51
  obtain ⟨py, py1, py2⟩ := h.eb.k52
  obtain ⟨pn, pn1, pn2, pn3⟩ := h.eb.k30
  have e400 : gI c 400 48 = nI sc := (h.ev.i (400, 3, 53) (by decide)).trans s1
  have e405 : gI c 405 48 = nI st := (h.ev.i (405, 3, 58) (by decide)).trans t1
  obtain ⟨c1, b1, b2, b3⟩ := c_layRow e405 e400 (fun T hT => hdir T (hT.trans h.ev.w)) t2 s2 s3 w1 w2
  have h1 := h.ln26 b2
  have e707 : gI c1 707 46 = nI Y := (h1.ev.i (707, 1, 190) (by decide)).trans Y1
  have f400 : gI c1 400 48 = nI sc := (b2.i rfl).trans e400
  have f405 : gI c1 405 48 = nI st := (b2.i rfl).trans e405
  have dY : nI Y / 96 = nI (Y / 96) := pk_div (d := 96) (by omega) (by decide) (by decide)
  have hm : sc * wd ≤ 4 * 640 := Nat.mul_le_mul s3 w2
  have er : ∀ i, i < 640 → rwC c i = bt (gA m 134 (60 + i / 8)) (7 - i % 8) := fun i hi => h.ev.b i hi
  rw [b1, bd_eq, e707, dY, lb_eq, hdir c1 ((b2.i rfl).trans h.ev.w), bd_eq, f400, pk_mul, lb_eq, f405]
  unfold f_X12_rowData_86
  rw [s1, lb_eq, Y1, dY, lb_eq, t1, pk_mul, Nat.mul_comm wd sc, nI_j (by omega), nI_j (by omega), nI_j (by omega), nI_j (by omega)]
  have tm := two_mark (slot := 0) (L := fun j => gA m 134 (29 + j)) (ox := px) (oy := py) (t := 50) (w := sc * wd) (hh := sc) (x0 := (st : Int)) (y0 := ((Y / 96 : Nat) : Int)) (S := rS (gA m 134) st sc) (F := fun T5 => lb ((gI T5 8 24)) fun v6 => f_X9_markBox_l51 FU v6 T5) (P1 := f_X12_useAtHand) (G := rowG wd sc (Y / 96) st (gA m 134) (fun j => gA m 134 (29 + j)) px py) h1 (by decide) h1.ev.t (by decide) (by rw [pn1, iz_int (by omega) (by omega)]; exact pn2) (by rw [pn1, iz_int (by omega) (by omega)]; exact pn3) (by omega) (by omega) (by omega) (by omega) (by omega) (by omega) (fun c2 fx tx fy ty hf ik z8 z9 y1 y2 x3 x4 => ?_) (fun m1 hf => m_use (hf.a rfl)) (fun m2 fm pq => rowG_ok t1 t2 s2 s3 w2 (by omega) pq) px1 py1 px2 py2
  · obtain ⟨c', q1, q2, q3⟩ := tm
    have kc : KP d ov c m c1 m := KP.boxC b2 (fun _ _ e => by cases e) (fun a e => by
      have : a = 26 := by simpa [a26] using e
      exact Or.inr (Or.inl this))
    unfold f_X9_markBox
    rw [nI_iz st, nI_iz (Y / 96), q1, bd_eq, bd_u]
    rcases q3 with ⟨m1, f1, f2, f3⟩ | ⟨m1, m2, m3, f1, f2, f3, f4, f5⟩
    · rw [f1, bd_eq, if_pos rfl]
      have e34 : gA m1 134 = gA m 134 := f3.a rfl
      have ev' : EVq c' 45 (gA m1 134) := by
        rw [e34]
        exact h1.ev.fr q2 (fun f i a b => by unfold cvF; simp; omega) (fun i a b => by unfold cvA; simp; omega)
      obtain ⟨c3, m4, g1, g2, g3⟩ := two_fin (sc := sc) ev' (by rw [e34]; exact h.eb) (by rw [e34]; exact s1) (by rw [e34]; exact e57) (by rw [e34]; exact nf)
      rw [g1]
      have mq := f2.env g3.fc ⟨_, g3.v, g3.b⟩
      have ou : OU d ov c m c' m1 := OU.pre kc (fun _ => ⟨rfl, rfl⟩) ⟨Or.inr f2, KP.pg q2 (f3.weak (fun _ _ e => e) (fun _ _ => rfl)), fun _ => by rw [e34]; exact ⟨rfl, rfl⟩⟩
      exact P2_ret (ou.muc mq)
    · have e34 : gA m3 134 = gA m 134 := f5.a rfl
      obtain ⟨c3, m4, g1, g2, g3⟩ := two_fin (sc := sc) f4.ev f4.eb (by rw [e34]; exact s1) (by rw [e34]; exact e57) (by rw [e34]; exact nf)
      rw [f1, bd_eq, if_neg (show ¬ (1 : Int32) = 0 by decide), f2, bd_eq, ← nI_iz (Y / 96), rowG_of f3, g1, g2]
      have ou : OU d ov c m c' m3 := OU.pre kc (fun _ => ⟨rfl, rfl⟩) ⟨Or.inl f4, KP.pg q2 (f5.weak (fun f i e => by unfold mvF at e; unfold mM0; revert e; simp; omega) (fun _ e => e)), fun _ => by rw [e34]; exact ⟨rfl, rfl⟩⟩
      exact P2_ret (OU.pre ou.2.1 ou.2.2 (OU.env f4 g3))
  · have e26 : gA c2 26 = gA c1 26 := by
      rcases hf with hf | hf
      · exact hf.a rfl
      · exact hf.a rfl
    rw [lb_eq, z8]
    obtain ⟨c', q1, q2, q3⟩ := c_rows (c0 := c2) (L := fun j => gA m 134 (29 + j)) (t := 50) (fx := fx) (tx := tx) (fy := fy) (ty := ty) y2 FU fy c2 (FU_gt (by omega)) (by omega) (by omega) ik z9 Fr.refl (fun A B _ _ => by rw [if_neg (by omega)])
    refine ⟨c', q1, q2.weak (fun _ _ e => e) (fun a e => by unfold cvA at e; unfold a25; revert e; simp; omega), fun A B hA hB => ?_⟩
    rw [q3 A B hA hB, e26, b3 A hA]
    by_cases y : (fy ≤ B ∧ B < ty) ∧ fx ≤ A ∧ A < tx
    · have hk : (A - st) / sc < wd := by
        rw [Nat.div_lt_iff_lt_mul (by omega), Nat.mul_comm]; omega
      have hn : ((A : Int) - (st : Int)).toNat = A - st := by omega
      rw [if_pos y, if_pos y]
      unfold lnR rS
      rw [decide_eq_true (show st ≤ A by omega), decide_eq_true hk, er _ (by omega), hn]
      rfl
    · rw [if_neg y, if_neg y]
theorem P2_rowFrom (h : RR d ov c m) (h4 : DT c m d A o M o' n F p s) (e57 : gA m 134 57 = 1) : P2 (f_X9_rasterRow_20 c) (f_X12_rowData_15 (nI s) m) (fun _ c' _ m' => OU d ov c m c' m') := by
  have stay : P2 (some ((), c)) (some ((), m)) (fun _ c' _ m' => OU d ov c m c' m') := P2_ret (OU.refl h)
  obtain ⟨z, z0, z1, z2⟩ := h.eb.k56
  have ez := h.eb.z.2
  have go : (¬ gA m 134 56 = -1 → gA m 134 59 < gA m 134 56) → P2 (rf true (gR c 913 23) 5 fun j3 => bd (f_X4_unpack 48 j3 c) fun _ T5 => bd (f_X0_layRow 48 T5) fun _ T6 => lb (((gI T6 707 46) / 96)) fun v7 => bd (f_X4_dotsInRow 48 T6) fun v8 T9 => lb (((gI T6 400 48) * v8)) fun v10 => bd (f_X9_markBox (gI T9 405 48) v7 v10 (gI T9 400 48) 50 T9) fun _ T11 => bd (f_X9_growRows 1 T11) fun _ T12 => some ((), T12)) (f_X12_rowData_44 (nI s) m) (fun _ c' _ m' => OU d ov c m c' m') := fun nf => by
    obtain ⟨c1, m1, x1, x2, x3⟩ := two_unpack h h4
    obtain ⟨v1, v2, v3⟩ := ue_env h.ev h.eb x3
    have ou := OU.ue h x3
    have rr1 : RR d ov c1 m1 := by
      rcases ou.1 with y | y
      · exact y
      · have := h.sh.z.2
        have e := x3.2.1.i (f := 1233) (i := 133) (by rfl)
        rw [y.m1, this] at e
        exact absurd e (by decide)
    have s55 := v3 55 (by omega)
    have s56 := v3 56 (by omega)
    have s57 := v3 57 (by omega)
    have s59 := v3 59 (by omega)
    obtain ⟨wd, hw, hdir⟩ := rWd_ex v2
    unfold f_X12_rowData_44
    rw [rd_eq h, x1, bd_eq, x2, bd_eq]
    have core := P2_rowIn rr1 (by rw [s57]; exact e57) (by rw [s56, s59]; exact nf) hw hdir
    have em : (if gA m1 134 55 = -1 then f_X12_rowData_86 640 m1 else if gA m1 134 55 ≤ 640 then f_X12_rowData_86 (gA m1 134 55) m1 else f_X12_rowData_86 640 m1) = f_X12_rowData_86 (nI wd) m1 := by
      rcases hw.2.2 with ⟨q1, q2⟩ | ⟨q1, ⟨q2, q3⟩ | ⟨q2, q3⟩⟩
      · rw [if_pos q1, q2]; rfl
      · rw [if_neg q1, if_pos q2, q3]
      · rw [if_neg q1, if_neg q2, q3]; rfl
    rw [em]
    exact P2_mono core (fun _ c' _ m' q => OU.pre ou.2.1 ou.2.2 q)
  unfold f_X9_rasterRow_20 f_X12_rowData_15 f_X4_isFull
  rw [h.ev.h]
  by_cases q : gA m 134 56 = -1
  · rw [q, show rz (-1) = 0 from rfl, if_pos (show (0 : Int32) ≤ 0 by decide), bd_eq, if_pos rfl, if_pos rfl]
    exact go (fun y => absurd q y)
  · have hz : 1 ≤ z := by
      have n1 : z ≠ -1 := fun y => q (by rw [z0, y]; decide)
      have n0 : z ≠ 0 := fun y => ez (by rw [z0, y]; rfl)
      omega
    have erz : rz (gA m 134 56) = gA m 134 56 := by unfold rz; rw [if_neg q]
    have nz : ¬ gA m 134 56 ≤ 0 := by
      rw [z0]
      exact fun y => by
        have := (iz_le (a := z) (b := 0) (by omega) (by omega) (by omega) (by omega)).mp y
        omega
    rw [erz, if_neg nz, h.ev.r e57 q, if_neg q]
    by_cases q2 : gA m 134 59 < gA m 134 56
    · rw [if_pos q2, bd_eq, if_pos rfl, if_pos q2]
      exact go (fun _ => q2)
    · rw [if_neg q2, bd_eq, if_neg (show ¬ (1 : Int32) = 0 by decide), if_neg q2]
      exact stay
/-- a row of data -/
theorem P2_rowData (h : RR d ov c m) (h4 : DT c m d A o M o' n F p s) : P2 (f_X9_rasterRow c) (f_X12_rowData (nI s) m) (fun _ c' _ m' => OU d ov c m c' m') := by
  have hd := h.d3
  unfold f_X9_rasterRow f_X12_rowData
  rw [show gI c 404 48 = gA m 134 57 from h.ev.i (404, 3, 57) (by decide)]
  obtain ⟨x, x0, x1⟩ := h.eb.k57
  by_cases q : gA m 134 57 = 0
  · rw [if_pos q, if_pos q]
    obtain ⟨c1, m1, y1, y2, y3⟩ := two_begin0 h.ev h.eb
    have ou := OU.env h y3
    have rr1 : RR d ov c1 m1 := h.env y3.fc y3.fm y3.v y3.b y3.e0 y3.e1
    rw [y1, y2, bd_eq, bd_eq]
    have e57 : gA m1 134 57 = 1 := by
      have h404 : gI c1 404 48 = 1 := by
        have y1' := y1
        unfold f_X9_beginRaster f_X9_beginRaster_15 f_X4_begin f_X4_clearRow at y1'
        rw [if_pos rfl] at y1'
        obtain ⟨c5, m5, s1, s2, s3, _⟩ := mx (z := 0) h.ev h.eb (by omega) (by omega)
        rw [show (0 : Int64) = jz 0 from rfl, s1, bd_eq, bd_u, lb_eq, lb_eq, lb_eq, bd_u, bd_u, f_fill (by decide)] at y1'
        have e := congrArg Prod.snd (Option.some.inj y1')
        dsimp only at e
        rw [← e, gI_vA, gI_uI, if_neg (by decide), gI_uI, if_neg (by decide), gI_uI, if_pos ⟨rfl, rfl⟩]
      exact (rr1.ev.i (404, 3, 57) (by decide)).symm.trans h404
    exact P2_mono (P2_rowFrom rr1 (h4.kp hd ou.2.1) e57) (fun _ c' _ m' z => OU.pre ou.2.1 ou.2.2 z)
  · have e57 : gA m 134 57 = 1 := by
      rcases (show x = 0 ∨ x = 1 by omega) with rfl | rfl
      · exact absurd x0 q
      · exact x0
    rw [if_neg q, if_neg q]
    exact P2_rowFrom h h4 e57
end H7
