/-! A macro is gone through, on both sides; all depths. -/
section J3
variable {c c' c0 c1 c2 c3 m m' m0 m1 m2 m3 m7 T T' M' : Mm} {d d' w b A o M o' n p p1 r q a i s f k u h rb t v kd gp L N : Nat} {F : Nat → Nat} {ov ov' ng sg z sm wt e : Bool} {g : Nat → Int32} {Gc Gm : Gty} {PF QF : Nat → Nat → Bool} {PA QA : Nat → Bool}
def dcF (f i : Nat) : Bool := i == 133 && (f == 1226 || f == 1228 || f == 1229 || f == 1230)
def d5F (f i : Nat) : Bool := i == 133 && (f == 1226 || f == 1227 || f == 1228 || f == 1229 || f == 1230)
/-- on the reference's side: the state in the macro, and what it is set back to -/
theorem th_in (hd : d ≤ 2) (hu : u < 16) (e150 : gA m1 150 u = nI s) (hs : s ≤ 1500) (e29 : gI m1 1229 133 = nI d) : ∃ m6, thT Gm (nI u) A (gI m1 1227 133) (gI m1 1228 133) (gI m1 1230 133) (nI (1500 * d)) m1 = (bd (f_X12_run Gm m6) fun _ T10 => lb (uR T10 1226 133 (some A)) fun T11 => lb (uI T11 1227 133 (gI m1 1227 133)) fun T12 => lb (uI T12 1228 133 (gI m1 1228 133)) fun T13 => gd ((gI m1 1230 133) = 0 ∨ (gI m1 1230 133) = 1) <| lb (uI T13 1230 133 (gI m1 1230 133)) fun T15 => lb (uI T15 1229 133 ((gI T15 1229 133) - 1)) fun T16 => some ((), T16)) ∧ Fr d5F noA m1 m6 ∧ gI m6 1229 133 = nI (d + 1) ∧ gI m6 1230 133 = 1 ∧ gR m6 1226 133 = some 156 ∧ gI m6 1227 133 = nI (1500 * d) ∧ gI m6 1228 133 = nI (1500 * d + s) ∧ (∀ f, gJ m6 f 133 = gJ m1 f 133) ∧ (∀ f, f ≠ 1226 → gR m6 f 133 = gR m1 f 133) ∧ gI m6 1226 133 = gI m1 1226 133 := by
  refine ⟨uI (uI (uR (uI (uI m1 1229 133 (nI (d + 1))) 1230 133 1) 1226 133 (some 156)) 1227 133 (nI (1500 * d))) 1228 133 (nI (1500 * d + s)), ?_, ?_, ?_, ?_, ?_, ?_, ?_, fun f => rfl, fun f hf => ?_, ?_⟩
  · unfold thT
    rw [e29, show nI d + 1 = nI (d + 1) from nI_add _ 1, lb_eq, lb_eq, lb_eq, lb_eq, ix_in (j := u) (nI_pos (by omega)) (nI_clamp (by omega)) (by omega), show gA (uI (uR (uI (uI m1 1229 133 (nI (d + 1))) 1230 133 1) 1226 133 (some 156)) 1227 133 (nI (1500 * d))) 150 u = nI s from e150, show nI (1500 * d) + nI s = nI (1500 * d + s) from nI_add _ _, lb_eq]
  · exact ((((Fr.refl.uI _ (by rfl)).uI _ (by rfl)).uR _ (by rfl)).uI _ (by rfl)).uI _ (by rfl)
  · rw [gI_uI, if_neg (by omega), gI_uI, if_neg (by omega)]
    show gI (uI (uI m1 1229 133 (nI (d + 1))) 1230 133 1) 1229 133 = _
    rw [gI_uI, if_neg (by omega), gI_uI, if_pos ⟨rfl, rfl⟩]
  · rw [gI_uI, if_neg (by omega), gI_uI, if_neg (by omega)]
    show gI (uI (uI m1 1229 133 (nI (d + 1))) 1230 133 1) 1230 133 = _
    rw [gI_uI, if_pos ⟨rfl, rfl⟩]
  · show gR (uR (uI (uI m1 1229 133 (nI (d + 1))) 1230 133 1) 1226 133 (some 156)) 1226 133 = _
    rw [gR_uR, if_pos ⟨rfl, rfl⟩]
  · rw [gI_uI, if_neg (by omega), gI_uI, if_pos ⟨rfl, rfl⟩]
  · rw [gI_uI, if_pos ⟨rfl, rfl⟩]
  · show gR (uR (uI (uI m1 1229 133 (nI (d + 1))) 1230 133 1) 1226 133 (some 156)) f 133 = _
    rw [gR_uR, if_neg (fun y => hf y.1)]; rfl
  · rw [gI_uI, if_neg (by omega), gI_uI, if_neg (by omega)]
    show gI (uI (uI m1 1229 133 (nI (d + 1))) 1230 133 1) 1226 133 = _
    rw [gI_uI, if_neg (by omega), gI_uI, if_neg (by omega)]
theorem th_out {x3 x4 x5 : Int32} (h5 : x5 = 0 ∨ x5 = 1) (e29 : gI m7 1229 133 = nI (d + 1)) (hd : d ≤ 2) : ∃ m9, (lb (uR m7 1226 133 (some A)) fun T11 => lb (uI T11 1227 133 x3) fun T12 => lb (uI T12 1228 133 x4) fun T13 => gd (x5 = 0 ∨ x5 = 1) <| lb (uI T13 1230 133 x5) fun T15 => lb (uI T15 1229 133 ((gI T15 1229 133) - 1)) fun T16 => some ((), T16)) = some ((), m9) ∧ Fr d5F noA m7 m9 ∧ gI m9 1229 133 = nI d ∧ gI m9 1230 133 = x5 ∧ gR m9 1226 133 = some A ∧ gI m9 1227 133 = x3 ∧ gI m9 1228 133 = x4 ∧ (∀ f, gJ m9 f 133 = gJ m7 f 133) ∧ (∀ f, f ≠ 1226 → gR m9 f 133 = gR m7 f 133) ∧ gI m9 1226 133 = gI m7 1226 133 := by
  have e0 : gI (uI (uI (uI (uR m7 1226 133 (some A)) 1227 133 x3) 1228 133 x4) 1230 133 x5) 1229 133 = nI (d + 1) := by
    rw [gI_uI, if_neg (by omega), gI_uI, if_neg (by omega), gI_uI, if_neg (by omega)]; exact e29
  refine ⟨uI (uI (uI (uI (uR m7 1226 133 (some A)) 1227 133 x3) 1228 133 x4) 1230 133 x5) 1229 133 (nI d), ?_, ?_, ?_, ?_, ?_, ?_, ?_, fun f => rfl, fun f hf => ?_, ?_⟩
  · rw [lb_eq, lb_eq, lb_eq, gd_eq h5, lb_eq, e0, show (1 : Int32) = nI 1 from rfl, pk_sub (by omega), show d + 1 - 1 = d by omega, lb_eq]
  · exact ((((Fr.refl.uR _ (by rfl)).uI _ (by rfl)).uI _ (by rfl)).uI _ (by rfl)).uI _ (by rfl)
  · rw [gI_uI, if_pos ⟨rfl, rfl⟩]
  · rw [gI_uI, if_neg (by omega), gI_uI, if_pos ⟨rfl, rfl⟩]
  · show gR (uR m7 1226 133 (some A)) 1226 133 = _
    rw [gR_uR, if_pos ⟨rfl, rfl⟩]
  · rw [gI_uI, if_neg (by omega), gI_uI, if_neg (by omega), gI_uI, if_neg (by omega), gI_uI, if_pos ⟨rfl, rfl⟩]
  · rw [gI_uI, if_neg (by omega), gI_uI, if_neg (by omega), gI_uI, if_pos ⟨rfl, rfl⟩]
  · show gR (uR m7 1226 133 (some A)) f 133 = _
    rw [gR_uR, if_neg (fun y => hf y.1)]
  · rw [gI_uI, if_neg (by omega), gI_uI, if_neg (by omega), gI_uI, if_neg (by omega), gI_uI, if_neg (by omega)]; rfl
theorem d5_dq {f i : Nat} (z : dqF f i = false) : d5F f i = false := z
/-- a macro is gone through on both sides -/
theorem P2_mac (hd : d < 3) (gs : GS Gc Gm (d + 1)) (hu : u < 16) (h : RR d ov c m) (h1 : gA m 148 u = 1) : P2 (f_X9_goMacro Gc (nI u) c) (f_X12_through Gm (nI u) m) (fun _ c' _ m' => OU d ov c m c' m') := by
  obtain ⟨a, pp, s1, s2, s3⟩ := h.mc.s u hu
  have ha : a = true := by
    cases a
    · rw [h1] at s1; exact absurd s1 (by decide)
    · rfl
  subst ha
  obtain ⟨s, z1, z2, z3, z4⟩ := h.mc.z u hu
  have g42 : ¬ gA c (41 + 1) u = 0 := by
    show ¬ gA c 42 u = 0
    rw [s3]; cases pp <;> decide
  -- the class
  obtain ⟨c1, hc1⟩ : ∃ c1, c1 = uI c 914 23 (nI (d + 1)) := ⟨_, rfl⟩
  have e914 : gI c1 914 23 = nI (d + 1) := by rw [hc1, gI_uI, if_pos ⟨rfl, rfl⟩]
  have f1 : Fr dpF noA c c1 := by rw [hc1]; exact Fr.refl.uI _ (by rfl)
  have e44 : gA c1 44 u = nI s := by rw [f1.a rfl]; exact z2
  obtain ⟨c2, x1, x2, x500, x501, x502, x503⟩ := c_opn (T := c1) (i := 125 + (d + 1)) (A := 43) (x := nI (1500 * u)) (y := nI (1500 * u + s))
  obtain ⟨c3, hc3⟩ : ∃ c3, c3 = uR c2 913 23 (some (125 + (d + 1))) := ⟨_, rfl⟩
  have f2 : Fr dpF noA c1 c2 := x2.weak (fun f i z => by unfold dpF at z; revert z; simp; omega) (fun _ z => z)
  have f3 : Fr dpF noA c2 c3 := by rw [hc3]; exact Fr.refl.uR _ (by rfl)
  have ff : Fr dpF noA c c3 := (f1.trans f2).trans f3
  have g3 : ∀ f, gI c3 f (125 + (d + 1)) = gI c2 f (125 + (d + 1)) := fun f => by rw [hc3]; rfl
  have ecl : f_X9_goMacro Gc (nI u) c = (bd (f_X9_goThrough_l60 Gc FU (125 + (d + 1)) 0 c3) fun _ T8 => lb (uI T8 914 23 ((gI T8 914 23) - 1)) fun T9 => lb (uR T9 913 23 (some (125 + d))) fun T10 => some ((), T10)) := by
    unfold f_X9_goMacro
    rw [sp_has hu, decide_eq_false g42, bd_eq, if_neg (show ¬ cI (!false) = 0 by decide), h.d1, if_pos (show nI d < 3 from nI_lt (b := 3) hd (by omega)), rd_eq h, lb_eq, show nI d + 1 = nI (d + 1) from nI_add _ 1, ← hc1, ix_in (j := u) (nI_pos (by omega)) (nI_clamp (by omega)) (by omega), e44, m15, show nI (1500 * u) + nI s = nI (1500 * u + s) from nI_add _ _]
    unfold f_X9_goThrough
    rw [e914, if_neg (nI_pos (by omega)), if_neg (show ¬ (4 : Int32) ≤ nI (d + 1) from nI_ge (b := 4) (by omega) (by omega)), ix_in (j := d + 1) (nI_pos (by omega)) (nI_clamp (by omega)) (by omega), ix_in (j := d + 1) (nI_pos (by omega)) (nI_clamp (by omega)) (by omega), x1, bd_eq, lb_eq, ← hc3]
  -- the reference
  obtain ⟨M1, hM1, hM2⟩ : ∃ M1, gR m 1226 133 = some M1 ∧ (M1 = 152 ∨ M1 = 156) := by
    rcases h.sc with e | e
    · exact ⟨152, e, Or.inl rfl⟩
    · exact ⟨156, e, Or.inr rfl⟩
  obtain ⟨m1, y1, y2, y3⟩ := m_l35 (Gm := Gm) (A := M1) (x3 := gI m 1227 133) (x4 := gI m 1228 133) (x5 := gI m 1230 133) z1 hu (show d ≤ 2 by omega) z3 (fun j => (h.mc.b j).1) FU 0 m (FU_gt (by omega)) (by omega) Fr.refl (fun j => by rw [if_neg (by omega)])
  have k1 : ∀ f, gI m1 f 133 = gI m f 133 := fun f => y2.i rfl
  have em : f_X12_through Gm (nI u) m = thT Gm (nI u) M1 (gI m1 1227 133) (gI m1 1228 133) (gI m1 1230 133) (nI (1500 * d)) m1 := by
    unfold f_X12_through
    rw [rf_eq hM1 (by rcases hM2 with rfl | rfl <;> decide), lb_eq, lb_eq, lb_eq, h.d2, m15, lb_eq, k1, k1, k1]
    exact y1
  obtain ⟨m6, t0, t1, t29, t30, t26, t27, t28, tJ, tR, tI⟩ := th_in (Gm := Gm) (A := M1) (show d ≤ 2 by omega) hu (show gA m1 150 u = nI s by rw [y2.a rfl]; exact z3) z1 ((k1 _).trans h.d2)
  rw [ecl, em, t0]
  have fm : Fr dqF dqA m m6 := (y2.weak (fun _ _ _ => rfl) (fun _ z => z)).trans (t1.weak (fun _ _ z => d5_dq z) (fun _ _ => rfl))
  have e3 : gI c3 914 23 = nI (d + 1) := by
    rw [hc3]; show gI c2 914 23 = _
    rw [x2.i (by simp; omega)]; exact e914
  have hR : RR (d + 1) ov c3 m6 := h.deep ff fm (by omega) e3 t29 (by rw [t30]; rfl) (by rw [hc3, gR_uR, if_pos ⟨rfl, rfl⟩]) (Or.inr t26)
  -- the bytes
  have hF : ∀ j, ∃ f, f < 256 ∧ gA m 151 (1500 * u + j) &&& 255 = nI f := fun j => byte_nat _
  have hS : SRC c3 m6 (d + 1) 43 (1500 * u) 156 (1500 * d) s (fun j => Classical.choose (hF j)) := by
    have e156 : ∀ i, i < s → gA m6 156 (1500 * d + i) = gA m 151 (1500 * u + i) := fun i hi => by
      rw [t1.a rfl, y3, if_pos (by omega)]; congr 1; omega
    refine SRC_mk ?_ (Or.inr ⟨rfl, by omega, by omega⟩) t26 (Or.inr ⟨rfl, by omega⟩) ?_ t28 ?_ ?_ (fun i => (Classical.choose_spec (hF i)).1) ?_
    · rw [hc3]; show gR (uR c2 913 23 _) 500 _ = _
      rw [gR_uR, if_neg (by omega)]; exact x500
    · rw [g3, x502, if_neg (show ¬ Int32.ofNat (LN 43) < nI (1500 * u + s) from nI_nlt (a := LN 43) (show 1500 * u + s ≤ 24000 by omega) (by decide))]
    · intro i hi
      rw [ff.a rfl, z4 h1 i hi, e156 i hi]
    · intro i hi
      rw [e156 i hi]; exact (Classical.choose_spec (hF i)).2
    · intro i hi
      rw [e156 i hi]; exact (h.mc.b _).1
  have hP : PO c3 m6 (d + 1) (1500 * u) (1500 * d) 0 := ⟨by rw [g3, x501, if_neg (nI_pos (by omega))]; rfl, t27⟩
  have lp := (P2_loop gs (show d + 1 ≤ 3 by omega) (show s ≤ 24000 by omega) (fun y => by omega) (fun y => by omega) FU FU 0 0 0 c3 m6 (by omega) (by omega) (FU_gt (by omega)) (FU_gt (by omega)) (by omega) hR hS hP).1 ((g3 _).trans x503)
  obtain ⟨_, c4, _, m7, w1, w2, ox⟩ := lp
  have w1' : f_X9_goThrough_l60 Gc FU (125 + (d + 1)) 0 c3 = some ((), c4) := w1
  have w2' : f_X12_run Gm m6 = some ((), m7) := w2
  rw [w1', w2', bd_eq, bd_eq]
  obtain ⟨kx1, kx2, kx3, kx4, kx5, kx6⟩ := ox.2.1
  have k914 : kxF (d + 1) ov 914 23 = false := kx_sk hd (by unfold skF; simp; omega)
  have e4 : gI c4 914 23 = nI (d + 1) := (kx1.i k914).trans e3
  have e29 : gI m7 1229 133 = nI (d + 1) := (kx2.i (by rfl)).trans t29
  have h5 : gI m1 1230 133 = 0 ∨ gI m1 1230 133 = 1 := by
    rw [k1, h.im]; cases decide (0 < d)
    · exact Or.inl rfl
    · exact Or.inr rfl
  obtain ⟨m9, v0, v1, v29, v30, v26, v27, v28, vJ, vR, vI⟩ := th_out (A := M1) (x3 := gI m1 1227 133) (x4 := gI m1 1228 133) h5 e29 (show d ≤ 2 by omega)
  rw [v0, lb_eq, lb_eq]
  obtain ⟨c6, hc6⟩ : ∃ c6, c6 = uR (uI c4 914 23 (gI c4 914 23 - 1)) 913 23 (some (125 + d)) := ⟨_, rfl⟩
  rw [← hc6]
  have f6 : Fr dpF noA c4 c6 := by rw [hc6]; exact (Fr.refl.uI _ (by rfl)).uR _ (by rfl)
  have e6 : gI c6 914 23 = nI d := by
    rw [hc6]
    show gI (uI c4 914 23 (gI c4 914 23 - 1)) 914 23 = _
    rw [gI_uI, if_pos ⟨rfl, rfl⟩, e4, show (1 : Int32) = nI 1 from rfl, pk_sub (by omega)]; congr 1
  have r6 : gR c6 913 23 = some (125 + d) := by rw [hc6, gR_uR, if_pos ⟨rfl, rfl⟩]
  have fm9 : Fr dqF dqA m7 m9 := v1.weak (fun _ _ z => d5_dq z) (fun _ _ => rfl)
  refine P2_ret ⟨?_, KP_mk ?_ ?_ (fun j hj => ?_) (fun z j hj => ?_) (fun j hj => ?_) ?_, fun z => ?_⟩
  · rcases ox.1 with x | x
    · exact Or.inl (x.deep f6 fm9 h.d3 e6 v29 (by rw [v30, k1, h.im]) r6 (by rw [v26, ← hM1]; exact h.sc))
    · exact Or.inr (x.deep f6 fm9 h.d3 e6 r6)
  · -- the class's frame
    have fo : Fr (fun f i => skF d ov f i || (i == 23 && (f == 913 || f == 914))) (skA d ov) c c6 := by
      have o1 : Fr (fun f i => skF d ov f i || (i == 23 && (f == 913 || f == 914))) (skA d ov) c c1 := by rw [hc1]; exact Fr.refl.uI _ (by simp)
      have o2 : Fr (fun f i => skF d ov f i || (i == 23 && (f == 913 || f == 914))) (skA d ov) c1 c2 := x2.weak (fun f i z => by
        have := (Bool.or_eq_false_iff.mp z).1
        unfold skF at this; revert this; simp; omega) (fun _ _ => rfl)
      have o3 : Fr (fun f i => skF d ov f i || (i == 23 && (f == 913 || f == 914))) (skA d ov) c2 c3 := by rw [hc3]; exact Fr.refl.uR _ (by simp)
      have o4 : Fr (fun f i => skF d ov f i || (i == 23 && (f == 913 || f == 914))) (skA d ov) c3 c4 := kx1.weak (fun f i z => kx_sk hd (Bool.or_eq_false_iff.mp z).1) (fun a z => kw_sk hd z)
      have o5 : Fr (fun f i => skF d ov f i || (i == 23 && (f == 913 || f == 914))) (skA d ov) c4 c6 := by rw [hc6]; exact (Fr.refl.uI _ (by simp)).uR _ (by simp)
      exact (((o1.trans o2).trans o3).trans o4).trans o5
    have k913 : kxF (d + 1) ov 913 23 = false := kx_sk hd (by unfold skF; simp; omega)
    refine Fr.fixP (P := fun f i => i == 23 && (f == 913 || f == 914)) fo (fun f i z => ?_)
    have : i = 23 ∧ (f = 913 ∨ f = 914) := by simpa using z
    obtain ⟨rfl, rfl | rfl⟩ := this
    · refine ⟨?_, ?_, by rw [r6, h.rd]⟩
      · rw [hc6]; show gI (uI c4 914 23 (gI c4 914 23 - 1)) 913 23 = _
        rw [gI_uI, if_neg (by omega), kx1.i k913, hc3]; show gI c2 913 23 = _
        rw [x2.i (by simp; omega), hc1, gI_uI, if_neg (by omega)]
      · rw [hc6]; show gJ c4 913 23 = _
        rw [kx1.j k913, hc3]; show gJ c2 913 23 = _
        rw [x2.j (by simp; omega), hc1]; rfl
    · refine ⟨by rw [e6, h.d1], ?_, ?_⟩
      · rw [hc6]; show gJ c4 914 23 = _
        rw [kx1.j k914, hc3]; show gJ c2 914 23 = _
        rw [x2.j (by simp; omega), hc1]; rfl
      · rw [hc6, gR_uR, if_neg (by omega)]; show gR c4 914 23 = _
        rw [kx1.r k914, hc3, gR_uR, if_neg (by omega), x2.r (by simp; omega), hc1]; rfl
  · -- the reference's frame
    have fo : Fr (fun f i => mkF f i || d5F f i) mkA m m9 := by
      have o1 : Fr (fun f i => mkF f i || d5F f i) mkA m m1 := y2.weak (fun _ _ _ => rfl) (fun a z => by
        unfold mkA at z; unfold dqA; revert z; simp; omega)
      have o2 : Fr (fun f i => mkF f i || d5F f i) mkA m1 m6 := t1.weak (fun f i z => (Bool.or_eq_false_iff.mp z).2) (fun _ _ => rfl)
      have o3 : Fr (fun f i => mkF f i || d5F f i) mkA m6 m7 := kx2.weak (fun f i z => by
        obtain ⟨a1, a2⟩ := Bool.or_eq_false_iff.mp z
        unfold kxM
        rw [a1, Bool.false_or]
        unfold d5F at a2; revert a2; simp; omega) (fun _ z => z)
      have o4 : Fr (fun f i => mkF f i || d5F f i) mkA m7 m9 := v1.weak (fun f i z => (Bool.or_eq_false_iff.mp z).2) (fun _ _ => rfl)
      exact ((o1.trans o2).trans o3).trans o4
    have fo2 : Fr (fun f i => mkF f i || dcF f i) mkA m m9 := fo.weak (fun f i z => by
      obtain ⟨a1, a2⟩ := Bool.or_eq_false_iff.mp z
      rw [a1, Bool.false_or]
      unfold mkF at a1; unfold dcF at a2; unfold d5F; revert a1 a2; simp; omega) (fun _ z => z)
    refine Fr.fixP (P := dcF) fo2 (fun f i z => ?_)
    have : i = 133 ∧ (f = 1226 ∨ f = 1228 ∨ f = 1229 ∨ f = 1230) := by unfold dcF at z; simpa [or_assoc] using z
    obtain ⟨rfl, hf⟩ := this
    have kz : kxM f 133 = false := by rcases hf with rfl | rfl | rfl | rfl <;> rfl
    refine ⟨?_, by rw [vJ, kx2.j kz, tJ, y2.j rfl], ?_⟩
    · rcases hf with rfl | rfl | rfl | rfl
      · rw [vI, kx2.i kz, tI, k1]
      · rw [v28, k1]
      · rw [v29, h.d2]
      · rw [v30, k1]
    · by_cases q : f = 1226
      · subst q; rw [v26, hM1]
      · rw [vR f q, kx2.r kz, tR f q, y2.r rfl]
  · rw [v1.a rfl, kx3 j (by omega), t1.a rfl, y2.a rfl]
  · rw [v1.a rfl, kx4 z j hj, t1.a rfl, y2.a rfl]
  · rw [v1.a rfl, kx5 j (by omega), t1.a rfl, y3, if_neg (by omega)]
  · refine ⟨?_, by rw [v27, k1]⟩
    rw [v1.i (by rfl)]
    rcases kx6 (by omega) with e | e
    · exact Or.inl (by rw [e, t1.i (by rfl), k1])
    · exact Or.inr e
  · rw [v1.a rfl]
    have := ox.2.2 z
    rw [t1.a rfl, y2.a rfl] at this
    exact this
/-- all depths -/
theorem GS_mac (hd : d ≤ 3) (gs : d < 3 → GS Gc Gm (d + 1)) : GS (f_X9_goMacro Gc) (f_X12_through Gm) d := by
  refine GS_mk (fun c m ov u h hd3 hu h1 => P2_mac hd3 (gs hd3) hu h h1) (fun c z h1 h2 h3 h4 => ?_) (fun c m ov z h1 h2 h => u_mac hd h1 h2 h)
  unfold f_X9_goMacro
  rw [sp_hasZ (by omega) (by omega), bd_eq]
  cases y : (decide (0 ≤ z ∧ z < 16) && !decide (gA c (41 + 1) z.toNat = 0))
  · rw [if_pos (show cI false = 0 from rfl)]
  · have y0 := Bool.and_eq_true_iff.mp y
    have y1 : 0 ≤ z ∧ z < 16 := of_decide_eq_true y0.1
    have y2 : ¬ gA c 42 z.toNat = 0 := fun e => by
      have := y0.2
      rw [show decide (gA c (41 + 1) z.toNat = 0) = true from decide_eq_true e] at this; cases this
    rw [if_neg (show ¬ cI true = 0 by decide), h3]
    rcases h4 with h4 | h4 | h4
    · rw [if_neg (show ¬ nI d < 3 from nI_nlt (b := 3) (by omega) (by omega))]
    · omega
    · exact absurd h4 y2
theorem GS_3 (k : Nat) : GS (gmC (k + 1)) (gmM (k + 1)) 3 := GS_mac (Gc := gmC k) (Gm := gmM k) (Nat.le_refl _) (fun h => absurd h (by decide))
theorem GS_0 : GS (gmC 5) (gmM 5) 0 := GS_mac (Gc := gmC 4) (Gm := gmM 4) (by decide) (fun _ => GS_mac (Gc := gmC 3) (Gm := gmM 3) (by decide) (fun _ => GS_mac (Gc := gmC 2) (Gm := gmM 2) (by decide) (fun _ => GS_3 1)))
end J3
