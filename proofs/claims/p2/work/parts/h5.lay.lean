/-! A row's dots laid one by one, on the reference's side. -/
section H5
variable {c c' c0 c1 c2 c3 m m' m0 m1 m2 m3 T T' M' : Mm} {d w b A o M o' n p r q a i s f k u h rb t v fl cnt wd sc st ox oy y : Nat} {F : Nat → Nat} {ov ov' ng sg z : Bool} {g L : Nat → Int32} {Gc Gm : Gty} {PF QF : Nat → Nat → Bool} {PA QA : Nat → Bool} {S V V1 V2 : Int → Int → Bool}
theorem LV.cat (h : LV m0 T g L ox oy S V1) (h2 : LV T T' g L ox oy S V2) (dj : ∀ x y : Nat, V1 x y = true → V2 x y = false) : LV m0 T' g L ox oy S (fun a b => V1 a b || V2 a b) := LV_mk h2.q (h.f.trans h2.f) (fun x y hx hy => by
  rw [h2.d x y hx hy, h.d x y hx hy]
  cases q1 : V1 x y
  · cases q2 : V2 x y
    · simp
    · simp
  · rw [dj x y q1]; simp)
/-- what ends a row -/
noncomputable def rFin (sc : Nat) (T : Mm) : Option (Unit × Mm) := lb (uA T 134 59 (((gA T 134 59) + 1))) fun T1 => bd (f_X12_setY ((((gA T1 134 190)).toInt64) + ((96 : Int64) * ((nI sc).toInt64))) T1) fun _ T2 => some ((), T2)
def rS (g : Nat → Int32) (st sc : Nat) (a _ : Int) : Bool := bt (g (60 + (a - (st : Int)).toNat / sc / 8)) (7 - (a - (st : Int)).toNat / sc % 8)
theorem m_blk {K : Int32 → Int32 → Int32 → Int32 → Mm → Option (Unit × Mm)} (q : PQ m g L ox oy) (e58 : g 58 = nI st) (hst : st ≤ 800) (hs1 : 1 ≤ sc) (hs4 : sc ≤ 4) (hi : i < 640) (hy : y ≤ 800) : ∃ m', f_X12_rowData_l175 K FU (nI wd) (nI sc) (nI y) (nI i) (cI (bt (g (60 + i / 8)) (7 - i % 8))) (nI 0) m = K (nI wd) (nI sc) (nI y) (nI (i + 1)) m' ∧ LV m m' g L ox oy (rS g st sc) (fun a b => inR ((st + sc * i : Nat) : Int) sc a && inR (y : Int) sc b) := by
  have hsi : sc * i ≤ 4 * 639 := Nat.mul_le_mul hs4 (by omega)
  refine LV.block (m0 := m) (g := g) (L := L) (ox := ox) (oy := oy) (S := rS g st sc) (w := sc) (h := sc) (x0 := ((st + sc * i : Nat) : Int)) (y0 := (y : Int)) (R2 := fun N r T => f_X12_rowData_l175 K N (nI wd) (nI sc) (nI y) (nI i) (cI (bt (g (60 + i / 8)) (7 - i % 8))) (nI r) T) (K := fun T => K (nI wd) (nI sc) (nI y) (nI (i + 1)) T) ?_ ?_ FU 0 m (FU_gt (by omega)) (by omega) ((LV.refl q).congr (fun a b _ _ => by rw [inR_0, Bool.and_false]))
  · intro N r T hr hT
    have := LV.line (m0 := m) (g := g) (L := L) (ox := ox) (oy := oy) (S := rS g st sc) (w := sc) (x0 := ((st + sc * i : Nat) : Int)) (yy := (y : Int) + r) (V0 := fun a b => inR ((st + sc * i : Nat) : Int) sc a && inR (y : Int) r b) (R := fun N' u T => f_X12_rowData_l184 (f_X12_rowData_l175 K N) N' (nI wd) (nI sc) (nI y) (nI i) (cI (bt (g (60 + i / 8)) (7 - i % 8))) (nI r) (nI u) T) (K := fun T => f_X12_rowData_l175 K N (nI wd) (nI sc) (nI y) (nI i) (cI (bt (g (60 + i / 8)) (7 - i % 8))) (nI (r + 1)) T) (by omega) (by omega) (by omega) (by omega) (by omega) ?_ ?_ ?_ FU 0 T (FU_gt (by omega)) (by omega) (hT.congr (fun a b _ _ => by rw [inR_0]; simp))
    · obtain ⟨T', a1, a2⟩ := this
      refine ⟨T', ?_, a2⟩
      show f_X12_rowData_b175 K (f_X12_rowData_l175 K N) (nI wd) (nI sc) (nI y) (nI i) (cI (bt (g (60 + i / 8)) (7 - i % 8))) (nI r) T = _
      unfold f_X12_rowData_b175
      rw [if_neg (nI_ge (by omega) (by omega))]
      exact a1
    · intro N' u T hf hu
      show f_X12_rowData_b184 (f_X12_rowData_l175 K N) (f_X12_rowData_l184 (f_X12_rowData_l175 K N) N') (nI wd) (nI sc) (nI y) (nI i) (cI (bt (g (60 + i / 8)) (7 - i % 8))) (nI r) (nI u) T = _
      unfold f_X12_rowData_b184
      have e34 : gA T 134 = g := (hf.a rfl).trans q.e
      rw [if_neg (nI_ge (by omega) (by omega)), e34, e58, pk_mul, nI_add, nI_add, nI_add, show nI u + 1 = nI (u + 1) from nI_add u 1, nI_iz (st + sc * i + u), nI_iz (y + r), show ((st + sc * i + u : Nat) : Int) = ((st + sc * i : Nat) : Int) + (u : Int) by omega, show ((y + r : Nat) : Int) = (y : Int) + (r : Int) by omega]
      have eS : rS g st sc (((st + sc * i : Nat) : Int) + (u : Int)) ((y : Int) + (r : Int)) = bt (g (60 + i / 8)) (7 - i % 8) := by
        unfold rS
        have e1 : (((st + sc * i : Nat) : Int) + (u : Int) - (st : Int)).toNat = sc * i + u := by omega
        have e2 : (sc * i + u) / sc = i := by
          rw [Nat.mul_add_div (by omega), Nat.div_eq_of_lt hu, Nat.add_zero]
        rw [e1, e2]
      rw [eS]
    · intro N' T hf
      show f_X12_rowData_b184 (f_X12_rowData_l175 K N) (f_X12_rowData_l184 (f_X12_rowData_l175 K N) N') (nI wd) (nI sc) (nI y) (nI i) (cI (bt (g (60 + i / 8)) (7 - i % 8))) (nI r) (nI sc) T = _
      unfold f_X12_rowData_b184
      rw [if_pos (Int32.le_refl _), show nI r + 1 = nI (r + 1) from nI_add r 1]
    · intro u hu
      rw [Bool.and_eq_false_iff]
      exact Or.inr (inR_f.mpr (by omega))
  · intro N T hf
    show f_X12_rowData_b175 K (f_X12_rowData_l175 K N) (nI wd) (nI sc) (nI y) (nI i) (cI (bt (g (60 + i / 8)) (7 - i % 8))) (nI sc) T = _
    unfold f_X12_rowData_b175
    rw [if_pos (Int32.le_refl _), show nI i + 1 = nI (i + 1) from nI_add i 1]
theorem m_l140 (e58 : g 58 = nI st) (hst : st ≤ 800) (hs1 : 1 ≤ sc) (hs4 : sc ≤ 4) (w2 : wd ≤ 640) (hy : y ≤ 800) : ∀ (N i : Nat) (T : Mm), wd - i < N → i ≤ wd → LV m T g L ox oy (rS g st sc) (fun a b => inR (st : Int) ((sc * i : Nat) : Int) a && inR (y : Int) sc b) → ∃ m', f_X12_rowData_l140 N (nI wd) (nI sc) (nI y) (nI i) T = rFin sc m' ∧ LV m m' g L ox oy (rS g st sc) (fun a b => inR (st : Int) ((sc * wd : Nat) : Int) a && inR (y : Int) sc b) := by
  intro N
  induction N with
  | zero => intro i T h; omega
  | succ N ih =>
    intro i T h1 h2 h3
    show ∃ m', f_X12_rowData_b140 (f_X12_rowData_l140 N) (nI wd) (nI sc) (nI y) (nI i) T = _ ∧ _
    unfold f_X12_rowData_b140
    by_cases q : wd ≤ i
    · have : i = wd := by omega
      subst this
      rw [if_pos (Int32.le_refl _)]
      exact ⟨T, rfl, h3⟩
    · have e34 : gA T 134 = g := h3.q.e
      have e8 : nI i / 8 = nI (i / 8) := pk_div (d := 8) (by omega) (by decide) (by decide)
      have eb : (7 : Int32) - (nI i - nI (i / 8) * 8) = nI (7 - i % 8) := by
        rw [show nI (i / 8) * 8 = nI (i / 8 * 8) from pk_mul _ 8, pk_sub (by omega), show (7 : Int32) = nI 7 from rfl, pk_sub (by omega)]
        congr 1; omega
      rw [if_neg (nI_ge (by omega) (by omega)), e8, show (60 : Int32) + nI (i / 8) = nI (60 + i / 8) from nI_add 60 _, ix_in (j := 60 + i / 8) (nI_pos (by omega)) (nI_clamp (by omega)) (by omega), e34, eb, sdot _ (by omega), lb_eq]
      obtain ⟨T', x1, x2⟩ := m_blk (K := f_X12_rowData_l140 N) (wd := wd) h3.q e58 hst hs1 hs4 (show i < 640 by omega) hy
      have x1' : f_X12_rowData_l175 (f_X12_rowData_l140 N) FU (nI wd) (nI sc) (nI y) (nI i) (cI (bt (g (60 + i / 8)) (7 - i % 8))) 0 T = f_X12_rowData_l140 N (nI wd) (nI sc) (nI y) (nI (i + 1)) T' := x1
      rw [x1']
      refine ih (i + 1) T' (by omega) (by omega) ((h3.cat x2 (fun a b hv => ?_)).congr (fun a b _ _ => ?_))
      · rw [Bool.and_eq_true, inR_t, inR_t] at hv
        rw [Bool.and_eq_false_iff]
        exact Or.inl (inR_f.mpr (by omega))
      · have hm : sc * (i + 1) = sc * i + sc := Nat.mul_succ sc i
        rw [hm]
        cases hb : inR (y : Int) sc b
        · simp
        · rw [Bool.and_true, Bool.and_true, Bool.and_true]
          by_cases y1 : inR (st : Int) ((sc * i : Nat) : Int) a = true
          · rw [y1, Bool.true_or, inR_t]
            rw [inR_t] at y1
            omega
          · have y2 : inR (st : Int) ((sc * i : Nat) : Int) a = false := by simpa using y1
            rw [y2, Bool.false_or]
            rw [inR_f] at y2
            by_cases y3 : inR ((st + sc * i : Nat) : Int) sc a = true
            · rw [y3, inR_t]
              rw [inR_t] at y3
              omega
            · have y4 : inR ((st + sc * i : Nat) : Int) sc a = false := by simpa using y3
              rw [y4, inR_f]
              rw [inR_f] at y4
              omega
end H5
