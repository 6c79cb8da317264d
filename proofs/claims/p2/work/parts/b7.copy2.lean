/-! The page copied out of the canvas. -/
section B7
variable {c c' c0 m m' T : Mm} {g : Nat → Int32}
theorem SF.fr {s : Nat} {PF : Nat → Nat → Bool} {PA : Nat → Bool} (h : SF c s g) (f : Fr PF PA c c') (e : PF 700 s = false ∧ PF 701 s = false) : SF c' s g := ⟨(f.i e.1).trans h.1, (f.i e.2).trans h.2.1, h.2.2⟩
/-- what is there of the page, rows (or columns) before y, words before w of the next -/
def cpP (c : Mm) (g : Nat → Int32) (y w X Y : Nat) : Bool := if g 1 = 0 then (decide (Y < y) || (decide (Y = y) && decide (X < 32 * w))) && dotW (gA c 25) (25 * Y) X else (decide (X < y) || (decide (X = y) && decide (pgH (g 0) - 1 - Y < 32 * w))) && (decide (Y < pgH (g 0)) && dotW (gA c 25) (25 * X) (pgH (g 0) - 1 - Y))
theorem c_words {v y : Nat} (hv : LN v = 16000) (hv2 : v ≠ 25) (sf : SF c 46 g) (hout : ∀ X Y, X < 800 → Y < 800 → (lgW g ≤ X ∨ lgH g ≤ Y) → dotW (gA c 25) (25 * Y) X = false) (hy : y < lgH g) (k24 : Nat → Nat → Int32 → Int32 → Mm → Option (Unit × Mm)) : ∀ (N w : Nat) (T : Mm), (lgW g + 31) / 32 - w < N → w ≤ (lgW g + 31) / 32 → Fr nF (pgA v) c T → (∀ X Y, X < 640 → Y < 800 → dotW (gA T v) (20 * Y) X = cpP c g y w X Y) → ∃ T', f_X0_copyTo_l44 k24 N v 46 (nI ((lgW g + 31) / 32)) (nI y) (nI w) T = k24 v 46 (nI ((lgW g + 31) / 32)) (nI (y + 1)) T' ∧ Fr nF (pgA v) c T' ∧ ∀ X Y, X < 640 → Y < 800 → dotW (gA T' v) (20 * Y) X = cpP c g (y + 1) 0 X Y := by
  have hW := lgW_le g
  have hH := lgH_le g
  have hp := pg_le (g 0)
  intro N
  induction N with
  | zero => intro w T h; omega
  | succ N ih =>
    intro w T g1 g2 g3 g4
    show ∃ T', f_X0_copyTo_b44 k24 (f_X0_copyTo_l44 k24 N) v 46 (nI ((lgW g + 31) / 32)) (nI y) (nI w) T = _ ∧ _
    unfold f_X0_copyTo_b44
    by_cases q : (lgW g + 31) / 32 ≤ w
    · rw [if_pos (nI_le q (by omega)), show nI y + 1 = nI (y + 1) from nI_add y 1]
      refine ⟨T, rfl, g3, fun X Y hX hY => ?_⟩
      rw [g4 X Y hX hY]
      unfold cpP
      by_cases o : g 1 = 0
      · rw [if_pos o, if_pos o]
        by_cases z : Y = y
        · rw [z, decide_eq_false (show ¬ y < y by omega), decide_eq_true rfl, decide_eq_true (show y < y + 1 by omega), Bool.false_or, Bool.true_and, Bool.true_or, Bool.true_and]
          by_cases u : X < 32 * w
          · rw [decide_eq_true u, Bool.true_and]
          · rw [decide_eq_false u, Bool.false_and]
            exact (hout X y (by omega) (by omega) (Or.inl (by omega))).symm
        · rw [decide_eq_false z, Bool.false_and, Bool.or_false, show decide (Y < y + 1) = decide (Y < y) from by rw [decide_eq_decide]; omega, show (decide (Y = y + 1) && decide (X < 32 * 0)) = false by simp, Bool.or_false]
      · rw [if_neg o, if_neg o]
        by_cases z : X = y
        · rw [z, decide_eq_false (show ¬ y < y by omega), decide_eq_true rfl, decide_eq_true (show y < y + 1 by omega), Bool.false_or, Bool.true_and, Bool.true_or, Bool.true_and]
          by_cases u : pgH (g 0) - 1 - Y < 32 * w
          · rw [decide_eq_true u, Bool.true_and]
          · have e : lgW g = pgH (g 0) := by unfold lgW; rw [if_neg o]
            omega
        · rw [decide_eq_false z, Bool.false_and, Bool.or_false, show decide (X < y + 1) = decide (X < y) from by rw [decide_eq_decide]; omega, show (decide (X = y + 1) && decide (pgH (g 0) - 1 - Y < 32 * 0)) = false by simp, Bool.or_false]
    · have sfT : SF T 46 g := sf.fr g3 ⟨rfl, rfl⟩
      have o701 : gI T 701 46 = g 1 := sfT.2.1
      have e25 : gA T 25 = gA c 25 := g3.a (by unfold pgA; simp; omega)
      have nw : nI w + 1 = nI (w + 1) := nI_add w 1
      rw [if_neg (nI_ge (by omega) (by omega)), show nI y * (25 : Int32) = nI (y * 25) from pk_mul y 25, nI_add, ix_in (j := y * 25 + w) (nI_pos (by omega)) (nI_clamp (by omega)) (by omega), lb_eq, o701, e25, nw]
      have cX : ∀ X Y : Nat, dotW (gA c 25) (25 * Y) X = bt (gA c 25 (25 * Y + X / 32)) (31 - X % 32) := fun X Y => rfl
      by_cases o : g 1 = 0
      · have eW : lgW g = pgW (g 0) := by unfold lgW; rw [if_pos o]
        rw [if_pos o, if_neg (show ¬ (20 : Int32) ≤ nI w from nI_ge (b := 20) (by omega) (by omega)), show nI y * (20 : Int32) = nI (y * 20) from pk_mul y 20, nI_add, onat, hv, if_neg (nI_ge (by omega) (by omega)), ix_in (j := y * 20 + w) (nI_pos (by omega)) (nI_clamp (by omega)) (by omega), lb_eq]
        refine ih (w + 1) _ (by omega) (by omega) (g3.uA _ _ (by simp [pgA])) (fun X Y hX hY => ?_)
        have dX : ∀ D : Nat → Int32, dotW D (20 * Y) X = bt (D (20 * Y + X / 32)) (31 - X % 32) := fun D => rfl
        have old := g4 X Y hX hY
        rw [dX, gA_wr]
        unfold cpP at old ⊢
        rw [if_pos o] at old
        rw [if_pos o]
        by_cases z : Y = y ∧ X / 32 = w
        · rw [show 20 * Y + X / 32 = y * 20 + w by omega, wr_s, z.1, decide_eq_true rfl, decide_eq_true (show X < 32 * (w + 1) by omega), Bool.and_self, Bool.or_true, Bool.true_and, cX, show 25 * y + X / 32 = y * 25 + w by omega]
        · rw [wr_o _ (by omega), ← dX, old]
          congr 1
          congr 1
          by_cases z1 : Y = y
          · rw [show decide (X < 32 * (w + 1)) = decide (X < 32 * w) from by rw [decide_eq_decide]; omega]
          · rw [decide_eq_false z1, Bool.false_and, Bool.false_and]
      · have eW : lgW g = pgH (g 0) := by unfold lgW; rw [if_neg o]
        have eH : lgH g = pgW (g 0) := by unfold lgH; rw [if_neg o]
        have hb : ((nI (pgH (g 0)) - 1) - ((32 : Int32) * nI w)) = iz (((pgH (g 0) : Int) - 1) - 32 * w) := by
          rw [show (32 : Int32) = iz 32 from rfl, show (1 : Int32) = iz 1 from rfl, nI_iz, nI_iz, iz_mul, iz_sub, iz_sub]
        rw [if_neg o, c_ph sfT, bd_eq, hb]
        obtain ⟨T2, t1, t2, t3⟩ := c_turnW (c := T) (v := v) (col := y) (b := ((pgH (g 0) : Int) - 1) - 32 * w) (bits := gA c 25 (y * 25 + w)) hv (by omega) (by omega) (by omega) (fun i hi hbit => by
          have : dotW (gA c 25) (25 * y) (32 * w + i) = true := by
            rw [cX, show 25 * y + (32 * w + i) / 32 = y * 25 + w by omega, show (32 * w + i) % 32 = i by omega]; exact hbit
          have h3 : 32 * w + i < lgW g := by
            by_cases u : 32 * w + i < lgW g
            · exact u
            · rw [hout _ _ (by omega) (by omega) (Or.inl (by omega))] at this; cases this
          omega)
        rw [t1, bd_eq]
        refine ih (w + 1) T2 (by omega) (by omega) (g3.trans t2) (fun X Y hX hY => ?_)
        rw [t3 X Y hX hY, g4 X Y hX hY]
        unfold cpP
        rw [if_neg o, if_neg o]
        by_cases z : X = y
        · rw [z, decide_eq_false (show ¬ y < y by omega), decide_eq_true rfl, Bool.false_or, Bool.false_or, Bool.true_and, Bool.true_and, Bool.true_and]
          by_cases u : Y < pgH (g 0)
          · rw [decide_eq_true u, Bool.true_and]
            by_cases k1 : pgH (g 0) - 1 - Y < 32 * w
            · rw [decide_eq_true k1, decide_eq_true (show pgH (g 0) - 1 - Y < 32 * (w + 1) by omega), Bool.true_and]
              have : inR (((pgH (g 0) : Int) - 1) - 32 * w - 31) 32 Y = false := inR_f.mpr (by omega)
              rw [this, Bool.false_and, Bool.or_false]
            · rw [decide_eq_false k1, Bool.false_and, Bool.false_or]
              by_cases k2 : pgH (g 0) - 1 - Y < 32 * (w + 1)
              · rw [decide_eq_true k2, Bool.true_and, inR_t.mpr (show _ by omega), Bool.true_and, cX, show 25 * y + (pgH (g 0) - 1 - Y) / 32 = y * 25 + w by omega]
                congr 1
                omega
              · have : inR (((pgH (g 0) : Int) - 1) - 32 * w - 31) 32 Y = false := inR_f.mpr (by omega)
                rw [decide_eq_false k2, Bool.false_and, this, Bool.false_and]
          · have : inR (((pgH (g 0) : Int) - 1) - 32 * w - 31) 32 Y = false := inR_f.mpr (by omega)
            rw [decide_eq_false u, Bool.false_and, Bool.and_false, Bool.and_false, this]; rfl
        · rw [decide_eq_false z, Bool.false_and, Bool.false_and, Bool.false_and, Bool.or_false, Bool.or_false]
theorem c_copyTo {v k v' : Nat} (hv : LN v = 16000) (hv2 : v ≠ 25) (sf : SF c 46 g) (cv : CV c m g k v') : ∃ c', f_X0_copyTo v 46 c = some ((), c') ∧ Fr nF (pgA v) c c' ∧ (∀ y, y < pgH (g 0) → ∀ x, x < pgW (g 0) → pbit m x y = dotW (gA c' v) (20 * y) x) ∧ (∀ y, y < pgH (g 0) → ∀ x, pgW (g 0) ≤ x → x < 640 → dotW (gA c' v) (20 * y) x = false) := by
  have hW := lgW_le g
  have hH := lgH_le g
  have hp := pg_le (g 0)
  have hout : ∀ X Y, X < 800 → Y < 800 → (lgW g ≤ X ∨ lgH g ≤ Y) → dotW (gA c 25) (25 * Y) X = false := fun X Y hX hY z => by
    rw [cv.d X Y hX hY]
    rcases z with z | z
    · rw [decide_eq_false (show ¬ X < lgW g by omega)]; rfl
    · rw [decide_eq_false (show ¬ Y < lgH g by omega), Bool.and_false, Bool.false_and]
  have rows : ∀ (N y : Nat) (T : Mm), lgH g - y < N → y ≤ lgH g → Fr nF (pgA v) c T → (∀ X Y, X < 640 → Y < 800 → dotW (gA T v) (20 * Y) X = cpP c g y 0 X Y) → ∃ c', f_X0_copyTo_l24 N v 46 (nI ((lgW g + 31) / 32)) (nI y) T = some ((), c') ∧ Fr nF (pgA v) c c' ∧ ∀ X Y, X < 640 → Y < 800 → dotW (gA c' v) (20 * Y) X = cpP c g (lgH g) 0 X Y := by
    intro N
    induction N with
    | zero => intro y T h; omega
    | succ N ih =>
      intro y T g1 g2 g3 g4
      show ∃ c', f_X0_copyTo_b24 (f_X0_copyTo_l24 N) v 46 (nI ((lgW g + 31) / 32)) (nI y) T = _ ∧ _
      unfold f_X0_copyTo_b24
      rw [c_dd (sf.fr g3 ⟨rfl, rfl⟩), bd_eq]
      by_cases q : lgH g ≤ y
      · rw [if_pos (nI_le q (by omega))]
        exact ⟨T, rfl, g3, by rw [show lgH g = y by omega]; exact g4⟩
      · rw [if_neg (nI_ge (by omega) (by omega)), if_neg (show ¬ (800 : Int32) ≤ nI y from nI_ge (b := 800) (by omega) (by omega))]
        obtain ⟨T', t1, t2, t3⟩ := c_words hv hv2 sf hout (show y < lgH g by omega) (f_X0_copyTo_l24 N) FU 0 T (FU_gt (by omega)) (by omega) g3 g4
        have t1' : f_X0_copyTo_l44 (f_X0_copyTo_l24 N) FU v 46 (nI ((lgW g + 31) / 32)) (nI y) 0 T = _ := t1
        rw [t1']
        exact ih (y + 1) T' (by omega) (by omega) t2 t3
  unfold f_X0_copyTo
  rw [f_fill (by rw [hv]; decide), bd_eq, hv]
  have f0 : Fr nF (pgA v) c (vA c v (fun j => if j < 16000 then 0 else gA c v j)) := Fr.refl.vA _ (by simp [pgA])
  have z0 : ∀ X Y, X < 640 → Y < 800 → dotW (gA (vA c v (fun j => if j < 16000 then 0 else gA c v j)) v) (20 * Y) X = cpP c g 0 0 X Y := fun X Y hX hY => by
    rw [gA_vA_s]
    have e1 : dotW (fun j => if j < 16000 then 0 else gA c v j) (20 * Y) X = false := by
      show bt (if 20 * Y + X / 32 < 16000 then 0 else gA c v (20 * Y + X / 32)) (31 - X % 32) = false
      rw [if_pos (by omega), b_0]
    rw [e1]
    unfold cpP
    split <;> simp
  generalize vA c v (fun j => if j < 16000 then 0 else gA c v j) = c1 at f0 z0
  rw [c_dac (sf.fr f0 ⟨rfl, rfl⟩), bd_eq, show nI (lgW g) + 31 = nI (lgW g + 31) from nI_add _ 31, show nI (lgW g + 31) / 32 = nI ((lgW g + 31) / 32) from pk_div (d := 32) (by omega) (by decide) (by decide), f_min, if_neg (show ¬ (25 : Int32) < nI ((lgW g + 31) / 32) from nI_nlt (a := 25) (by omega) (by omega)), bd_eq]
  obtain ⟨c', e1, e2, e3⟩ := rows FU 0 c1 (FU_gt (by omega)) (by omega) f0 z0
  refine ⟨c', e1, e2, fun y hy x hx => ?_, fun y hy x hx hx2 => ?_⟩
  · rw [e3 x y (by omega) (by omega)]
    unfold cpP
    by_cases o : g 1 = 0
    · have eW : lgW g = pgW (g 0) := by unfold lgW; rw [if_pos o]
      have eH : lgH g = pgH (g 0) := by unfold lgH; rw [if_pos o]
      rw [if_pos o, decide_eq_true (show y < lgH g by omega), Bool.true_or, Bool.true_and, cv.d x y (by omega) (by omega), decide_eq_true (show x < lgW g by omega), decide_eq_true (show y < lgH g by omega)]
      unfold phX phY
      rw [if_pos o, if_pos o]
      rfl
    · have eW : lgW g = pgH (g 0) := by unfold lgW; rw [if_neg o]
      have eH : lgH g = pgW (g 0) := by unfold lgH; rw [if_neg o]
      rw [if_neg o, decide_eq_true (show x < lgH g by omega), Bool.true_or, Bool.true_and, decide_eq_true hy, Bool.true_and, cv.d (pgH (g 0) - 1 - y) x (by omega) (by omega), decide_eq_true (show pgH (g 0) - 1 - y < lgW g by omega), decide_eq_true (show x < lgH g by omega)]
      unfold phX phY
      rw [if_neg o, if_neg o, show pgH (g 0) - 1 - (pgH (g 0) - 1 - y) = y by omega]
      rfl
  · rw [e3 x y (by omega) (by omega)]
    unfold cpP
    by_cases o : g 1 = 0
    · have eW : lgW g = pgW (g 0) := by unfold lgW; rw [if_pos o]
      rw [if_pos o, hout x y (by omega) (by omega) (Or.inl (by omega)), Bool.and_false]
    · have eH : lgH g = pgW (g 0) := by unfold lgH; rw [if_neg o]
      rw [if_neg o, decide_eq_false (show ¬ x < lgH g by omega), show (decide (x = lgH g) && decide (pgH (g 0) - 1 - y < 32 * 0)) = false by simp]
      rfl
end B7
