/-! The fields of raster, on both sides. -/
section D2
variable {c c' c0 c1 c2 m m' m0 m1 m2 T : Mm} {d w b : Nat} {ov ov' ng sg : Bool} {g L : Nat → Int32} {Gc Gm : Gty}
def rsF (_ i : Nat) : Bool := i == 48
def rsA (a : Nat) : Bool := a == 49
theorem env_r : ∀ q, q ∈ envT → q = (400, 3, 53) ∨ q = (401, 3, 54) ∨ q = (404, 3, 57) ∨ q = (405, 3, 58) ∨ ((q.2.1 = 0 ∨ q.2.1 = 1) ∧ (q.2.2 < 53 ∨ 140 ≤ q.2.2)) := by decide +kernel
theorem full_r : ∀ k, k < 140 → 59 ≤ k → lo k = -2147483648 ∧ hi k = 2147483647 := by decide +kernel
/-- the raster of the environment changes -/
theorem EP.ras (h : EVq c 45 (gA m 134)) (e : EB (gA m 134)) (fc : Fr rsF rsA c c') (fm : Fr nF meA m m') (o : ∀ j, (j < 53 ∨ 140 ≤ j) → gA m' 134 j = gA m 134 j) (v0 : gI c' 400 48 = gA m' 134 53) (v1 : gI c' 401 48 = gA m' 134 54) (v4 : gI c' 404 48 = gA m' 134 57) (v5 : gI c' 405 48 = gA m' 134 58) (v2 : gI c' 402 48 = rz (gA m' 134 55)) (v3 : gI c' 403 48 = rz (gA m' 134 56)) (v6 : gA m' 134 57 = 1 → ¬ gA m' 134 56 = -1 → gI c' 406 48 = gA m' 134 59 ∧ 0 ≤ (gA m' 134 59).toInt ∧ (gA m' 134 59).toInt ≤ (gA m' 134 56).toInt) (bb : ∀ i, i < 640 → bt (gA c' 49 (i / 32)) (31 - i % 32) = bt (gA m' 134 (60 + i / 8)) (7 - i % 8)) (rg : ∀ k, 53 ≤ k → k < 59 → lo k ≤ (gA m' 134 k).toInt ∧ (gA m' 134 k).toInt ≤ hi k) (z : ¬ gA m' 134 55 = 0 ∧ ¬ gA m' 134 56 = 0) : EP c m c' m' := by
  refine EP_mk (EVq_mk ?_ v2 v3 (fun x y => (v6 x y).1) ?_ bb ?_ ?_ ?_) (EB_mk ?_ z (fun x y => (v6 x y).2) ?_) (fc.weak (fun f i y => ?_) (fun a y => ?_)) fm (o 0 (by omega)) (o 1 (by omega))
  · intro q hq
    rcases env_r q hq with y | y | y | y | ⟨y1, y2⟩
    · rw [y]; exact v0
    · rw [y]; exact v1
    · rw [y]; exact v4
    · rw [y]; exact v5
    · rw [o _ y2, ← h.i q hq]
      refine fc.i ?_
      unfold rsF
      rcases y1 with y | y <;> rw [y] <;> simp
  · rw [o _ (by omega)]
    intro j hj hj2
    rw [o _ (by omega), fc.a (by unfold rsA; simp)]; exact h.p j hj hj2
  · exact (h.t.fr (fc.i (by unfold rsF; simp)) (fc.i (by unfold rsF; simp)) (fc.i (by unfold rsF; simp)) (fc.b (by unfold rsA; simp))).congr (fun k hk => o _ (by omega))
  · intro k hk
    rw [fc.a (by unfold rsA; simp), h.f k hk]
    have : wpi k ≤ 7 := by unfold wpi; split <;> omega
    exact (o _ (by omega)).symm
  · intro k hk
    rw [fc.a (by unfold rsA; simp), h.s k hk]
    have : wpi k ≤ 7 := by unfold wpi; split <;> omega
    exact (o _ (by omega)).symm
  · intro k hk
    by_cases q : k < 53 ∨ 140 ≤ k
    · rw [o _ q]; exact e.r k hk
    · by_cases q2 : k < 59
      · exact rg k (by omega) q2
      · obtain ⟨f1, f2⟩ := full_r k (by omega) (by omega)
        obtain ⟨y, y0, y1, y2⟩ := iz_ex (gA m' 134 k)
        rw [f1, f2, y0, iz_int y1 y2]; omega
  · rw [o _ (by omega), lgW_eq (o 0 (by omega)) (o 1 (by omega))]; exact e.x
  · revert y; unfold rsF eF; simp; omega
  · revert y; unfold rsA eA; simp; omega
/-- the raster ends -/
theorem ras_end (h : RR d ov c m) : EP c m (uI c 404 48 0) (uA m 134 57 0) := by
  have q : ∀ j, gA (uA m 134 57 0) 134 j = if j = 57 then 0 else gA m 134 j := fun j => by rw [gA_wr]; rfl
  have p : ∀ f, gI (uI c 404 48 0) f 48 = if f = 404 then 0 else gI c f 48 := fun f => by
    rw [gI_uI]
    by_cases y : f = 404
    · rw [if_pos ⟨y, rfl⟩, if_pos y]
    · rw [if_neg (fun z => y z.1), if_neg y]
  refine EP.ras h.ev h.eb (Fr.refl.uI _ (by rfl)) (Fr.refl.uA _ _ (by rfl)) (fun j hj => by rw [q, if_neg (by omega)]) ?_ ?_ ?_ ?_ ?_ ?_ ?_ ?_ ?_ ?_
  · rw [p, q, if_neg (by decide), if_neg (by decide)]; exact h.ev.i (400, 3, 53) (by decide)
  · rw [p, q, if_neg (by decide), if_neg (by decide)]; exact h.ev.i (401, 3, 54) (by decide)
  · rw [p, q, if_pos rfl, if_pos rfl]
  · rw [p, q, if_neg (by decide), if_neg (by decide)]; exact h.ev.i (405, 3, 58) (by decide)
  · rw [p, q, if_neg (by decide), if_neg (by decide)]; exact h.ev.w
  · rw [p, q, if_neg (by decide), if_neg (by decide)]; exact h.ev.h
  · rw [q, if_pos rfl]
    intro y
    exact absurd y (by decide)
  · intro i hi
    rw [q, if_neg (by omega)]; exact h.ev.b i hi
  · intro k k1 k2
    rw [q]
    by_cases y : k = 57
    · rw [if_pos y, y]; decide
    · rw [if_neg y]; exact h.eb.r k (by omega)
  · rw [q, q, if_neg (by decide), if_neg (by decide)]; exact h.eb.z
end D2
