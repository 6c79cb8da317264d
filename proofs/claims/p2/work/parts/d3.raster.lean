/-! The fields of raster whole, on both sides. -/
section D3
variable {c c' c0 c1 c2 m m' m0 m1 m2 T : Mm} {d w b : Nat} {ov ov' ng sg : Bool} {g L : Nat → Int32} {Gc Gm : Gty}
theorem ras_w {x y : Int32} (h : EVq c 45 (gA m 134)) (e : EB (gA m 134)) (hx : x = rz y) (hy : ¬ y = 0) (y1 : -1 ≤ y.toInt) (y2 : y.toInt ≤ 32767) : EP c m (uI c 402 48 x) (uA m 134 55 y) := by
  have q : ∀ j, gA (uA m 134 55 y) 134 j = if j = 55 then y else gA m 134 j := fun j => by rw [gA_wr]; rfl
  have p : ∀ f, gI (uI c 402 48 x) f 48 = if f = 402 then x else gI c f 48 := fun f => by
    rw [gI_uI]
    by_cases y : f = 402
    · rw [if_pos ⟨y, rfl⟩, if_pos y]
    · rw [if_neg (fun z => y z.1), if_neg y]
  refine EP.ras h e (Fr.refl.uI _ (by rfl)) (Fr.refl.uA _ _ (by rfl)) (fun j hj => by rw [q, if_neg (by omega)]) ?_ ?_ ?_ ?_ ?_ ?_ ?_ ?_ ?_ ?_
  · rw [p, q, if_neg (by decide), if_neg (by decide)]; exact h.i (400, 3, 53) (by decide)
  · rw [p, q, if_neg (by decide), if_neg (by decide)]; exact h.i (401, 3, 54) (by decide)
  · rw [p, q, if_neg (by decide), if_neg (by decide)]; exact h.i (404, 3, 57) (by decide)
  · rw [p, q, if_neg (by decide), if_neg (by decide)]; exact h.i (405, 3, 58) (by decide)
  · rw [p, q, if_pos rfl, if_pos rfl]; exact hx
  · rw [p, q, if_neg (by decide), if_neg (by decide)]; exact h.h
  · rw [p, q, q, q, if_neg (by decide), if_neg (by decide), if_neg (by decide), if_neg (by decide)]
    exact fun u v => ⟨h.r u v, e.o u v⟩
  · intro i hi
    rw [q, if_neg (by omega)]; exact h.b i hi
  · intro k k1 k2
    rw [q]
    by_cases u : k = 55
    · rw [if_pos u, u]; exact ⟨y1, y2⟩
    · rw [if_neg u]; exact e.r k (by omega)
  · rw [q, q, if_pos rfl, if_neg (by decide)]; exact ⟨hy, e.z.2⟩
theorem ras_h {x y : Int32} (h : EVq c 45 (gA m 134)) (e : EB (gA m 134)) (h57 : gA m 134 57 = 0) (hx : x = rz y) (hy : ¬ y = 0) (y1 : -1 ≤ y.toInt) (y2 : y.toInt ≤ 32767) : EP c m (uI c 403 48 x) (uA m 134 56 y) := by
  have q : ∀ j, gA (uA m 134 56 y) 134 j = if j = 56 then y else gA m 134 j := fun j => by rw [gA_wr]; rfl
  have p : ∀ f, gI (uI c 403 48 x) f 48 = if f = 403 then x else gI c f 48 := fun f => by
    rw [gI_uI]
    by_cases y : f = 403
    · rw [if_pos ⟨y, rfl⟩, if_pos y]
    · rw [if_neg (fun z => y z.1), if_neg y]
  refine EP.ras h e (Fr.refl.uI _ (by rfl)) (Fr.refl.uA _ _ (by rfl)) (fun j hj => by rw [q, if_neg (by omega)]) ?_ ?_ ?_ ?_ ?_ ?_ ?_ ?_ ?_ ?_
  · rw [p, q, if_neg (by decide), if_neg (by decide)]; exact h.i (400, 3, 53) (by decide)
  · rw [p, q, if_neg (by decide), if_neg (by decide)]; exact h.i (401, 3, 54) (by decide)
  · rw [p, q, if_neg (by decide), if_neg (by decide)]; exact h.i (404, 3, 57) (by decide)
  · rw [p, q, if_neg (by decide), if_neg (by decide)]; exact h.i (405, 3, 58) (by decide)
  · rw [p, q, if_neg (by decide), if_neg (by decide)]; exact h.w
  · rw [p, q, if_pos rfl, if_pos rfl]; exact hx
  · rw [q, if_neg (by decide), h57]
    intro u
    exact absurd u (by decide)
  · intro i hi
    rw [q, if_neg (by omega)]; exact h.b i hi
  · intro k k1 k2
    rw [q]
    by_cases u : k = 56
    · rw [if_pos u, u]; exact ⟨y1, y2⟩
    · rw [if_neg u]; exact e.r k (by omega)
  · rw [q, q, if_neg (by decide), if_pos rfl]; exact ⟨e.z.1, hy⟩
theorem m_rowz : ∀ (n i : Nat) (T : Mm), 80 - i < n → i ≤ 80 → ∃ T', f_X12_begin_l45 n (nI i) T = some ((), T') ∧ Fr nF meA T T' ∧ ∀ j, gA T' 134 j = if 60 + i ≤ j ∧ j < 140 then 0 else gA T 134 j := by
  intro n
  induction n with
  | zero => intro i T h1 h2; omega
  | succ n ih =>
    intro i T h1 h2
    show ∃ T', f_X12_begin_b45 (f_X12_begin_l45 n) (nI i) T = some ((), T') ∧ _
    unfold f_X12_begin_b45
    by_cases q : i = 80
    · subst q
      rw [if_pos (by decide)]
      exact ⟨T, rfl, Fr.refl, fun j => by rw [if_neg (by omega)]⟩
    · rw [if_neg (show ¬ (80 : Int32) ≤ nI i from (show ¬ nI 80 ≤ nI i from nI_ge (by omega) (by omega))), show (60 : Int32) = nI 60 from rfl, nI_add, ix_in (j := 60 + i) (nI_pos (by omega)) (nI_clamp (by omega)) (by omega), lb_eq, show (1 : Int32) = nI 1 from rfl, nI_add]
      obtain ⟨T', e1, e2, e3⟩ := ih (i + 1) (uA T 134 (60 + i) 0) (by omega) (by omega)
      refine ⟨T', e1, (Fr.refl.uA _ _ (by rfl)).trans e2, fun j => ?_⟩
      rw [e3, gA_wr]
      unfold wr
      by_cases a : 60 + i ≤ j ∧ j < 140
      · rw [if_pos a]
        by_cases z : j = 60 + i
        · rw [if_neg (by omega), if_pos z]
        · rw [if_pos (by omega)]
      · rw [if_neg a, if_neg (by omega), if_neg (by omega)]
/-- a raster begins -/
theorem ras_begin (h : EVq c 45 (gA m 134)) (e : EB (gA m 134)) : ∃ c' m', f_X9_beginRaster_15 c = some ((), c') ∧ f_X12_begin_9 m = some ((), m') ∧ EP c m c' m' := by
  obtain ⟨x, x1, x2⟩ := e.k189
  have a1 : f_X9_beginRaster_15 c = some ((), vA (uI (uI (uI c 404 48 1) 405 48 (nI (x / 96))) 406 48 0) 49 (fun j => if j < LN 49 then 0 else gA (uI (uI (uI c 404 48 1) 405 48 (nI (x / 96))) 406 48 0) 49 j)) := by
    unfold f_X9_beginRaster_15 f_X4_begin f_X4_clearRow
    rw [show gI c 706 46 = nI x from (h.i (706, 1, 189) (by decide)).trans x1, show (96 : Int32) = nI 96 from rfl, pk_div (by omega) (by decide) (by decide), bd_u, lb_eq, lb_eq, lb_eq, bd_u, bd_u, f_fill (by decide)]
  have b1 : f_X12_begin_9 m = f_X12_begin_l45 FU (nI 0) (uA (uA (uA m 134 57 1) 134 58 (nI (x / 96))) 134 59 0) := by
    unfold f_X12_begin_9
    rw [lb_eq, show gA (uA m 134 57 1) 134 189 = nI x by rw [gA_wr, wr_o _ (by decide), x1], show (96 : Int32) = nI 96 from rfl, pk_div (by omega) (by decide) (by decide), lb_eq, lb_eq, show (0 : Int32) = nI 0 from rfl]
  rw [a1, b1]
  obtain ⟨m', e1, e2, e3⟩ := m_rowz FU 0 (uA (uA (uA m 134 57 1) 134 58 (nI (x / 96))) 134 59 0) (by decide) (by omega)
  refine ⟨_, m', rfl, e1, ?_⟩
  have q : ∀ j, gA m' 134 j = if 60 ≤ j ∧ j < 140 then 0 else if j = 59 then 0 else if j = 58 then nI (x / 96) else if j = 57 then 1 else gA m 134 j := fun j => by
    rw [e3, gA_wr, gA_wr, gA_wr]; rfl
  have n56 : gA m' 134 56 = gA m 134 56 := q 56
  have ei := iz_int (a := ((x / 96 : Nat) : Int)) (by omega) (by omega)
  refine EP.ras h e ((((Fr.refl.uI _ (by rfl)).uI _ (by rfl)).uI _ (by rfl)).vA _ (by rfl)) ((((Fr.refl.uA _ _ (by rfl)).uA _ _ (by rfl)).uA _ _ (by rfl)).trans e2) (fun j hj => by rw [q, if_neg (by omega), if_neg (by omega), if_neg (by omega), if_neg (by omega)]) ?_ ?_ ?_ ?_ ?_ ?_ ?_ ?_ ?_ ?_
  · exact (h.i (400, 3, 53) (by decide)).trans (q 53).symm
  · exact (h.i (401, 3, 54) (by decide)).trans (q 54).symm
  · exact (show (1 : Int32) = _ from (q 57).symm)
  · exact (show nI (x / 96) = _ from (q 58).symm)
  · rw [show gA m' 134 55 = gA m 134 55 from q 55]; exact h.w
  · rw [n56]; exact h.h
  · intro _ y
    rw [n56] at y ⊢
    rw [show gA m' 134 59 = 0 from q 59]
    obtain ⟨z, z0, z1, z2⟩ := e.k56
    have : z ≠ -1 := fun u => y (by rw [z0, u]; rfl)
    rw [z0, iz_int (by omega) (by omega)]
    exact ⟨rfl, by decide, show (0 : Int) ≤ _ by omega⟩
  · intro i hi
    rw [gA_vA_s]
    have l49 : LN 49 = 20 := by decide
    rw [l49, if_pos (show i / 32 < 20 by omega), q, if_pos (show 60 ≤ 60 + i / 8 ∧ 60 + i / 8 < 140 by omega), show (0 : Int32) = nI 0 from rfl, nI_bt (by omega), nI_bt (by omega), Nat.zero_testBit, Nat.zero_testBit]
  · intro k k1 k2
    rw [q, if_neg (by omega), if_neg (by omega)]
    by_cases u : k = 58
    · rw [if_pos u, u, nI_iz, ei]; exact ⟨show (0 : Int) ≤ _ by omega, show _ ≤ (800 : Int) by omega⟩
    · rw [if_neg u]
      by_cases u2 : k = 57
      · rw [if_pos u2, u2]; decide
      · rw [if_neg u2]; exact e.r k (by omega)
  · rw [n56, show gA m' 134 55 = gA m 134 55 from q 55]; exact e.z
end D3
