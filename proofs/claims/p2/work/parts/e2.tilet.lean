/-! The task of tiles whole, on both sides. -/
section E2
variable {c c' c0 c1 c2 m m' m0 m1 m2 T : Mm} {d w b : Nat} {ov ov' ng sg : Bool} {g L : Nat → Int32} {Gc Gm : Gty}
/-- one place of the shelf changes -/
theorem SV.one {u : Nat} {a b : Bool} {x : Int32} {F : Nat → Nat → Bool} {G : Nat → Bool} (h : SV c m 37 143 144) (hx : x = sv a b) (e1 : ∀ j, j < 16 → gA c' 37 j = if j = u then x else gA c 37 j) (e2 : ∀ j, j < 16 → gA m' 143 j = if j = u then cI a else gA m 143 j) (e3 : ∀ j, j < 16 → gA m' 144 j = if j = u then cI b else gA m 144 j) : SV c' m' 37 143 144 := fun j hj => by
  by_cases q : j = u
  · exact ⟨a, b, by rw [e2 j hj, if_pos q], by rw [e3 j hj, if_pos q], by rw [e1 j hj, if_pos q, hx]⟩
  · obtain ⟨x, y, z1, z2, z3⟩ := h j hj
    exact ⟨x, y, by rw [e2 j hj, if_neg q]; exact z1, by rw [e3 j hj, if_neg q]; exact z2, by rw [e1 j hj, if_neg q]; exact z3⟩
theorem gA_one {T : Mm} {a k j : Nat} {x : Int32} : gA (uA T a k x) a j = if j = k then x else gA T a j := by rw [gA_wr]; rfl
/-- a tile goes -/
theorem tile_rm {u : Nat} (h : RR d ov c m) (hu : u < 16) : OU d ov c m (uA c 37 u 0) (uA m 143 u 0) := by
  obtain ⟨a, b, z1, z2, z3⟩ := h.tl.s u hu
  refine OU.tls h (Fr.refl.uA _ _ (by rfl)) (Fr.refl.uA _ _ (by rfl)) (SV.one (u := u) (a := false) (b := b) (F := nF) (G := noA) h.tl.s (by cases b <;> rfl) (fun j _ => gA_one) (fun j _ => gA_one) (fun j _ => ?_)) (fun j hj => ?_)
  · rw [gA_wo _ _ _ (by decide)]
    by_cases q : j = u
    · rw [if_pos q, q, z2]
    · rw [if_neg q]
  · rw [gA_one]
    by_cases q : j = u
    · rw [if_pos q]; intro y; exact absurd y (by decide)
    · rw [if_neg q]; exact id
/-- a tile is marked to stay or to go -/
theorem tile_mk {u : Nat} {t : Bool} (h : RR d ov c m) (hu : u < 16) : ∃ c', f_X8_mark 36 (nI u) (cI t) c = some ((), c') ∧ OU d ov c m c' (uA m 144 u (cI t)) := by
  obtain ⟨a, b, z1, z2, z3⟩ := h.tl.s u hu
  have sm : ∀ j, gA (uA m 144 u (cI t)) 143 j = gA m 143 j := fun j => by rw [gA_wo _ _ _ (by decide)]
  unfold f_X8_mark
  rw [sp_has hu, bd_eq, show gA c (36 + 1) u = sv a b from z3]
  cases a
  · refine ⟨c, by cases b <;> rfl, OU.tls h Fr.refl (Fr.refl.uA _ _ (by rfl)) (SV.one (u := u) (a := false) (b := t) (x := 0) (F := nF) (G := noA) h.tl.s (by cases t <;> rfl) (fun j _ => ?_) (fun j _ => ?_) (fun j _ => gA_one)) (fun j _ => by rw [sm]; exact id)⟩
    · by_cases q : j = u
      · rw [if_pos q, q, z3]; cases b <;> rfl
      · rw [if_neg q]
    · rw [sm]
      by_cases q : j = u
      · rw [if_pos q, q, z1]
      · rw [if_neg q]
  · have nz : ¬ cI (!decide (sv true b = 0)) = 0 := by cases b <;> decide
    refine ⟨uA c 37 u (sv true t), ?_, OU.tls h (Fr.refl.uA _ _ (by rfl)) (Fr.refl.uA _ _ (by rfl)) (SV.one (u := u) (a := true) (b := t) (F := nF) (G := noA) h.tl.s rfl (fun j _ => gA_one) (fun j _ => ?_) (fun j _ => gA_one)) (fun j _ => by rw [sm]; exact id)⟩
    · rw [if_neg nz]
      cases t
      · rw [if_pos (by rfl), ix_in (j := u) (nI_pos (by omega)) (nI_clamp (by omega)) (by omega), lb_eq]; rfl
      · rw [if_neg (by decide), ix_in (j := u) (nI_pos (by omega)) (nI_clamp (by omega)) (by omega), lb_eq]; rfl
    · rw [sm]
      by_cases q : j = u
      · rw [if_pos q, q, z1]
      · rw [if_neg q]
end E2
