/-! The task of tiles, on both sides. -/
section E1
variable {c c' c0 c1 c2 m m' m0 m1 m2 T : Mm} {d w b : Nat} {ov ov' ng sg : Bool} {g L : Nat → Int32} {Gc Gm : Gty}
def a37 (a : Nat) : Bool := a == 37
def a143 (a : Nat) : Bool := a == 143 || a == 144
theorem RR.tls (h : RR d ov c m) (fc : Fr nF a37 c c') (fm : Fr nF a143 m m') (tl : TL c' m') : RR d ov c' m' := by
  obtain ⟨q, q1, q2, q3⟩ := h.gn
  obtain ⟨k, v, hcv⟩ := h.cv
  obtain ⟨p, hp1, hp2⟩ : ∃ p, gI c 602 5 = nI p ∧ p ≤ 12 := by
    obtain ⟨s, p, _, z1, _, z3, _⟩ := h.sh
    exact ⟨p, z1, z3⟩
  have e34 : gA m' 134 = gA m 134 := fm.a (by rfl)
  exact RR_mk (by rw [e34]; exact h.ev.fr fc (fun _ _ _ _ => rfl) (fun a a1 a2 => by unfold a37; simp; omega)) (by rw [e34]; exact h.eb) (by rw [fc.i (by rfl)]; exact h.d1) (by rw [fm.i (by rfl)]; exact h.d2) h.d3 (by rw [fc.i (by rfl)]; exact h.o1) (by rw [fm.i (by rfl)]; exact h.o2) (by rw [fm.i (by rfl)]; exact h.im) ⟨q, by rw [fc.i (by rfl)]; exact q1, by rw [fm.i (by rfl)]; exact q2, q3⟩
    ⟨k, v, hcv.fr fc fm (by rw [e34]) (by rw [e34]) ⟨rfl, rfl, rfl⟩ ⟨rfl, rfl⟩ rfl rfl⟩ (h.sh.fr hp1 hp2 fc fm (fun _ => rfl) ⟨rfl, rfl, rfl, fun i hi => by unfold a37; simp; omega⟩ ⟨rfl, rfl, rfl, rfl⟩ ⟨rfl, rfl, rfl, rfl⟩) (h.tb.fr fm rfl rfl) (h.ft.fr fc fm ⟨rfl, rfl, rfl, rfl, rfl, rfl⟩ ⟨rfl, rfl, rfl, rfl, rfl, rfl, rfl⟩ rfl)
    (h.ka.fr fc ⟨rfl, rfl⟩ ⟨rfl, rfl, rfl⟩) tl (h.mc.fr fc fm ⟨rfl, rfl, rfl⟩ ⟨rfl, rfl, rfl, rfl⟩) (by rw [fc.r (by rfl)]; exact h.rd) (by rw [fm.r (by rfl)]; exact h.sc)
theorem KP.tls (fc : Fr nF a37 c c') (fm : Fr nF a143 m m') : KP d ov c m c' m' := KP.of fc fm (fun _ _ h => by cases h) (fun a h => by
  have : a = 37 := by simpa [a37] using h
  subst this; unfold skA; simp) (fun _ _ h => by cases h) (fun a h => by
  have : a = 143 ∨ a = 144 := by simpa [a143] using h
  rcases this with rfl | rfl <;> exact ⟨rfl, by decide, by decide⟩)
theorem OU.tls (h : RR d ov c m) (fc : Fr nF a37 c c') (fm : Fr nF a143 m m') (sv : SV c' m' 37 143 144) (t : ∀ u, u < 16 → gA m' 143 u = 1 → gA m 143 u = 1) : OU d ov c m c' m' := by
  have e34 : gA m' 134 = gA m 134 := fm.a (by rfl)
  have eu : ∀ u, ur m' u = ur m u := fun u => by
    unfold ur
    rw [fm.a (show a143 145 = false from rfl), fm.a (show a143 146 = false from rfl), fm.a (show a143 147 = false from rfl)]
  refine ⟨Or.inl (h.tls fc fm ⟨sv, fun u hu q => ?_⟩), KP.tls fc fm, fun _ => by rw [e34]; exact ⟨rfl, rfl⟩⟩
  rw [eu]
  exact (h.tl.t u hu (t u hu q)).fr (fc.i (by rfl)) (fc.i (by rfl)) (fc.i (by rfl)) (fc.b (by unfold a37; simp; omega))
end E1
