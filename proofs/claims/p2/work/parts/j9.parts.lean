/-! All parts of a job, on both sides. -/
section J9
variable {c c' c0 c1 c2 c3 m m' m0 m1 m2 m3 T T' M' : Mm} {s p a ps N : Nat} {PF QF : Nat → Nat → Bool} {PA QA : Nat → Bool}
theorem P2_parts : ∀ (N N' a : Nat) (c m : Mm), a ≤ ps → ps - a < N → ps - a < N' → PJ ps c m → P2 (f_X11_print_l45 N (nI a) c) (f_X12_print_l80 N' (nI a) m) (fun r c' r' m' => r = r' ∧ JE c' m') := by
  intro N
  induction N with
  | zero => intro N' a c m h1 h2; omega
  | succ N ih =>
    intro N' a c m h1 h2 h3 h
    obtain ⟨N', rfl⟩ : ∃ N0, N' = N0 + 1 := ⟨N' - 1, by omega⟩
    show P2 (f_X11_print_b45 (f_X11_print_l45 N) (nI a) c) (f_X12_print_b80 (f_X12_print_l80 N') (nI a) m) _
    have pe := P2_pEnd h
    obtain ⟨pi, st, hh⟩ := h
    have hps : ps ≤ 6 := pi.2.2.1
    unfold f_X11_print_b45 f_X12_print_b80
    rw [pi.1, pi.2.1]
    by_cases y : a = ps
    · rw [if_pos (nI_le (by omega) (by omega)), if_pos (nI_le (by omega) (by omega))]; exact pe
    rw [if_neg (nI_ge (by omega) (by omega)), if_neg (nI_ge (by omega) (by omega)), if_neg (show ¬ (6 : Int32) ≤ nI a from nI_ge (b := 6) (by omega) (by omega))]
    rcases hh with nf | fa
    case inr =>
      obtain ⟨_, _, e, x, w, e1, e2, e3, n1, n2, _⟩ := fa
      have he0 : ¬ nI e = 0 := nI_ne0 (by omega) (by omega)
      rw [n1, n2, if_neg he0, if_neg he0]; exact pe
    have i6 : ∀ {α : Type} (K : Nat → Option α), ix (nI a) 6 K = K a := fun K => ix_in (j := a) (nI_pos (by omega)) (nI_clamp (by omega)) (by omega)
    have i7 : ∀ {α : Type} (K : Nat → Option α), ix (nI a) 7 K = K a := fun K => ix_in (j := a) (nI_pos (by omega)) (nI_clamp (by omega)) (by omega)
    have i8 : ∀ {α : Type} (K : Nat → Option α), ix (nI a + 1) 7 K = K (a + 1) := fun K => by rw [show nI a + 1 = nI (a + 1) from nI_add _ 1]; exact ix_in (j := a + 1) (nI_pos (by omega)) (nI_clamp (by omega)) (by omega)
    rw [nf.2.1, nf.2.2.1, if_pos rfl, if_pos rfl, i6, i6, pi.2.2.2.1 a (by omega)]
    by_cases z : gA m 154 a = 0
    · rw [if_pos z, if_pos z, i7, i8]
      obtain ⟨c1, m1, w1, w2, w3⟩ := part_s pi nf (show a < ps by omega)
      rw [w1, w2, show nI a + 1 = nI (a + 1) from nI_add _ 1]
      exact ih N' (a + 1) c1 m1 (by omega) (by omega) (by omega) w3
    · rw [if_neg z, if_neg z, i7, i8]
      obtain ⟨c1, m1, w1, w2, w3⟩ := part_p pi st nf (show a < ps by omega)
      rw [w1, w2, show nI a + 1 = nI (a + 1) from nI_add _ 1]
      exact ih N' (a + 1) c1 m1 (by omega) (by omega) (by omega) w3
end J9
