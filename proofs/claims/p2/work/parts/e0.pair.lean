/-! A pair but the reset and the data shown, on both sides. -/
section E0
variable {c c' c0 c1 c2 m m' m0 m1 m2 T : Mm} {d w b : Nat} {ov ov' ng sg : Bool} {g L : Nat → Int32} {Gc Gm : Gty}
theorem P2_two {k : Nat} (hk : k < 256) (q69 : ¬ k = 69) (q89 : ¬ k = 89) (h : RR d ov c m) (gs : GS Gc Gm d) : P2 (f_X9_twoBytes Gc (nI k) c) (f_X12_pair Gm (nI k) m) (fun _ c' _ m' => OU d ov c m c' m') := by
  have n : ∀ a, a < 256 → ¬ k = a → ¬ nI k = nI a := fun a ha q => nI_ne hk ha q
  have h69 : ¬ nI k = 69 := n 69 (by decide) q69
  have h89 : ¬ nI k = 89 := n 89 (by decide) q89
  unfold f_X9_twoBytes f_X12_pair
  rw [if_neg h69, if_neg h69, if_neg h89, if_neg h89]
  by_cases q57 : k = 57
  · subst q57
    refine P2_ep h _ _ ?_
    rw [if_pos (show nI 57 = 57 from rfl), if_pos (show nI 57 = 57 from rfl), bd_u]
    exact two_clear h.ev h.eb
  have h57 : ¬ nI k = 57 := n 57 (by decide) q57
  rw [if_neg h57, if_neg h57]
  by_cases q61 : k = 61
  · subst q61
    obtain ⟨v, v1, v2⟩ := h.eb.k6
    rw [if_pos (show nI 61 = 61 from rfl), if_pos (show nI 61 = 61 from rfl), bd_u, bd_u, show gI c 708 46 = nI v from (h.ev.i (708, 1, 6) (by decide)).trans v1, v1, show (2 : Int32) = nI 2 from rfl, pk_div (by omega) (by decide) (by decide)]
    exact P2_line (by omega) h gs
  have h61 : ¬ nI k = 61 := n 61 (by decide) q61
  rw [if_neg h61, if_neg h61]
  exact P2_ret (OU.refl h)
end E0
