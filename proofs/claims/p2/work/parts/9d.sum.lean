/-! sum on both sides. -/
theorem P2_sum {c m : Mm} {s : Nat} (h : OJ c m s) : P2 (f_X11_sum c) (f_X12_sum m) (fun r c' v m' => r = v ∧ c' = c ∧ m' = m) := by
  obtain ⟨h1, h2, h3, h4⟩ := h
  have go : ∀ n i a, i ≤ s → s - i < n → ∃ v, f_X6_sumOfBytes_l4 n a (nI i) c = some (v, c) ∧ f_X12_sum_l4 n a (nI i) m = some (v, m) := by
    intro n
    induction n with
    | zero => intro i a _ h; omega
    | succ n ih =>
      intro i a hi hn
      have e1 : f_X6_sumOfBytes_l4 (n + 1) a (nI i) c = f_X6_sumOfBytes_b4 (f_X6_sumOfBytes_l4 n) a (nI i) c := rfl
      have e2 : f_X12_sum_l4 (n + 1) a (nI i) m = f_X12_sum_b4 (f_X12_sum_l4 n) a (nI i) m := rfl
      rw [e1, e2]
      unfold f_X6_sumOfBytes_b4 f_X12_sum_b4
      rw [h1, h2]
      rcases Nat.lt_or_ge i s with hlt | hge
      · rw [if_neg (nI_ge hlt (by omega)), if_neg (nI_ge hlt (by omega)), if_neg (show ¬ (60000 : Int32) ≤ nI i from nI_ge (b := 60000) (by omega) (by omega)), ix_in (j := i) (nI_pos (by omega)) (nI_clamp (by omega)) (by omega), ix_in (j := i) (nI_pos (by omega)) (nI_clamp (by omega)) (by omega), lb_eq, lb_eq, h4 i hlt, nI_1]
        exact ih (i + 1) _ hlt (by omega)
      · rw [if_pos (nI_le hge (by omega)), if_pos (nI_le hge (by omega))]
        exact ⟨a, rfl, rfl⟩
  obtain ⟨v, e1, e2⟩ := go FU 0 0 (by omega) (FU_gt (by omega))
  unfold f_X11_sum f_X12_sum f_X6_sumOfBytes
  rw [show f_X6_sumOfBytes_l4 FU 0 0 c = some (v, c) from e1, bd_eq]
  exact ⟨v, c, v, m, rfl, e2, rfl, rfl, rfl⟩
