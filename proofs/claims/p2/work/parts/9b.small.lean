/-! fault, outs, out, pages on both sides. -/
theorem P2_fault {c m : Mm} (p : Int32) (h1 : gI c 1109 0 = gI m 1243 133) (h2 : gI c 1110 0 = gI m 1244 133) (h3 : gI c 1111 0 = gI m 1245 133) : P2 (f_X11_fault p c) (f_X12_fault p m) (fun r c' s m' => r = s ∧ c' = c ∧ m' = m) := by
  unfold f_X11_fault f_X12_fault
  by_cases z : p = 0
  · rw [if_pos z, if_pos z]; exact P2_ret ⟨h1, rfl, rfl⟩
  rw [if_neg z, if_neg z]
  by_cases z : p = 1
  · rw [if_pos z, if_pos z]; exact P2_ret ⟨h2, rfl, rfl⟩
  rw [if_neg z, if_neg z]
  by_cases z : p = 2
  · rw [if_pos z, if_pos z]; exact P2_ret ⟨h3, rfl, rfl⟩
  rw [if_neg z, if_neg z]
  exact P2_ret ⟨rfl, rfl, rfl⟩
/-- OUT as it stands between calls -/
def OJ (c m : Mm) (s : Nat) : Prop := gI c 601 5 = nI s ∧ gI m 1242 133 = nI s ∧ s ≤ 60000 ∧ ∀ j, j < s → gA c 6 j = gA m 161 j
theorem P2_outs {c m : Mm} {s : Nat} (h : OJ c m s) : P2 (f_X11_outs c) (f_X12_outs m) (fun r c' v m' => r = v ∧ c' = c ∧ m' = m) := P2_ret ⟨by rw [h.1, h.2.1], rfl, rfl⟩
theorem P2_pages {c m : Mm} (h : gI c 602 5 = gI m 1240 133) : P2 (f_X11_pages c) (f_X12_pages m) (fun r c' v m' => r = v ∧ c' = c ∧ m' = m) := P2_ret ⟨h, rfl, rfl⟩
theorem P2_out {c m : Mm} {s : Nat} (p : Int32) (h : OJ c m s) : P2 (f_X11_out p c) (f_X12_out p m) (fun r c' v m' => r = v ∧ c' = c ∧ m' = m) := by
  obtain ⟨h1, h2, h3, h4⟩ := h
  unfold f_X11_out f_X12_out f_X6_byteAt
  by_cases z : p < 0
  · rw [if_pos z, if_pos z, bd_eq]; exact P2_ret ⟨rfl, rfl, rfl⟩
  rw [if_neg z, if_neg z, h1, h2]
  obtain ⟨k, rfl, hk1, hk2⟩ := iz_ex p
  have hk0 : 0 ≤ k := by
    by_cases y : 0 ≤ k
    · exact y
    · exact absurd ((iz_nn hk1 hk2).mpr (by omega)) z
  obtain ⟨n, rfl⟩ : ∃ n : Nat, k = (n : Int) := ⟨k.toNat, by omega⟩
  rw [← nI_iz]
  by_cases y : n < s
  · rw [if_neg (nI_ge y (by omega)), if_neg (show ¬ (60000 : Int32) ≤ nI n from nI_ge (b := 60000) (by omega) (by omega)), if_pos (nI_lt y (by omega)), ix_in (j := n) (nI_pos (by omega)) (nI_clamp (by omega)) (by omega), ix_in (j := n) (nI_pos (by omega)) (nI_clamp (by omega)) (by omega), bd_eq, h4 n y]
    exact P2_ret ⟨rfl, rfl, rfl⟩
  · rw [if_pos (nI_le (by omega) (by omega)), if_neg (nI_nlt (by omega) (by omega)), bd_eq]
    exact P2_ret ⟨rfl, rfl, rfl⟩
