/-! cut and drop on both sides. -/
theorem P2_cut {c m : Mm} {n : Nat} (p : Int32) (h : TJ c m n) : P2 (f_X11_cut p c) (f_X12_cut p m) (fun r c' s m' => r = s ∧ (∃ n', TJ c' m' n') ∧ Fr cFeF (fun _ => false) c c' ∧ Fr mFeF (fun _ => false) m m') := by
  have h0 := h
  obtain ⟨h1, h2, h3, h4⟩ := h
  unfold f_X11_cut f_X12_cut
  by_cases z : p < 0
  · rw [if_pos z, if_pos z]; exact P2_ret ⟨rfl, ⟨n, h0⟩, Fr.refl, Fr.refl⟩
  rw [if_neg z, if_neg z, h1, h2]
  obtain ⟨k, rfl, hk1, hk2⟩ := iz_ex p
  have hk0 : 0 ≤ k := by
    by_cases y : 0 ≤ k
    · exact y
    · exact absurd ((iz_nn hk1 hk2).mpr (by omega)) z
  obtain ⟨u, rfl⟩ : ∃ u : Nat, k = (u : Int) := ⟨k.toNat, by omega⟩
  rw [← nI_iz]
  by_cases y : u ≤ n
  · rw [if_pos (nI_le y (by omega)), if_pos (nI_le y (by omega)), lb_eq, lb_eq, lb_eq, lb_eq]
    exact P2_ret ⟨rfl, ⟨u, by rw [gI_uI, if_pos ⟨rfl, rfl⟩], by rw [gI_uI, if_pos ⟨rfl, rfl⟩], by omega, fun j hj => h4 j (by omega)⟩, Fr.refl.uI _ (by rfl), Fr.refl.uI _ (by rfl)⟩
  · rw [if_neg (nI_ge (by omega) (by omega)), if_neg (nI_ge (by omega) (by omega))]
    exact P2_ret ⟨rfl, ⟨n, h0⟩, Fr.refl, Fr.refl⟩
theorem P2_drop {c m : Mm} (h : gI c 1105 0 = gI m 1222 133) : P2 (f_X11_drop c) (f_X12_drop m) (fun r c' s m' => r = s ∧ c' = uI c 1105 0 0 ∧ m' = uI m 1222 133 0) := P2_ret ⟨h, rfl, rfl⟩
