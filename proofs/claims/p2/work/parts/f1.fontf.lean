/-! The fields of fonts but their data, on both sides. -/
section F1
variable {c c' c0 c1 c2 c3 m m' m0 m1 m2 m3 T : Mm} {d w b s : Nat} {ov ov' ng sg : Bool} {g L : Nat → Int32} {Gc Gm : Gty} {PF QF : Nat → Nat → Bool} {PA QA : Nat → Bool}
theorem cp_at {α : Type} {p q n N M : Nat} (hp : p < 100000) (hq : q < 100000) (hn : n < 100000) (h1 : p + n ≤ N) (h2 : q + n ≤ M) (k : Nat → Nat → Nat → Option α) : cp (nI p) (nI q) (nI n) N M k = k p q n := by
  unfold cp
  rw [nI_clamp (by omega), nI_clamp (by omega), nI_clamp (by omega), if_neg]
  rintro (h | h | h | h | h)
  · exact nI_pos (by omega) h
  · exact nI_pos (by omega) h
  · exact nI_pos (by omega) h
  · omega
  · omega
theorem c_has2 {f : Nat} (hf : f < 17) : f_X2_has (nI f) c = some (cI (thC c f), c) := by
  unfold f_X2_has thC
  by_cases q : f = 16
  · rw [q, if_pos (show nI 16 = 16 from rfl)]; rfl
  · rw [if_neg (show ¬ nI f = 16 from fun y => q ((nI_eq (b := 16) (by omega) (by omega)).mp y)), sp_has (by omega), bd_eq, show (f == 16) = false by simpa using q, Bool.false_or]
    cases decide (gA c (28 + 1) f = 0) <;> rfl
/-- seven numbers of a font become wishes -/
theorem m_l53 {f : Nat} (hs : s ≤ 1) (hf : f < 17) (e51 : gI m 1251 133 = nI f) : ∀ (n i : Nat) (T : Mm), 8 - i < n → i ≤ 7 → Fr nF meA m T → (∀ j, gA T 134 j = if 12 + 8 * s ≤ j ∧ j < 12 + 8 * s + i then gA m 138 (7 * f + (j - (12 + 8 * s))) else gA m 134 j) → ∃ T', Fr nF meA m T' ∧ (∀ j, gA T' 134 j = if 12 + 8 * s ≤ j ∧ j < 12 + 8 * s + 7 then gA m 138 (7 * f + (j - (12 + 8 * s))) else if j = 12 + 8 * s + 7 then nI f else gA m 134 j) ∧ f_X12_fontField_l53 n (nI (12 + 8 * s)) (nI i) T = (bd (f_X12_fontInUse T') fun v4 T5 => ix (((7 : Int32) * v4) + 1) 119 fun j6 => lb (uA T5 134 7 ((gA T5 138 j6))) fun T8 => some ((), T8)) := by
  intro n
  induction n with
  | zero => intro i T h; omega
  | succ n ih =>
    intro i T h1 h2 h3 h4
    show ∃ T', _ ∧ _ ∧ f_X12_fontField_b53 (f_X12_fontField_l53 n) (nI (12 + 8 * s)) (nI i) T = _
    unfold f_X12_fontField_b53
    rw [h3.i rfl, e51]
    by_cases q : i = 7
    · subst q
      refine ⟨uA T 134 (12 + 8 * s + 7) (nI f), h3.uA _ _ (by rfl), fun j => ?_, ?_⟩
      · rw [gA_one, h4]
        by_cases z : 12 + 8 * s ≤ j ∧ j < 12 + 8 * s + 7
        · rw [if_neg (by omega), if_pos z, if_pos z]
        · rw [if_neg z, if_neg z]
      · rw [if_pos (show (7 : Int32) ≤ nI 7 by decide), show nI (12 + 8 * s) + 7 = nI (12 + 8 * s) + nI 7 from rfl, ixB hs (by omega), lb_eq]
    · rw [if_neg (show ¬ (7 : Int32) ≤ nI i from nI_ge (b := 7) (by omega) (by omega)), show (7 : Int32) * nI f = nI (7 * f) from pk_mul 7 f, nI_add, ix_in (j := 7 * f + i) (nI_pos (by omega)) (nI_clamp (by omega)) (by omega), ixB hs (by omega), lb_eq, show nI i + 1 = nI (i + 1) from nI_add i 1, h3.a (show meA 138 = false from rfl)]
      refine ih (i + 1) _ (by omega) (by omega) (h3.uA _ _ (by rfl)) (fun j => ?_)
      rw [gA_one, h4]
      by_cases z : j = 12 + 8 * s + i
      · rw [if_pos z, if_pos (by omega)]; congr 1; omega
      · rw [if_neg z]
        by_cases z2 : 12 + 8 * s ≤ j ∧ j < 12 + 8 * s + i
        · rw [if_pos z2, if_pos (by omega)]
        · rw [if_neg z2, if_neg (by omega)]
theorem P2_wishFor {z : Int} (hs : s ≤ 1) (h : RR d ov c m) (z1 : -32767 ≤ z) (z2 : z ≤ 32767) (e51 : gI m 1251 133 = iz z) : P2 (bd (bd (f_X2_wishFor (iz z) (52 + s) c) fun v4 T5 => gd (v4 = 0 ∨ v4 = 1) <| some (v4, T5)) fun v17 T18 => f_X9_obeyFont_199 v17 T18) (if (gI m 1251 133) < 0 then (some ((), m)) else (if 16 < (gI m 1251 133) then (some ((), m)) else (ix (gI m 1251 133) 17 fun j12 => if (gA m 136 j12) = 0 then (some ((), m)) else (f_X12_fontField_l53 FU (nI (12 + 8 * s)) 0 m)))) (fun _ c' _ m' => OU d ov c m c' m') := by
  have e8 := ln_w hs
  have stay : P2 (some ((), c)) (some ((), m)) (fun _ c' _ m' => OU d ov c m c' m') := P2_ret (OU.refl h)
  have p0 : iz z < 0 ↔ z < 0 := iz_neg0 z1 z2
  have p16 : 16 < iz z ↔ 16 < z := by rw [show (16 : Int32) = iz 16 from rfl]; exact iz_lt (by omega) (by omega) (by omega) (by omega)
  have none : f_X2_has (iz z) c = some (0, c) → (bd (bd (f_X2_wishFor (iz z) (52 + s) c) fun v4 T5 => gd (v4 = 0 ∨ v4 = 1) <| some (v4, T5)) fun v17 T18 => f_X9_obeyFont_199 v17 T18) = some ((), c) := fun e => by
    unfold f_X2_wishFor
    rw [e, bd_eq, if_pos rfl, bd_eq, gd_eq (Or.inl rfl), bd_eq, c_199]
  rw [e51]
  by_cases q0 : z < 0
  · have e : f_X2_has (iz z) c = some (0, c) := by
      unfold f_X2_has f_X8_has
      rw [if_neg (show ¬ iz z = 16 from fun y => by
        have := (iz_inj (a := z) (b := 16) (by omega) (by omega) (by omega) (by omega)).mp y
        omega), if_pos (p0.mpr q0), bd_eq, if_pos rfl]
    rw [none e, if_pos (p0.mpr q0)]; exact stay
  rw [if_neg (fun y => q0 (p0.mp y))]
  by_cases q16 : 16 < z
  · have e : f_X2_has (iz z) c = some (0, c) := by
      unfold f_X2_has f_X8_has
      rw [if_neg (show ¬ iz z = 16 from fun y => by
        have := (iz_inj (a := z) (b := 16) (by omega) (by omega) (by omega) (by omega)).mp y
        omega), if_neg (fun y => q0 (p0.mp y)), if_pos (show (16 : Int32) ≤ iz z from (iz_le (a := 16) (by omega) (by omega) (by omega) (by omega)).mpr (by omega)), bd_eq, if_pos rfl]
    rw [none e, if_pos (p16.mpr q16)]; exact stay
  rw [if_neg (fun y => q16 (p16.mp y))]
  obtain ⟨f, rfl⟩ : ∃ f : Nat, z = (f : Int) := ⟨z.toNat, by omega⟩
  rw [← nI_iz] at none e51 ⊢
  rw [ix_in (j := f) (nI_pos (by omega)) (nI_clamp (by omega)) (by omega)]
  have hth : thC c f = decide (gA m 136 f = 1) := by
    unfold thC
    by_cases q : f = 16
    · rw [q, h.ft.rs]; rfl
    · obtain ⟨a, p, s1, s2, s3⟩ := h.ft.sh f (by omega)
      rw [s1, s3, show (f == 16) = false by simpa using q]
      cases a <;> cases p <;> rfl
  have h01 : gA m 136 f = 0 ∨ gA m 136 f = 1 := by
    by_cases q : f = 16
    · right; rw [q]; exact h.ft.rs
    · obtain ⟨a, p, s1, s2, s3⟩ := h.ft.sh f (by omega)
      rw [s1]; cases a
      · exact Or.inl rfl
      · exact Or.inr rfl
  rcases h01 with h0 | h1
  · rw [if_pos h0, none (by rw [c_has2 (by omega), hth, h0]; rfl)]; exact stay
  · rw [if_neg (by rw [h1]; decide)]
    have ec : (bd (bd (f_X2_wishFor (nI f) (52 + s) c) fun v4 T5 => gd (v4 = 0 ∨ v4 = 1) <| some (v4, T5)) fun v17 T18 => f_X9_obeyFont_199 v17 T18) = f_X9_obeyFont_199 1 (uA (vA c (52 + s) (va_cpy (gA c 30) (gA c (52 + s)) (7 * f) 0 7)) (52 + s) 7 (nI f)) := by
      unfold f_X2_wishFor
      rw [c_has2 (by omega), hth, h1, bd_eq, if_neg (show ¬ cI (decide ((1 : Int32) = 1)) = 0 by decide), e8, if_pos (show (8 : Int32) ≤ Int32.ofNat 8 by decide), show nI f * 7 = nI (7 * f) by rw [show nI f * 7 = nI (f * 7) from pk_mul f 7, Nat.mul_comm], show (0 : Int32) = nI 0 from rfl, show (7 : Int32) = nI 7 from rfl, cp_at (by omega) (by omega) (by omega) (by omega) (by omega), lb_eq, ix_in (j := 7) (by decide) rfl (by omega), lb_eq, bd_eq, gd_eq (Or.inr rfl), bd_eq]
    rw [ec]
    obtain ⟨T', t1, t2, t3⟩ := m_l53 hs (show f < 17 by omega) e51 FU 0 m (FU_gt (by omega)) (by omega) Fr.refl (fun j => by rw [if_neg (by omega)])
    have fc : Fr nF (fun a => a == 52 + s) c (uA (vA c (52 + s) (va_cpy (gA c 30) (gA c (52 + s)) (7 * f) 0 7)) (52 + s) 7 (nI f)) := (Fr.refl.vA _ (by simp)).uA _ _ (by simp)
    have gc : ∀ k, k < 8 → gA (uA (vA c (52 + s) (va_cpy (gA c 30) (gA c (52 + s)) (7 * f) 0 7)) (52 + s) 7 (nI f)) (52 + s) k = if k = 7 then nI f else gA c 30 (7 * f + k) := fun k hk => by
      rw [gA_one]
      by_cases q : k = 7
      · rw [if_pos q, if_pos q]
      · rw [if_neg q, if_neg q, gA_vA, if_pos rfl, pk_cpy_in (by omega) (by omega), Nat.sub_zero]
    have ep : EP c m _ T' := EP.wsh hs h.ev h.eb fc t1 (fun j hj => by rw [t2, if_neg (by omega), if_neg (by omega)]) (fun k hk => by
      rw [gc k hk, t2]
      by_cases q : k = 7
      · rw [if_pos q, q, wpi_7, if_neg (by omega), if_pos rfl]
      · have w7 := wpi_lt (k := k) (by omega)
        rw [if_neg q, if_pos (by omega), h.ft.nm f k (by omega) (by omega)]
        congr 1; omega) (fun k hk => by
      rw [t2, if_pos (by omega)]
      exact h.ft.nb _ (by omega)) (by
      rw [t2, if_neg (by omega), if_pos rfl, nI_toInt (by omega)]; omega)
    have ou := OU.env h ep
    obtain ⟨c2, m2, e1, e2, e3, _⟩ := two_pitch (h.env ep.fc ep.fm ep.v ep.b ep.e0 ep.e1)
    have t3' : f_X12_fontField_l53 FU (nI (12 + 8 * s)) 0 m = some ((), m2) := t3.trans e2
    unfold f_X9_obeyFont_199
    rw [if_neg (show ¬ (1 : Int32) = 0 by decide), bd_u, e1, t3']
    exact P2_ret (OU.pre ou.2.1 ou.2.2 e3)
end F1
