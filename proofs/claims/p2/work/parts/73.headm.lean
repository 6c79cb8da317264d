/-! The header, the reference's side. -/
theorem raw_eq {v : Int32} {f k : Nat} (hv : byt v) (h : v &&& 255 = nI f) (hf : f < 256) (hk : k < 128) : v = nI k ↔ f = k := by
  have hbk : byt (nI k) := by
    have : ∀ k, k < 128 → byt (nI k) := by unfold byt; decide +kernel
    exact this k hk
  rw [← byt_ext hv hbk, h, show (255 : Int32) = nI 255 from rfl, pk_andN (n := k) (by omega) 8 (by decide), nI_eq (by omega) (by omega), Nat.mod_eq_of_lt (by omega)]
theorem raw_raw {v w : Int32} {f g : Nat} (hv : byt v) (hw : byt w) (h : v &&& 255 = nI f) (h2 : w &&& 255 = nI g) (hf : f < 256) (hg : g < 256) : v = w ↔ f = g := by
  rw [← byt_ext hv hw, h, h2, nI_eq (by omega) (by omega)]
theorem m_wrong {k p : Int32} {m : Mm} : (bd (f_X12_wrong k p m) fun v1 T2 => gd (v1 = 0 ∨ v1 = 1) <| some (v1, T2)) = some (0, uI (uI m 1243 133 k) 1245 133 p) := rfl
theorem m_95 {m : Mm} {i sz : Nat} (h : gI m 1268 133 = nI sz) (hi : i ≤ sz) (hs : sz < 2 ^ 30) : f_X12_pictures_95 (nI i) m = some (0, uI (uI m 1243 133 2) 1245 133 (nI i)) := by
  unfold f_X12_pictures_95
  rw [m_wrong, m_wrong, h]
  split
  · rename_i q; rw [nI_leI (by omega) (by omega)] at q
    have : sz = i := by omega
    rw [this]
  · rfl
theorem m_200 {m : Mm} {i sz : Nat} (h : gI m 1268 133 = nI sz) (hi : i ≤ sz) (hs : sz < 2 ^ 30) : f_X12_pictures_200 (nI i) m = some (0, uI (uI m 1243 133 2) 1245 133 (nI i)) := by
  unfold f_X12_pictures_200
  rw [m_wrong, m_wrong, h]
  split
  · rename_i q; rw [nI_leI (by omega) (by omega)] at q
    have : sz = i := by omega
    rw [this]
  · rfl
/-- what follows the header in the reference -/
noncomputable def mRest (m : Mm) : Option (Int32 × Mm) := bd (f_X12_picture 4 4 m) fun v1 T2 => lb (uI T2 1271 133 0) fun T3 => f_X12_pictures_l259 FU v1 T3
theorem m_header {m : Mm} {st sz : Nat} {F : Nat → Nat} (h : PicM m st sz F) (hb : ∀ j, byt (gA m 152 j)) : ((∀ j, j < 8 → hOk F sz j) → f_X12_pictures_l29 FU 0 m = mRest (uI m 1269 133 (cI (!decide (F 0 = 73))))) ∧ ∀ p, p < 8 → (∀ j, j < p → hOk F sz j) → ¬ hOk F sz p → p ≤ sz → ∃ m', f_X12_pictures_l29 FU 0 m = some (0, uI (uI m' 1243 133 2) 1245 133 (nI p)) ∧ (m' = m ∨ ∃ v, m' = uI m 1269 133 v) := by
  obtain ⟨h1, h2, h3, h4, h5⟩ := h
  have r0 : ∀ i k, i < sz → k < 128 → (gA m 152 (st + i) = nI k ↔ F i = k) := fun i k hi hk => raw_eq (hb _) (h4 i hi) (h5 i) hk
  have r1 : ∀ i j, i < sz → j < sz → (gA m 152 (st + i) = gA m 152 (st + j) ↔ F i = F j) := fun i j hi hj => raw_raw (hb _) (hb _) (h4 i hi) (h4 j hj) (h5 i) (h5 j)
  have e0 : f_X12_pictures_l29 FU 0 m = f_X12_pictures_b29 (f_X12_pictures_l29 3999999999) (nI 0) m := rfl
  have e1 : f_X12_pictures_l29 3999999999 (nI 1) m = f_X12_pictures_b29 (f_X12_pictures_l29 3999999998) (nI 1) m := rfl
  have e2 : f_X12_pictures_l29 3999999998 (nI 2) m = f_X12_pictures_b29 (f_X12_pictures_l29 3999999997) (nI 2) m := rfl
  -- the first byte
  have s0 : (hOk F sz 0 → f_X12_pictures_l29 FU 0 m = f_X12_pictures_l29 3999999999 (nI 1) m) ∧ (¬ hOk F sz 0 → f_X12_pictures_l29 FU 0 m = some (0, uI (uI m 1243 133 2) 1245 133 (nI 0))) := by
    generalize hX : f_X12_pictures_l29 FU 0 m = X
    rw [e0] at hX; unfold f_X12_pictures_b29 at hX
    rw [if_neg (by decide), h1, h2] at hX
    unfold f_X12_pictures_57 at hX
    unfold f_X12_pictures_75 at hX
    rcases Nat.lt_or_ge 0 sz with q | q
    · rw [if_neg (nI_ge q (by omega)), nI_add, ix_in (j := st + 0) (nI_pos (by omega)) (nI_clamp (by omega)) (by omega), if_pos nI_0] at hX
      by_cases q1 : F 0 = 73
      · rw [if_pos (show gA m 152 (st + 0) = (73 : Int32) from (r0 0 73 q (by omega)).mpr q1)] at hX
        unfold f_X12_pictures_89 at hX
        rw [if_pos rfl] at hX
        exact ⟨fun _ => hX.symm, fun z => absurd (by unfold hOk; simp [q, q1]) z⟩
      · rw [if_neg (show ¬ gA m 152 (st + 0) = (73 : Int32) from fun z => q1 ((r0 0 73 q (by omega)).mp z))] at hX
        by_cases q2 : F 0 = 77
        · rw [if_pos (show gA m 152 (st + 0) = (77 : Int32) from (r0 0 77 q (by omega)).mpr q2)] at hX
          unfold f_X12_pictures_89 at hX
          rw [if_pos rfl] at hX
          exact ⟨fun _ => hX.symm, fun z => absurd (by unfold hOk; simp [q, q2]) z⟩
        · rw [if_neg (show ¬ gA m 152 (st + 0) = (77 : Int32) from fun z => q2 ((r0 0 77 q (by omega)).mp z)), m_95 h2 (by omega) (by omega)] at hX
          exact ⟨fun z => absurd (z.2.1 rfl) (by simp [q1, q2]), fun _ => hX.symm⟩
    · have : sz = 0 := by omega
      subst this
      rw [if_pos (by decide), if_pos nI_0, if_neg (by decide), if_neg (by decide), m_95 h2 (by omega) (by omega)] at hX
      exact ⟨fun z => absurd z.1 (by omega), fun _ => hX.symm⟩
  have s1 : hOk F sz 0 → (hOk F sz 1 → f_X12_pictures_l29 3999999999 (nI 1) m = f_X12_pictures_l29 3999999998 (nI 2) m) ∧ (1 ≤ sz → ¬ hOk F sz 1 → f_X12_pictures_l29 3999999999 (nI 1) m = some (0, uI (uI m 1243 133 2) 1245 133 (nI 1))) := by
    intro k0
    have hs0 := k0.1
    have hF0 := k0.2.1 rfl
    generalize hX : f_X12_pictures_l29 3999999999 (nI 1) m = X
    rw [e1] at hX; unfold f_X12_pictures_b29 at hX
    rw [if_neg (by decide), h1, h2] at hX
    unfold f_X12_pictures_57 at hX
    rcases Nat.lt_or_ge 1 sz with q | q
    · rw [if_neg (nI_ge q (by omega)), nI_add, ix_in (j := st + 1) (nI_pos (by omega)) (nI_clamp (by omega)) (by omega), if_neg (by decide : ¬ nI 1 = 0), h1, ix_in (j := st) (nI_pos (by omega)) (nI_clamp (by omega)) (by omega)] at hX
      unfold f_X12_pictures_75 at hX
      have e89 : f_X12_pictures_89 (f_X12_pictures_l29 3999999998) (nI 1) (gA m 152 (st + 1)) (gA m 152 st) m = if F 1 = F 0 then f_X12_pictures_l29 3999999998 (nI 2) m else some (0, uI (uI m 1243 133 2) 1245 133 (nI 1)) := by
        unfold f_X12_pictures_89
        rw [m_95 h2 (by omega) (by omega)]
        have : gA m 152 (st + 1) = gA m 152 st ↔ F 1 = F 0 := r1 1 0 q hs0
        by_cases z : F 1 = F 0
        · rw [if_pos (this.mpr z), if_pos z]; rfl
        · rw [if_neg (fun y => z (this.mp y)), if_neg z]
      rw [e89, m_95 h2 (by omega) (by omega)] at hX
      by_cases z : F 1 = F 0
      · rw [if_pos z] at hX
        refine ⟨fun _ => ?_, fun _ y => absurd (by unfold hOk; simp [q, z]) y⟩
        rcases hF0 with a | a
        · rw [if_pos (show gA m 152 (st + 1) = (73 : Int32) from (r0 1 73 q (by omega)).mpr (z.trans a))] at hX; exact hX.symm
        · rw [if_pos (show gA m 152 (st + 1) = (77 : Int32) from (r0 1 77 q (by omega)).mpr (z.trans a))] at hX
          split at hX <;> exact hX.symm
      · rw [if_neg z] at hX
        refine ⟨fun y => absurd (y.2.2.1 rfl) z, fun _ _ => ?_⟩
        split at hX
        · exact hX.symm
        · split at hX <;> exact hX.symm
    · rw [if_pos (nI_le q (by omega)), if_neg (by decide : ¬ nI 1 = 0), h1, ix_in (j := st) (nI_pos (by omega)) (nI_clamp (by omega)) (by omega)] at hX
      unfold f_X12_pictures_75 at hX
      rw [if_neg (by decide), if_neg (by decide)] at hX
      exact ⟨fun z => absurd z.1 (by omega), fun y _ => by rw [← hX, m_95 h2 y (by omega)]⟩
  have hm1 : hOk F sz 0 → f_X12_pictures_l29 3999999998 (nI 2) m = f_X12_pictures_l148 FU (nI 2) (uI m 1269 133 (cI (!decide (F 0 = 73)))) := by
    intro k0
    rw [e2]; unfold f_X12_pictures_b29
    rw [if_pos (by decide), h1, ix_in (j := st) (nI_pos (by omega)) (nI_clamp (by omega)) (by have := k0.1; omega)]
    have := r0 0 77 k0.1 (by omega)
    rcases k0.2.1 rfl with a | a
    · rw [if_neg (show ¬ gA m 152 st = (77 : Int32) from fun z => by have := this.mp z; omega), lb_eq]; simp [a]; rfl
    · rw [if_pos (show gA m 152 st = (77 : Int32) from this.mpr a), lb_eq]; simp [a]; rfl
  generalize hm : uI m 1269 133 (cI (!decide (F 0 = 73))) = m1 at hm1
  have g68 : gI m1 1268 133 = nI sz := by rw [← hm, gI_uI, if_neg (by decide)]; exact h2
  have g67 : gI m1 1267 133 = nI st := by rw [← hm, gI_uI, if_neg (by decide)]; exact h1
  have g69 : gI m1 1269 133 = cI (!decide (F 0 = 73)) := by rw [← hm, gI_uI, if_pos ⟨rfl, rfl⟩]
  have g152 : gA m1 152 = gA m 152 := by rw [← hm]; rfl
  have s23 : ∀ (i want : Nat) (n : Nat), i < 4 → want < 128 → (hOk F sz i ↔ i < sz ∧ F i = want) → (f_X12_pictures_b148 (f_X12_pictures_l148 n) (nI i) m1 = f_X12_pictures_176 (f_X12_pictures_l148 n) (nI i) (nI want) m1) → (hOk F sz i → f_X12_pictures_l148 (n + 1) (nI i) m1 = f_X12_pictures_l148 n (nI (i + 1)) m1) ∧ (i ≤ sz → ¬ hOk F sz i → f_X12_pictures_l148 (n + 1) (nI i) m1 = some (0, uI (uI m1 1243 133 2) 1245 133 (nI i))) := by
    intro i want n hi hw he hu
    have e : f_X12_pictures_l148 (n + 1) (nI i) m1 = f_X12_pictures_b148 (f_X12_pictures_l148 n) (nI i) m1 := rfl
    rw [e, hu]
    unfold f_X12_pictures_176
    rw [g68, g67, nI_1]
    rcases Nat.lt_or_ge i sz with q | q
    · rw [if_neg (nI_ge q (by omega)), nI_add, ix_in (j := st + i) (nI_pos (by omega)) (nI_clamp (by omega)) (by omega), g152, m_200 g68 (by omega) (by omega)]
      have := r0 i want q hw
      by_cases z : F i = want
      · rw [if_pos (this.mpr z)]
        exact ⟨fun _ => rfl, fun _ y => absurd (he.mpr ⟨q, z⟩) y⟩
      · rw [if_neg (fun y => z (this.mp y))]
        exact ⟨fun y => absurd (he.mp y).2 z, fun _ _ => rfl⟩
    · rw [if_pos (nI_le q (by omega))]
      exact ⟨fun y => absurd y.1 (by omega), fun y _ => m_200 g68 y (by omega)⟩
  have s2 := s23 2 (if F 0 = 73 then 42 else 0) 3999999999 (by omega) (by split <;> omega) (by unfold hOk; simp) (by
    unfold f_X12_pictures_b148
    rw [if_neg (by decide), if_pos (by decide)]
    unfold f_X12_pictures_163
    rw [g69]
    by_cases q : F 0 = 73
    · rw [if_neg (by simp [q]; decide), if_pos q]; rfl
    · rw [if_pos (by simp [q]; rfl), if_neg q]; rfl)
  have s3 := s23 3 (if F 0 = 73 then 0 else 42) 3999999998 (by omega) (by split <;> omega) (by unfold hOk; simp) (by
    unfold f_X12_pictures_b148
    rw [if_neg (by decide), if_neg (by decide)]
    unfold f_X12_pictures_163
    rw [g69]
    by_cases q : F 0 = 73
    · rw [if_pos (by simp [q]; rfl), if_pos q]; rfl
    · rw [if_neg (by simp [q]; decide), if_neg q]; rfl)
  have s4 : f_X12_pictures_l148 3999999998 (nI 4) m1 = if 8 ≤ sz then mRest m1 else some (0, uI (uI m1 1243 133 2) 1245 133 (nI sz)) := by
    have e : f_X12_pictures_l148 3999999998 (nI 4) m1 = f_X12_pictures_b148 (f_X12_pictures_l148 3999999997) (nI 4) m1 := rfl
    rw [e]; unfold f_X12_pictures_b148
    rw [if_pos (by decide), g68, m_wrong]
    rcases Nat.lt_or_ge sz 8 with q | q
    · rw [if_neg (show ¬ (8 : Int32) ≤ nI sz from nI_ge (b := 8) q (by omega)), if_neg (by omega)]
    · rw [if_pos (show (8 : Int32) ≤ nI sz from nI_le (a := 8) q (by omega)), if_pos q]; rfl
  have l2 : f_X12_pictures_l148 FU (nI 2) m1 = f_X12_pictures_l148 (3999999999 + 1) (nI 2) m1 := rfl
  have l3 : f_X12_pictures_l148 3999999999 (nI (2 + 1)) m1 = f_X12_pictures_l148 (3999999998 + 1) (nI 3) m1 := rfl
  refine ⟨fun hall => ?_, fun p hp hj hno hps => ?_⟩
  · rw [s0.1 (hall 0 (by omega)), (s1 (hall 0 (by omega))).1 (hall 1 (by omega)), hm1 (hall 0 (by omega)), l2, s2.1 (hall 2 (by omega)), l3, s3.1 (hall 3 (by omega))]
    rw [show f_X12_pictures_l148 3999999998 (nI (3 + 1)) m1 = f_X12_pictures_l148 3999999998 (nI 4) m1 from rfl, s4, if_pos (by have := (hall 7 (by omega)).1; omega)]
  · have h8 : p = 0 ∨ p = 1 ∨ p = 2 ∨ p = 3 ∨ 4 ≤ p := by omega
    rcases h8 with rfl | rfl | rfl | rfl | q4
    · exact ⟨m, s0.2 hno, Or.inl rfl⟩
    · exact ⟨m, by rw [s0.1 (hj 0 (by omega)), (s1 (hj 0 (by omega))).2 hps hno], Or.inl rfl⟩
    · exact ⟨m1, by rw [s0.1 (hj 0 (by omega)), (s1 (hj 0 (by omega))).1 (hj 1 (by omega)), hm1 (hj 0 (by omega)), l2, s2.2 hps hno], Or.inr ⟨_, hm.symm⟩⟩
    · exact ⟨m1, by rw [s0.1 (hj 0 (by omega)), (s1 (hj 0 (by omega))).1 (hj 1 (by omega)), hm1 (hj 0 (by omega)), l2, s2.1 (hj 2 (by omega)), l3, s3.2 hps hno], Or.inr ⟨_, hm.symm⟩⟩
    · have hsz : p = sz := by
        have : ¬ p < sz := fun z => hno ⟨z, by omega, by omega, by omega, by omega⟩
        omega
      subst hsz
      refine ⟨m1, ?_, Or.inr ⟨_, hm.symm⟩⟩
      rw [s0.1 (hj 0 (by omega)), (s1 (hj 0 (by omega))).1 (hj 1 (by omega)), hm1 (hj 0 (by omega)), l2, s2.1 (hj 2 (by omega)), l3, s3.1 (hj 3 (by omega))]
      rw [show f_X12_pictures_l148 3999999998 (nI (3 + 1)) m1 = f_X12_pictures_l148 3999999998 (nI 4) m1 from rfl, s4, if_neg (by omega)]
