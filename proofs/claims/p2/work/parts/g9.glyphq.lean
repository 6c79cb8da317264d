/-! A glyph is sent whole, on both sides. -/
section G9
variable {c c' c0 c1 c2 c3 m m' m0 m1 m2 m3 T : Mm} {d w b A o M o' n p r q a i s f k u h rb t v : Nat} {F : Nat → Nat} {ov ov' ng sg : Bool} {g L : Nat → Int32} {Gc Gm : Gty} {PF QF : Nat → Nat → Bool} {PA QA : Nat → Bool}
theorem pk_dN {x : Nat} (hx : x < 1000) : (nI x + 7) / 8 = nI ((x + 7) / 8) := by
  rw [show nI x + 7 = nI (x + 7) from nI_add x 7]
  exact pk_div (d := 8) (by omega) (by decide) (by decide)
/-- the class's slot and what follows it -/
noncomputable def gTail (d w h adv rb : Nat) (v10 : Int32) (T11 : Mm) : Option (Unit × Mm) := if 0 ≤ v10 then (bd (f_X5_dataByte (125 + d) 0 T11) fun v12 T13 => bd (f_X5_dataByte (125 + d) 1 T13) fun v14 T15 => bd (f_X2_setHead v10 ((v12).toInt8.toInt32) ((v14).toInt8.toInt32) (nI w) (nI h) (nI adv) T15) fun _ T16 => f_X2_sendGlyph_l133 FU (125 + d) (nI w) (nI h) (nI rb) v10 0 T16) else (some ((), T11))
theorem P2_glyphIn {adv : Nat} (hf : f < 16) (hk : k < 256) (hr : RR d ov c m) (h4 : DT c m d A o M o' n F p s) (e136 : gA m 136 f = 1) (w1 : 1 ≤ w) (w2 : w ≤ 32) (h1 : 1 ≤ h) (h2 : h ≤ 32) (hrb : rb = (w + 7) / 8) (hadv : adv ≤ 7200) (hin : 6 + h * rb ≤ s) : P2 (bd (f_X2_slotFor (nI f) (nI k) c) fun v10 T11 => gTail d w h adv rb v10 T11) (if (gA m 139 (256 * f + k)) = (-1) then (if (gI m 1209 133) = 400 then (some ((), m)) else (f_X12_glyphData_147 (nI w) (nI h) (nI adv) (nI rb) (nI (256 * f + k)) m)) else (f_X12_glyphData_147 (nI w) (nI h) (nI adv) (nI rb) (nI (256 * f + k)) m)) (fun _ c' _ m' => OU d ov c m c' m') := by
  have gt := hr.ft.gt
  obtain ⟨g1, g2⟩ := gt.gl (256 * f + k) (by omega)
  have ixc : ∀ {α : Type} (K : Nat → Option α), ix (nI (256 * f + k)) 4352 K = K (256 * f + k) := fun K => ix_in (j := 256 * f + k) (nI_pos (by omega)) (nI_clamp (by omega)) (by omega)
  have ixm : ∀ {α : Type} (K : Nat → Option α), ix (nI (256 * f + k)) 4096 K = K (256 * f + k) := fun K => ix_in (j := 256 * f + k) (nI_pos (by omega)) (nI_clamp (by omega)) (by omega)
  unfold f_X2_slotFor f_X12_glyphData_147
  rw [show nI f * 256 = nI (256 * f) by rw [show nI f * 256 = nI (f * 256) from pk_mul f 256, Nat.mul_comm], nI_add, lb_eq, if_neg (nI_pos (by omega)), if_pos (show nI (256 * f + k) < 4352 from nI_lt (b := 4352) (by omega) (by omega)), ixc, ixc, ixm]
  rcases g2 with e | ⟨s0, s1, s2, s3⟩
  · have e31 : gA c 31 (256 * f + k) = 0 := by rw [g1, e]; rfl
    rw [e31, if_pos (by decide), if_pos e, if_pos e]
    rcases two_slot (by omega) gt e with ⟨x1, x2⟩ | ⟨x1, s0, c1, m1, y1, y2, y3, y4, y5, y6, y7, y8⟩
    · rw [x2, bd_eq, if_pos x1]
      unfold gTail
      rw [if_neg (by decide)]
      exact P2_ret (OU.refl hr)
    · rw [y2, bd_eq, if_neg x1, y3]
      unfold gTail
      rw [if_pos (show 0 ≤ nI s0 from nI_le (a := 0) (by omega) (by omega))]
      refine two_glyph hr h4 y4 y5 y6 y8 (fun f' k' a1 a2 a3 => ?_) y1 (by omega) (by rw [y7, wr_s]) w1 w2 h1 h2 hrb hadv hin
      have ne : f' ≠ f := fun z => by rw [z, e136] at a3; exact absurd a3 (by decide)
      rw [y7, wr_o _ (by omega)]
      exact hr.ft.nt f' k' a1 a2 a3
  · have e31 : gA c 31 (256 * f + k) = nI (s0 + 1) := by rw [g1, s2]; exact nI_add _ 1
    rw [e31, if_neg (show ¬ nI (s0 + 1) ≤ 0 from nI_ge (a := 0) (by omega) (by omega)), s2, if_neg (nIm1 s1), if_neg (nIm1 s1), bd_eq, show nI (s0 + 1) - 1 = nI s0 by rw [show nI (s0 + 1) - 1 = nI (s0 + 1 - 1) from pk_sub (b := 1) (by omega)]; rfl]
    unfold gTail
    rw [if_pos (show 0 ≤ nI s0 from nI_le (a := 0) (by omega) (by omega))]
    exact two_glyph hr h4 gt Fr.refl Fr.refl (fun _ _ => rfl) hr.ft.nt s1 (by omega) s2 w1 w2 h1 h2 hrb hadv hin
theorem P2_glyphData (hf : f < 16) (hk : k < 256) (hr : RR d ov c m) (h4 : DT c m d A o M o' n F p s) (e142 : gA m 134 142 = nI f) (e143 : gA m 134 143 = nI k) : P2 (f_X2_sendGlyph (nI f) (nI k) (125 + d) c) (f_X12_glyphData (nI s) m) (fun _ c' _ m' => OU d ov c m c' m') := by
  have hd := hr.d3
  have n1 := h4.1.n1
  have hps := h4.2.2.2.1
  have stay : P2 (some ((), c)) (some ((), m)) (fun _ c' _ m' => OU d ov c m c' m') := P2_ret (OU.refl hr)
  obtain ⟨a, b, z1, z2, z3⟩ := hr.ft.sh f hf
  have cd2 := c_data h4 (i := 2) (by omega)
  have cd3 := c_data h4 (i := 3) (by omega)
  have ct4 := c_two h4 (i := 4) (by omega)
  have chas : f_X8_has 28 (nI f) c = some (cI (!decide (gA c (28 + 1) f = 0)), c) := sp_has hf
  unfold f_X2_sendGlyph f_X12_glyphData
  rw [show (2 : Int32) = nI 2 from rfl, cd2, bd_eq, show (3 : Int32) = nI 3 from rfl, cd3, bd_eq, show (4 : Int32) = nI 4 from rfl, ct4, bd_eq, lb_eq, e142, lb_eq, ix_in (j := f) (nI_pos (by omega)) (nI_clamp (by omega)) (by omega), z1, h4.2.2.1]
  -- a number there or not
  obtain ⟨w, hw, hw2⟩ : ∃ w, (if 2 < s then nI (F (p + 2)) else 0) = nI w ∧ w < 256 := by
    by_cases q : 2 < s
    · exact ⟨F (p + 2), if_pos q, h4.1.g _⟩
    · exact ⟨0, if_neg q, by omega⟩
  obtain ⟨h, hh, hh2⟩ : ∃ h, (if 3 < s then nI (F (p + 3)) else 0) = nI h ∧ h < 256 := by
    by_cases q : 3 < s
    · exact ⟨F (p + 3), if_pos q, h4.1.g _⟩
    · exact ⟨0, if_neg q, by omega⟩
  have hm : h * ((w + 7) / 8) ≤ 256 * 33 := Nat.mul_le_mul (by omega) (by omega)
  have hm' : ((w + 7) / 8) * h ≤ 33 * 256 := Nat.mul_le_mul (by omega) (by omega)
  rw [hw, hh, pk_dN (by omega), pk_mul, show (6 : Int32) + nI (h * ((w + 7) / 8)) = nI (6 + h * ((w + 7) / 8)) from nI_add 6 _, chas, bd_eq]
  have allno : ∀ (x : Int32) (Q : Option (Unit × Mm)), Q = some ((), c) → (if nI w < 1 then (some ((), c)) else (if 32 < nI w then (some ((), c)) else (if nI h < 1 then (some ((), c)) else (if 32 < nI h then (some ((), c)) else (if 7200 < x then (some ((), c)) else (if nI s < nI (6 + h * ((w + 7) / 8)) then (some ((), c)) else Q)))))) = some ((), c) := fun x Q hQ => by
    rw [hQ]; simp only [ite_self]
  cases a
  · -- no such font
    rw [if_pos (show cI false = 0 from rfl), show gA c (28 + 1) f = sv false b from z3]
    rw [allno _ _ (by cases b <;> rfl)]
    exact stay
  rw [if_neg (show ¬ cI true = 0 by decide), show gA c (28 + 1) f = sv true b from z3, if_neg (show ¬ cI (!decide (sv true b = 0)) = 0 by cases b <;> decide)]
  by_cases q6 : s < 6
  · rw [if_pos (show nI s < nI (6 + h * ((w + 7) / 8)) from nI_lt (by omega) (by omega)), if_neg (show ¬ (6 : Int32) ≤ nI s from nI_ge (b := 6) q6 (by omega))]
    simp only [ite_self]
    exact stay
  rw [if_pos (show 2 < s by omega)] at hw
  rw [if_pos (show 3 < s by omega)] at hh
  have hw' : F (p + 2) = w := (nI_eq (by have := h4.1.g (p + 2); omega) (by omega)).mp hw
  have hh' : F (p + 3) = h := (nI_eq (by have := h4.1.g (p + 3); omega) (by omega)).mp hh
  have g4 := h4.1.g (p + 4)
  have g5 := h4.1.g (p + (4 + 1))
  have md2 := m_data1 h4 hd (i := 2) (by omega)
  have md3 := m_data1 h4 hd (i := 3) (by omega)
  have md4 := m_data1 h4 hd (i := 4) (by omega)
  have md5 := m_data1 h4 hd (i := 4 + 1) (by omega)
  rw [hw'] at md2
  rw [hh'] at md3
  rw [if_pos (show (6 : Int32) ≤ nI s from nI_le (a := 6) (by omega) (by omega)), md2, bd_eq, md3, bd_eq, md4, bd_eq, show (5 : Int32) = nI (4 + 1) from rfl, md5, bd_eq, show nI (F (p + 4)) * 256 = nI (F (p + 4) * 256) from pk_mul _ 256, nI_add, lb_eq, pk_dN (by omega), lb_eq, pk_mul, show (6 : Int32) + nI (((w + 7) / 8) * h) = nI (6 + ((w + 7) / 8) * h) from nI_add 6 _, Nat.mul_comm ((w + 7) / 8) h, show (256 : Int32) * nI f = nI (256 * f) from pk_mul 256 f, e143, nI_add, lb_eq, ix_in (j := 256 * f + k) (nI_pos (by omega)) (nI_clamp (by omega)) (by omega), if_pos (show 4 + 1 < s by omega)]
  revert g4 g5
  generalize F (p + 4) = x
  generalize F (p + (4 + 1)) = y
  intro g4 g5
  by_cases a1 : nI w < 1
  · rw [if_pos a1, if_pos a1]; exact stay
  rw [if_neg a1, if_neg a1]
  by_cases a2 : 32 < nI w
  · rw [if_pos a2, if_pos a2]; exact stay
  rw [if_neg a2, if_neg a2]
  by_cases a3 : nI h < 1
  · rw [if_pos a3, if_pos a3]; exact stay
  rw [if_neg a3, if_neg a3]
  by_cases a4 : 32 < nI h
  · rw [if_pos a4, if_pos a4]; exact stay
  rw [if_neg a4, if_neg a4]
  by_cases a5 : 7200 < nI (x * 256 + y)
  · rw [if_pos a5, if_pos a5]; exact stay
  rw [if_neg a5, if_neg a5]
  by_cases a6 : s < 6 + h * ((w + 7) / 8)
  · rw [if_pos (nI_lt a6 (by omega)), if_neg (nI_ge a6 (by omega))]; exact stay
  rw [if_neg (nI_nlt (by omega) (by omega)), if_pos (nI_le (by omega) (by omega))]
  have l : ∀ (u B : Nat), u < 100000 → B < 100000 → (nI u < nI B ↔ u < B) := fun u B h1 h2 => nI_ltI (by omega) (by omega)
  have b1 : ¬ w < 1 := fun z => a1 ((l w 1 (by omega) (by omega)).mpr z)
  have b2 : ¬ 32 < w := fun z => a2 ((l 32 w (by omega) (by omega)).mpr z)
  have b3 : ¬ h < 1 := fun z => a3 ((l h 1 (by omega) (by omega)).mpr z)
  have b4 : ¬ 32 < h := fun z => a4 ((l 32 h (by omega) (by omega)).mpr z)
  have b5 : ¬ 7200 < x * 256 + y := fun z => a5 ((l 7200 _ (by omega) (by omega)).mpr z)
  exact P2_glyphIn (adv := x * 256 + y) hf hk hr h4 (by rw [z1]; rfl) (by omega) (by omega) (by omega) (by omega) rfl (by omega) (by omega)
end G9
