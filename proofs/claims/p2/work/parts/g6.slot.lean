/-! A place for a glyph, on both sides. -/
section G6
variable {c c' c0 c1 c2 c3 m m' m0 m1 m2 m3 T : Mm} {d w b A o M o' n p r q a i s f k u h rb t : Nat} {F : Nat → Nat} {ov ov' ng sg : Bool} {g L : Nat → Int32} {Gc Gm : Gty} {PF QF : Nat → Nat → Bool} {PA QA : Nat → Bool}
theorem ex_min {P : Nat → Prop} : ∀ n, (∃ s, s < n ∧ P s) → ∃ s, s < n ∧ P s ∧ ∀ j, j < s → ¬ P j := by
  intro n
  induction n with
  | zero => rintro ⟨s, h, _⟩; omega
  | succ n ih =>
    rintro ⟨s, h1, h2⟩
    by_cases q : ∃ s, s < n ∧ P s
    · obtain ⟨s, a, b, c⟩ := ih q
      exact ⟨s, by omega, b, c⟩
    · exact ⟨s, h1, h2, fun j hj hP => q ⟨j, by omega, hP⟩⟩
theorem cnt_all {P : Nat → Bool} : ∀ n, (∀ k, k < n → P k = true) → cnt P n = n := by
  intro n
  induction n with
  | zero => intro _; rfl
  | succ n ih =>
    intro h
    show cnt P n + (if P n = true then 1 else 0) = n + 1
    rw [ih (fun k hk => h k (by omega)), if_pos (h n (by omega))]
theorem cnt_lt {P : Nat → Bool} {s : Nat} (hs : P s = false) : ∀ n, s < n → cnt P n < n := by
  intro n
  induction n with
  | zero => intro h; omega
  | succ n ih =>
    intro h
    show cnt P n + (if P n = true then 1 else 0) < n + 1
    by_cases e : n = s
    · subst e
      have := cnt_le (p := P) n
      rw [hs, if_neg (by decide)]; omega
    · have := ih (by omega)
      split <;> omega
theorem c_l44 {at' : Nat} (ha : at' < 4352) : ∀ (N i : Nat), 400 - i < N → i ≤ 400 → (∀ j, i ≤ j → j < 400 → ¬ gA c 32 j = 0) → f_X2_slotFor_l44 N (nI at') (nI i) c = some (-1, c) := by
  intro N
  induction N with
  | zero => intro i h; omega
  | succ N ih =>
    intro i h1 h2 h3
    show f_X2_slotFor_b44 (f_X2_slotFor_l44 N) (nI at') (nI i) c = _
    unfold f_X2_slotFor_b44
    by_cases q : i = 400
    · rw [if_pos (show (400 : Int32) ≤ nI i from nI_le (a := 400) (by omega) (by omega))]
    · rw [if_neg (show ¬ (400 : Int32) ≤ nI i from nI_ge (b := 400) (by omega) (by omega)), ix_in (j := i) (nI_pos (by omega)) (nI_clamp (by omega)) (by omega), if_neg (h3 i (by omega) (by omega)), show nI i + 1 = nI (i + 1) from nI_add i 1]
      exact ih (i + 1) (by omega) (by omega) (fun j a b => h3 j (by omega) b)
theorem c_l44f {at' : Nat} (ha : at' < 4352) (hs : s < 400) (h0 : gA c 32 s = 0) (hm : ∀ j, j < s → ¬ gA c 32 j = 0) : ∀ (N i : Nat), s - i < N → i ≤ s → f_X2_slotFor_l44 N (nI at') (nI i) c = some (nI s, uA (uI (uA c 32 s 1) 206 27 (gI c 206 27 + 1)) 31 at' (nI s + 1)) := by
  intro N
  induction N with
  | zero => intro i h; omega
  | succ N ih =>
    intro i h1 h2
    show f_X2_slotFor_b44 (f_X2_slotFor_l44 N) (nI at') (nI i) c = _
    unfold f_X2_slotFor_b44
    rw [if_neg (show ¬ (400 : Int32) ≤ nI i from nI_ge (b := 400) (by omega) (by omega)), ix_in (j := i) (nI_pos (by omega)) (nI_clamp (by omega)) (by omega)]
    by_cases q : i = s
    · subst q
      rw [if_pos h0, ix_in (j := i) (nI_pos (by omega)) (nI_clamp (by omega)) (by omega), lb_eq, lb_eq, ix_in (j := at') (nI_pos (by omega)) (nI_clamp (by omega)) (by omega), lb_eq]
      rfl
    · rw [if_neg (hm i (by omega)), show nI i + 1 = nI (i + 1) from nI_add i 1]
      exact ih (i + 1) (by omega) (by omega)
theorem m_l161f {at' : Nat} {a3 a4 a5 a6 : Int32} (ha : at' < 4096) (hs : s < 400) (h0 : gA m 140 s = 0) (hm : ∀ j, j < s → ¬ gA m 140 j = 0) : ∀ (N i : Nat), s - i < N → i ≤ s → f_X12_glyphData_l161 N a3 a4 a5 a6 (nI at') (nI i) m = f_X12_glyphData_204 a3 a4 a5 a6 (nI at') (uI (uA (uA m 140 s 1) 139 at' (nI s)) 1209 133 (gI m 1209 133 + 1)) := by
  intro N
  induction N with
  | zero => intro i h; omega
  | succ N ih =>
    intro i h1 h2
    show f_X12_glyphData_b161 (f_X12_glyphData_l161 N) a3 a4 a5 a6 (nI at') (nI i) m = _
    unfold f_X12_glyphData_b161
    rw [ix_in (j := i) (nI_pos (by omega)) (nI_clamp (by omega)) (by omega)]
    by_cases q : i = s
    · subst q
      rw [if_pos h0, ix_in (j := i) (nI_pos (by omega)) (nI_clamp (by omega)) (by omega), lb_eq, ix_in (j := at') (nI_pos (by omega)) (nI_clamp (by omega)) (by omega), lb_eq, lb_eq]
      rfl
    · rw [if_neg (hm i (by omega)), show nI i + 1 = nI (i + 1) from nI_add i 1]
      exact ih (i + 1) (by omega) (by omega)
/-- no place is free, or the first that is free is taken -/
theorem two_slot {at' : Nat} (ha : at' < 4096) (hg : GT c m) (e : gA m 139 at' = -1) : (gI m 1209 133 = 400 ∧ f_X2_slotFor_l44 FU (nI at') 0 c = some (-1, c)) ∨ (¬ gI m 1209 133 = 400 ∧ ∃ s c' m', s < 400 ∧ f_X2_slotFor_l44 FU (nI at') 0 c = some (nI s, c') ∧ (∀ a3 a4 a5 a6, f_X12_glyphData_l161 FU a3 a4 a5 a6 (nI at') 0 m = f_X12_glyphData_204 a3 a4 a5 a6 (nI at') m') ∧ GT c' m' ∧ Fr cGF cGA c c' ∧ Fr mGF mGA m m' ∧ gA m' 139 = wr (gA m 139) at' (nI s) ∧ ∀ j, 4096 ≤ j → gA c' 31 j = gA c 31 j) := by
  by_cases q : ∃ s, s < 400 ∧ gA m 140 s = 0
  · right
    obtain ⟨s, s1, s2, s3⟩ := ex_min 400 q
    have tk : ∀ j, j < 400 → (gA m 140 j = 0 ↔ gA c 32 j = 0) := fun j hj => by
      obtain ⟨b, b1, b2⟩ := hg.tk j hj
      rw [b1, b2]
    have hlt := cnt_lt (P := fun s => decide (gA m 140 s = 1)) (s := s) (by rw [s2]; rfl) 400 s1
    refine ⟨fun z => ?_, s, _, _, s1, c_l44f (by omega) s1 ((tk s s1).mp s2) (fun j hj z => s3 j hj ((tk j (by omega)).mpr z)) FU 0 (FU_gt (by omega)) (by omega), fun a3 a4 a5 a6 => m_l161f ha s1 s2 s3 FU 0 (FU_gt (by omega)) (by omega), ?_, (((Fr.refl.uA _ _ (by rfl)).uI _ (by rfl)).uA _ _ (by rfl)), (((Fr.refl.uA _ _ (by rfl)).uA _ _ (by rfl)).uI _ (by rfl)), ?_, fun j hj => ?_⟩
    · rw [hg.ct, show (400 : Int32) = nI 400 from rfl, nI_eq (by omega) (by omega)] at z
      omega
    · have e31 : ∀ j, gA (uA (uI (uA c 32 s 1) 206 27 (gI c 206 27 + 1)) 31 at' (nI s + 1)) 31 j = if j = at' then nI s + 1 else gA c 31 j := fun j => by
        rw [gA_one]
        split
        · rfl
        · rw [gA_uI, gA_wo _ _ _ (by decide)]
      have e32 : ∀ j, gA (uA (uI (uA c 32 s 1) 206 27 (gI c 206 27 + 1)) 31 at' (nI s + 1)) 32 j = if j = s then 1 else gA c 32 j := fun j => by
        rw [gA_wo _ _ _ (by decide), gA_uI, gA_one]
      have e139 : ∀ j, gA (uI (uA (uA m 140 s 1) 139 at' (nI s)) 1209 133 (gI m 1209 133 + 1)) 139 j = if j = at' then nI s else gA m 139 j := fun j => by
        rw [gA_uI, gA_one]
        split
        · rfl
        · rw [gA_wo _ _ _ (by decide)]
      have e140 : ∀ j, gA (uI (uA (uA m 140 s 1) 139 at' (nI s)) 1209 133 (gI m 1209 133 + 1)) 140 j = if j = s then 1 else gA m 140 j := fun j => by
        rw [gA_uI, gA_wo _ _ _ (by decide), gA_one]
      have ns : ∀ j, j < 4096 → ¬ gA m 139 j = nI s := fun j hj z => by
        rcases (hg.gl j hj).2 with y | ⟨s', y1, y2, y3⟩
        · rw [y] at z
          exact nIm1 s1 z.symm
        · rw [y2] at z
          have := (nI_eq (by omega) (by omega)).mp z
          subst this
          rw [s2] at y3
          exact absurd y3 (by decide)
      refine GT_mk (fun j hj => ?_) (fun i j hi hj he hne => ?_) (fun s' hs' => ?_) ?_
      · rw [e31, e139]
        by_cases z : j = at'
        · rw [if_pos z, if_pos z]
          exact ⟨rfl, Or.inr ⟨s, s1, rfl, by rw [e140, if_pos rfl]⟩⟩
        · rw [if_neg z, if_neg z]
          obtain ⟨g1, g2⟩ := hg.gl j hj
          refine ⟨g1, ?_⟩
          rcases g2 with g2 | ⟨s', y1, y2, y3⟩
          · exact Or.inl g2
          · refine Or.inr ⟨s', y1, y2, ?_⟩
            rw [e140]
            split
            · rfl
            · exact y3
      · rw [e139, e139] at he
        rw [e139] at hne
        by_cases z1 : i = at'
        · by_cases z2 : j = at'
          · rw [z1, z2]
          · rw [if_pos z1, if_neg z2] at he
            exact absurd he.symm (ns j hj)
        · rw [if_neg z1] at he hne
          by_cases z2 : j = at'
          · rw [if_pos z2] at he
            exact absurd he (ns i hi)
          · rw [if_neg z2] at he
            exact hg.ij i j hi hj he hne
      · rw [e140, e32]
        by_cases z : s' = s
        · rw [if_pos z, if_pos z]; exact ⟨true, rfl, rfl⟩
        · rw [if_neg z, if_neg z]; exact hg.tk s' hs'
      · have hc := cnt_wr (p := fun x => decide (gA (uI (uA (uA m 140 s 1) 139 at' (nI s)) 1209 133 (gI m 1209 133 + 1)) 140 x = 1)) (q := fun x => decide (gA m 140 x = 1)) (s := s) (by rw [e140, if_pos rfl]; rfl) (by rw [s2]; rfl) 400 (fun j hj => by rw [e140, if_neg hj]) s1
        rw [gI_uI, if_pos ⟨rfl, rfl⟩]
        exact (congrArg (· + 1) hg.ct).trans ((nI_add _ 1).trans (congrArg nI hc))
    · funext j
      rw [gA_uI, gA_one]
      unfold wr
      split
      · rfl
      · rw [gA_wo _ _ _ (by decide)]
    · rw [gA_one, if_neg (by omega), gA_uI, gA_wo _ _ _ (by decide)]
  · left
    have al : ∀ j, j < 400 → gA m 140 j = 1 ∧ ¬ gA c 32 j = 0 := fun j hj => by
      obtain ⟨b, b1, b2⟩ := hg.tk j hj
      cases b
      · exact absurd ⟨j, hj, b1⟩ q
      · exact ⟨b1, by rw [b2]; decide⟩
    refine ⟨?_, c_l44 (by omega) FU 0 (FU_gt (by omega)) (by omega) (fun j _ hj => (al j hj).2)⟩
    rw [hg.ct, cnt_all 400 (fun j hj => decide_eq_true (al j hj).1)]; rfl
end G6
