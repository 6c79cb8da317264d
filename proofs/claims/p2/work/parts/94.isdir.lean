/-! Whether a place holds a directory, on both sides. -/
def SE (c m : Mm) (sz k : Nat) (d : Nat → Nat) : Prop := gI c 308 129 = nI k ∧ gI m 1271 133 = nI k ∧ k ≤ 12 ∧ ∀ j, j < k → gB c 130 j = lN (d j) ∧ gA m 169 j = nI (d j) ∧ d j ≤ sz
def isDir (F : Nat → Nat) (lo : Bool) (sz k : Nat) (d : Nat → Nat) (a : Nat) : Prop := 1 ≤ nm F lo a 2 ∧ nm F lo a 2 ≤ 40 ∧ k < 12 ∧ a + 2 + 12 * nm F lo a 2 + 4 ≤ sz ∧ (∀ j, j < k → d j ≠ a) ∧ ∀ i, 1 ≤ i → i < nm F lo a 2 → nm F lo (a + 2 + 12 * (i - 1)) 2 < nm F lo (a + 2 + 12 * i) 2
theorem c_isDir {c m : Mm} {st sz k a : Nat} {F : Nat → Nat} {lo : Bool} {d : Nat → Nat} (pc : PicC c st sz F) (hl : gI c 306 129 = cI lo) (S : SE c m sz k d) (ha : a < 2 ^ 40) : ∃ b, f_X3_isDirectory (lN a) (nI (nm F lo a 2)) c = some (cI b, c) ∧ (b = true ↔ isDir F lo sz k d a) := by
  have hF := pc.2.2.2.2.2.1
  have hsz := pc.2.2.2.1
  obtain ⟨s1, s2, s3, s4⟩ := S
  have b0 : nm F lo a 2 < 256 ^ 2 := nmr_lt hF 2
  unfold f_X3_isDirectory
  generalize hv : nm F lo a 2 = v at b0
  have no : ∀ X : Prop, ¬ X → (X ↔ X) → ∃ b, some ((0 : Int32), c) = some (cI b, c) ∧ (b = true ↔ X) := fun X h _ => ⟨false, rfl, fun y => (by cases y), fun y => absurd y h⟩
  by_cases z1 : v < 1
  · rw [if_pos (show nI v < 1 from nI_lt (b := 1) z1 (by omega))]
    exact no _ (fun y => by have := y.1; omega) Iff.rfl
  rw [if_neg (show ¬ nI v < 1 from nI_nlt (b := 1) (by omega) (by omega))]
  by_cases z2 : 40 < v
  · rw [if_pos (show (40 : Int32) < nI v from nI_lt (a := 40) z2 (by omega))]
    exact no _ (fun y => by have := y.2.1; omega) Iff.rfl
  rw [if_neg (show ¬ (40 : Int32) < nI v from nI_nlt (a := 40) (b := v) (by omega) (by omega)), s1, if_neg (nI_pos (by omega))]
  by_cases z3 : 12 ≤ k
  · rw [if_pos (show (12 : Int32) ≤ nI k from nI_le (a := 12) z3 (by omega))]
    exact no _ (fun y => by have := y.2.2.1; omega) Iff.rfl
  rw [if_neg (show ¬ (12 : Int32) ≤ nI k from nI_ge (b := 12) (by omega) (by omega)), nI_l (by omega), show (12 : Int64) * lN v = lN (12 * v) from lN_mul 12 v, show lN a + 2 = lN (a + 2) from lN_add a 2, lN_add, show lN (a + 2 + 12 * v) + 4 = lN (a + 2 + 12 * v + 4) from lN_add _ 4, pc.2.2.1, nI_l (by omega)]
  by_cases z4 : a + 2 + 12 * v + 4 ≤ sz
  · rw [if_pos ((cmpLE (by omega) sz (by omega)).mpr z4)]
    -- the tags rise
    have tags : ∀ n i, 1 ≤ i → i ≤ v → v - i < n → (∀ u, 1 ≤ u → u < i → nm F lo (a + 2 + 12 * (u - 1)) 2 < nm F lo (a + 2 + 12 * u) 2) → ∃ b, f_X3_isDirectory_l92 n (lN a) (nI v) (nI i) c = some (cI b, c) ∧ (b = true ↔ ∀ u, 1 ≤ u → u < v → nm F lo (a + 2 + 12 * (u - 1)) 2 < nm F lo (a + 2 + 12 * u) 2) := by
      intro n
      induction n with
      | zero => intro i _ _ h; omega
      | succ n ih =>
        intro i hi hi2 hn hb
        have ev : f_X3_isDirectory_l92 (n + 1) (lN a) (nI v) (nI i) c = f_X3_isDirectory_b92 (f_X3_isDirectory_l92 n) (lN a) (nI v) (nI i) c := rfl
        rw [ev]
        unfold f_X3_isDirectory_b92
        rcases Nat.lt_or_ge i v with hlt | hge
        · have x1 : nm F lo (a + 2 + 12 * i) 2 < 256 ^ 2 := nmr_lt hF 2
          have x2 : nm F lo (a + 2 + 12 * i - 12) 2 < 256 ^ 2 := nmr_lt hF 2
          have e12 : a + 2 + 12 * i - 12 = a + 2 + 12 * (i - 1) := by omega
          rw [if_neg (nI_ge hlt (by omega)), show (12 : Int32) * nI i = nI (12 * i) from pk_mul 12 i, nI_l (by omega), show lN a + 2 = lN (a + 2) from lN_add a 2, lN_add, lb_eq, show (2 : Int32) = nI 2 from rfl, pic_num pc hl (by omega) (by omega), bd_eq, show lN (a + 2 + 12 * i) - 12 = lN (a + 2 + 12 * i - 12) from lN_sub (b := 12) (by omega), pic_num pc hl (by omega) (by omega), bd_eq]
          by_cases z : nm F lo (a + 2 + 12 * i - 12) 2 < nm F lo (a + 2 + 12 * i) 2
          · rw [if_pos ((cmpG (by omega) _ (by omega)).mpr z), nI_1]
            refine ih (i + 1) (by omega) hlt (by omega) (fun u hu1 hu2 => ?_)
            rcases Nat.eq_or_lt_of_le (Nat.le_of_lt_succ hu2) with rfl | h3
            · rw [← e12]; exact z
            · exact hb u hu1 h3
          · rw [if_neg (fun y => z ((cmpG (by omega) _ (by omega)).mp y))]
            exact no _ (fun y => z (by rw [e12]; exact y i hi hlt)) Iff.rfl
        · have : i = v := by omega
          subst this
          rw [if_pos (nI_le (Nat.le_refl _) (by omega))]
          exact ⟨true, rfl, fun _ => hb, fun _ => rfl⟩
    have seen : ∀ n i, i ≤ k → k - i < n → (∀ j, j < i → d j ≠ a) → ∃ b, f_X3_isDirectory_l60 n (lN a) (nI v) (nI i) c = some (cI b, c) ∧ (b = true ↔ (∀ j, j < k → d j ≠ a) ∧ ∀ u, 1 ≤ u → u < v → nm F lo (a + 2 + 12 * (u - 1)) 2 < nm F lo (a + 2 + 12 * u) 2) := by
      intro n
      induction n with
      | zero => intro i _ h; omega
      | succ n ih =>
        intro i hi hn hb
        have ev : f_X3_isDirectory_l60 (n + 1) (lN a) (nI v) (nI i) c = f_X3_isDirectory_b60 (f_X3_isDirectory_l60 n) (lN a) (nI v) (nI i) c := rfl
        rw [ev]
        unfold f_X3_isDirectory_b60
        rw [s1]
        rcases Nat.lt_or_ge i k with hlt | hge
        · have hd := s4 i hlt
          rw [if_neg (nI_ge hlt (by omega)), ix_in (j := i) (nI_pos (by omega)) (nI_clamp (by omega)) (by omega), hd.1]
          by_cases z : d i = a
          · rw [if_pos ((cmpZ (by omega) a (by omega)).mpr z)]
            exact no _ (fun y => y.1 i hlt z) Iff.rfl
          · rw [if_neg (fun y => z ((cmpZ (by omega) a (by omega)).mp y)), nI_1]
            refine ih (i + 1) hlt (by omega) (fun j hj => ?_)
            rcases Nat.eq_or_lt_of_le (Nat.le_of_lt_succ hj) with rfl | h3
            · exact z
            · exact hb j h3
        · have : i = k := by omega
          subst this
          rw [if_pos (nI_le (Nat.le_refl _) (by omega))]
          obtain ⟨b, t1, t2⟩ := tags FU 1 (by omega) (by omega) (FU_gt (by omega)) (fun u h1 h2 => by omega)
          exact ⟨b, t1, fun y => ⟨hb, t2.mp y⟩, fun y => t2.mpr y.2⟩
    obtain ⟨b, t1, t2⟩ := seen FU 0 (by omega) (FU_gt (by omega)) (fun j hj => by omega)
    refine ⟨b, t1, fun y => ?_, fun y => ?_⟩
    · have := t2.mp y
      exact ⟨by omega, by omega, by omega, by rw [hv]; exact z4, this.1, by rw [hv]; exact this.2⟩
    · refine t2.mpr ⟨y.2.2.2.2.1, ?_⟩
      have := y.2.2.2.2.2
      rw [hv] at this
      exact this
  · rw [if_neg (fun y => z4 ((cmpLE (by omega) sz (by omega)).mp y))]
    exact no _ (fun y => by have := y.2.2.2.1; rw [hv] at this; exact z4 this) Iff.rfl
