/-! Whether a place holds a directory, in the reference. -/
theorem m_dir {c m : Mm} {st sz k a : Nat} {F : Nat → Nat} {lo : Bool} {d : Nat → Nat} {k259 : Int64 → Mm → Option (Int32 × Mm)} (pm : PicM m st sz F) (hl : gI m 1269 133 = cI (!lo)) (S : SE c m sz k d) (ha0 : a ≠ 0) (ha : a < 2 ^ 40) : (isDir F lo sz k d a → f_X12_pictures_b259 k259 (lN a) m = f_X12_pictures_497 k259 (nI a) 1 (nI (nm F lo a 2)) m) ∧ (¬ isDir F lo sz k d a → f_X12_pictures_b259 k259 (lN a) m = some (0, uI (uI m 1243 133 3) 1245 133 (nI (if sz < a then sz else a)))) := by
  have hF := pm.2.2.2.2
  have hsz := pm.2.2.1
  obtain ⟨s1, s2, s3, s4⟩ := S
  -- once it is none, it stays none
  have z497 : ∀ (a6 a8 : Int32), f_X12_pictures_497 k259 a6 0 a8 m = some (0, uI (uI m 1243 133 3) 1245 133 a6) := fun a6 a8 => by unfold f_X12_pictures_497; rw [if_pos rfl, m_wrong]
  have z443 : ∀ n (a6 a8 i : Int32) (pr : Int64), f_X12_pictures_l443 k259 (n + 1) a6 0 a8 pr i m = some (0, uI (uI m 1243 133 3) 1245 133 a6) := fun n a6 a8 i pr => by
    show f_X12_pictures_b443 k259 (f_X12_pictures_l443 k259 n) _ _ _ _ _ _ = _
    unfold f_X12_pictures_b443
    by_cases z : a8 ≤ i
    · rw [if_pos z, z497]
    · rw [if_neg z, if_pos rfl, z497]
  have z396 : ∀ n i (a6 a8 : Int32), i ≤ k → k - i < n → f_X12_pictures_l396 k259 n a6 0 a8 (nI i) m = some (0, uI (uI m 1243 133 3) 1245 133 a6) := by
    intro n
    induction n with
    | zero => intro i _ _ _ h; omega
    | succ n ih =>
      intro i a6 a8 hi hn
      show f_X12_pictures_b396 k259 (f_X12_pictures_l396 k259 n) _ _ _ _ _ = _
      unfold f_X12_pictures_b396
      rw [s2]
      rcases Nat.lt_or_ge i k with hlt | hge
      · rw [if_neg (nI_ge hlt (by omega)), if_pos rfl, nI_1]
        exact ih (i + 1) a6 a8 hlt (by omega)
      · rw [if_pos (nI_le hge (by omega)), show FU = 3999999999 + 1 from rfl]
        exact z443 _ _ _ _ _
  have z0 : ∀ a6 a8 : Int32, f_X12_pictures_l396 k259 FU a6 0 a8 0 m = some (0, uI (uI m 1243 133 3) 1245 133 a6) := fun a6 a8 => z396 FU 0 a6 a8 (by omega) (FU_gt (by omega))
  unfold f_X12_pictures_b259
  rw [if_neg (show ¬ lg_cmp (lN a) 0 = 0 from fun y => ha0 ((cmpZ (by omega) 0 (by omega)).mp y)), pm.2.1, nI_l (by omega)]
  by_cases y1 : a ≤ sz
  · rw [if_pos ((cmpLE (by omega) sz (by omega)).mpr y1), lN_i, if_neg (show ¬ sz < a by omega)]
    have none : ¬ isDir F lo sz k d a → ∀ X : Option (Int32 × Mm), X = some (0, uI (uI m 1243 133 3) 1245 133 (nI a)) → (isDir F lo sz k d a → X = f_X12_pictures_497 k259 (nI a) 1 (nI (nm F lo a 2)) m) ∧ (¬ isDir F lo sz k d a → X = some (0, uI (uI m 1243 133 3) 1245 133 (nI a))) := fun h X hX => ⟨fun y => absurd y h, fun _ => hX⟩
    unfold f_X12_pictures_289
    rw [show lN a + 2 = lN (a + 2) from lN_add a 2, pm.2.1, nI_l (by omega)]
    by_cases y2 : sz < a + 2
    · rw [if_pos ((cmpG (by omega) sz (by omega)).mpr y2)]
      unfold f_X12_pictures_320 f_X12_pictures_339
      rw [if_pos rfl, if_pos rfl]
      exact none (fun y => by have := y.2.2.2.1; omega) _ (z0 _ _)
    rw [if_neg (fun y => y2 ((cmpG (by omega) sz (by omega)).mp y)), s2]
    by_cases y3 : 12 ≤ k
    · rw [if_pos (show (12 : Int32) ≤ nI k from nI_le (a := 12) y3 (by omega))]
      unfold f_X12_pictures_320 f_X12_pictures_339
      rw [if_pos rfl, if_pos rfl]
      exact none (fun y => by have := y.2.2.1; omega) _ (z0 _ _)
    rw [if_neg (show ¬ (12 : Int32) ≤ nI k from nI_ge (b := 12) (by omega) (by omega))]
    unfold f_X12_pictures_320
    rw [if_neg (show ¬ (1 : Int32) = 0 by decide), show (2 : Int32) = nI 2 from rfl, picm_num pm hl (by omega) (by omega), bd_eq, lN_i]
    have b0 : nm F lo a 2 < 256 ^ 2 := nmr_lt hF 2
    unfold f_X12_pictures_339
    rw [if_neg (show ¬ (1 : Int32) = 0 by decide)]
    by_cases y4 : nm F lo a 2 < 1
    · rw [if_pos (show nI (nm F lo a 2) < 1 from nI_lt (b := 1) y4 (by omega))]
      exact none (fun y => by have := y.1; omega) _ (z0 _ _)
    rw [if_neg (show ¬ nI (nm F lo a 2) < 1 from nI_nlt (b := 1) (by omega) (by omega))]
    by_cases y5 : 40 < nm F lo a 2
    · rw [if_pos (show (40 : Int32) < nI (nm F lo a 2) from nI_lt (a := 40) y5 (by omega))]
      exact none (fun y => by have := y.2.1; omega) _ (z0 _ _)
    rw [if_neg (show ¬ (40 : Int32) < nI (nm F lo a 2) from nI_nlt (a := 40) (b := nm F lo a 2) (by omega) (by omega)), nI_l (by omega), show (12 : Int64) * lN (nm F lo a 2) = lN (12 * nm F lo a 2) from lN_mul 12 _, show lN a + 2 = lN (a + 2) from lN_add a 2, lN_add, show lN (a + 2 + 12 * nm F lo a 2) + 4 = lN (a + 2 + 12 * nm F lo a 2 + 4) from lN_add _ 4, pm.2.1, nI_l (by omega)]
    by_cases y6 : sz < a + 2 + 12 * nm F lo a 2 + 4
    · rw [if_pos ((cmpG (by omega) sz (by omega)).mpr y6)]
      exact none (fun y => by have := y.2.2.2.1; omega) _ (z0 _ _)
    rw [if_neg (fun y => y6 ((cmpG (by omega) sz (by omega)).mp y))]
    -- the tags rise
    have tags : ∀ n i pr, i ≤ nm F lo a 2 → nm F lo a 2 - i + 1 < n → (i = 0 ∧ pr = -1 ∨ 1 ≤ i ∧ pr = lN (nm F lo (a + 2 + 12 * (i - 1)) 2)) → (∀ j, j < k → d j ≠ a) → (∀ u, 1 ≤ u → u < i → nm F lo (a + 2 + 12 * (u - 1)) 2 < nm F lo (a + 2 + 12 * u) 2) → (isDir F lo sz k d a → f_X12_pictures_l443 k259 n (nI a) 1 (nI (nm F lo a 2)) pr (nI i) m = f_X12_pictures_497 k259 (nI a) 1 (nI (nm F lo a 2)) m) ∧ (¬ isDir F lo sz k d a → f_X12_pictures_l443 k259 n (nI a) 1 (nI (nm F lo a 2)) pr (nI i) m = some (0, uI (uI m 1243 133 3) 1245 133 (nI a))) := by
      intro n
      induction n with
      | zero => intro i _ _ h; omega
      | succ n ih =>
        intro i pr hi hn hpr hs hb
        have ev : f_X12_pictures_l443 k259 (n + 1) (nI a) 1 (nI (nm F lo a 2)) pr (nI i) m = f_X12_pictures_b443 k259 (f_X12_pictures_l443 k259 n) (nI a) 1 (nI (nm F lo a 2)) pr (nI i) m := rfl
        rw [ev]
        unfold f_X12_pictures_b443
        rcases Nat.lt_or_ge i (nm F lo a 2) with hlt | hge
        · have x1 : nm F lo (a + 2 + 12 * i) 2 < 256 ^ 2 := nmr_lt hF 2
          have x2 : nm F lo (a + 2 + 12 * (i - 1)) 2 < 256 ^ 2 := nmr_lt hF 2
          rw [if_neg (nI_ge hlt (by omega)), if_neg (show ¬ (1 : Int32) = 0 by decide), show (12 : Int32) * nI i = nI (12 * i) from pk_mul 12 i, show nI a + 2 = nI (a + 2) from nI_add a 2, nI_add, show (2 : Int32) = nI 2 from rfl, picm_num pm hl (by omega) (by omega), bd_eq, nI_1]
          have step : (∀ u, 1 ≤ u → u < i + 1 → nm F lo (a + 2 + 12 * (u - 1)) 2 < nm F lo (a + 2 + 12 * u) 2) → _ := fun hb2 => ih (i + 1) (lN (nm F lo (a + 2 + 12 * i) 2)) hlt (by omega) (Or.inr ⟨by omega, by rw [Nat.add_sub_cancel]⟩) hs hb2
          rcases hpr with ⟨h0, hp⟩ | ⟨h1, hp⟩
          · have hneg : ¬ lg_cmp (lN (nm F lo (a + 2 + 12 * i) 2)) pr ≤ 0 := fun y => by
              rw [c_le, hp] at y
              have h0 : lN 0 ≤ lN (nm F lo (a + 2 + 12 * i) 2) := (pk_lLE (by omega) (by omega)).mpr (by omega)
              exact absurd (Int64.le_trans h0 y) (by decide)
            rw [if_neg hneg]
            exact step (fun u hu1 hu2 => by omega)
          · rw [hp]
            by_cases z : nm F lo (a + 2 + 12 * i) 2 ≤ nm F lo (a + 2 + 12 * (i - 1)) 2
            · rw [if_pos ((cmpLE (by omega) _ (by omega)).mpr z)]
              obtain ⟨n', rfl⟩ : ∃ n', n = n' + 1 := ⟨n - 1, by omega⟩
              refine none (fun y => ?_) _ (z443 _ _ _ _ _)
              have := y.2.2.2.2.2 i h1 hlt
              omega
            · rw [if_neg (fun y => z ((cmpLE (by omega) _ (by omega)).mp y))]
              refine step (fun u hu1 hu2 => ?_)
              rcases Nat.eq_or_lt_of_le (Nat.le_of_lt_succ hu2) with rfl | h3
              · omega
              · exact hb u hu1 h3
        · have : i = nm F lo a 2 := by omega
          rw [if_pos (nI_le hge (by omega))]
          exact ⟨fun _ => rfl, fun y => absurd ⟨by omega, by omega, by omega, by omega, hs, fun u h1 h2 => hb u h1 (by omega)⟩ y⟩
    have seen : ∀ n i, i ≤ k → k - i < n → (∀ j, j < i → d j ≠ a) → (isDir F lo sz k d a → f_X12_pictures_l396 k259 n (nI a) 1 (nI (nm F lo a 2)) (nI i) m = f_X12_pictures_497 k259 (nI a) 1 (nI (nm F lo a 2)) m) ∧ (¬ isDir F lo sz k d a → f_X12_pictures_l396 k259 n (nI a) 1 (nI (nm F lo a 2)) (nI i) m = some (0, uI (uI m 1243 133 3) 1245 133 (nI a))) := by
      intro n
      induction n with
      | zero => intro i _ h; omega
      | succ n ih =>
        intro i hi hn hb
        have ev : f_X12_pictures_l396 k259 (n + 1) (nI a) 1 (nI (nm F lo a 2)) (nI i) m = f_X12_pictures_b396 k259 (f_X12_pictures_l396 k259 n) (nI a) 1 (nI (nm F lo a 2)) (nI i) m := rfl
        rw [ev]
        unfold f_X12_pictures_b396
        rw [s2]
        rcases Nat.lt_or_ge i k with hlt | hge
        · have hd := s4 i hlt
          rw [if_neg (nI_ge hlt (by omega)), if_neg (show ¬ (1 : Int32) = 0 by decide), ix_in (j := i) (nI_pos (by omega)) (nI_clamp (by omega)) (by omega), hd.2.1, nI_1]
          by_cases z : d i = a
          · rw [if_pos (by rw [z])]
            exact none (fun y => y.2.2.2.2.1 i hlt z) _ (z396 n (i + 1) _ _ hlt (by omega))
          · rw [if_neg (fun y => z ((nI_eq (by omega) (by omega)).mp y))]
            refine ih (i + 1) hlt (by omega) (fun j hj => ?_)
            rcases Nat.eq_or_lt_of_le (Nat.le_of_lt_succ hj) with rfl | h3
            · exact z
            · exact hb j h3
        · have : i = k := by omega
          subst this
          rw [if_pos (nI_le (Nat.le_refl _) (by omega))]
          exact tags FU 0 (-1) (by omega) (FU_gt (by omega)) (Or.inl ⟨rfl, rfl⟩) hb (fun u h1 h2 => by omega)
    exact seen FU 0 (by omega) (FU_gt (by omega)) (fun j hj => by omega)
  · rw [if_neg (fun y => y1 ((cmpLE (by omega) sz (by omega)).mp y)), if_pos (show sz < a by omega)]
    unfold f_X12_pictures_289
    rw [show lN a + 2 = lN (a + 2) from lN_add a 2, pm.2.1, nI_l (by omega), if_pos ((cmpG (by omega) sz (by omega)).mpr (by omega))]
    unfold f_X12_pictures_320 f_X12_pictures_339
    rw [if_pos rfl, if_pos rfl]
    exact ⟨fun y => absurd y.2.2.2.1 (by omega), fun _ => z0 _ _⟩
