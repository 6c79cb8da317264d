/-! One entry of a directory, in the reference. -/
def mEnF (f i : Nat) : Bool := i == 133 && (f == 1243 || f == 1245)
def mEnA (b : Nat) : Bool := b == 170 || b == 171
theorem m_entry {m : Mm} {st sz q n i : Nat} {F : Nat → Nat} {lo : Bool} {k31 : Int32 → Int32 → Int32 → Mm → Option (Int32 × Mm)} (h : PicM m st sz F) (hl : gI m 1269 133 = cI (!lo)) (hi : i < n) (hn : n ≤ 40) (p : Nat) (hpe : p = q + 2 + 12 * i) (hp : p + 12 ≤ sz) :
    (nm F lo p 2 = 273 ∨ nm F lo p 2 = 279 → f_X12_directory_b31 k31 (nI q) (nI n) (nI i) m = k31 (nI q) (nI n) (nI (i + 1)) (uA m 170 (nm F lo p 2) (nI p))) ∧ (lkd (nm F lo p 2) = false → f_X12_directory_b31 k31 (nI q) (nI n) (nI i) m = k31 (nI q) (nI n) (nI (i + 1)) m) ∧ (one (nm F lo p 2) = true → eOk F lo p → f_X12_directory_b31 k31 (nI q) (nI n) (nI i) m = k31 (nI q) (nI n) (nI (i + 1)) (uB (uA m 170 (nm F lo p 2) (nI p)) 171 (nm F lo p 2) (lN (enV F lo p)))) ∧ (one (nm F lo p 2) = true → ¬ eOk F lo p → ∃ m', f_X12_directory_b31 k31 (nI q) (nI n) (nI i) m = some (0, uI (uI m' 1243 133 4) 1245 133 (nI p)) ∧ Fr (fun _ _ => false) mEnA m m') := by
  have hF := h.2.2.2.2
  have hsz := h.2.2.1
  have b1 : nm F lo (p + 2) 2 < 256 ^ 2 := nmr_lt hF 2
  have b0 : nm F lo p 2 < 256 ^ 2 := nmr_lt hF 2
  have b2 := nm_lt hF (lo := lo) (a := p + 4) (n := 4) (by omega)
  have b3 : enV F lo p < 2 ^ 32 := nm_lt hF (lo := lo) (a := p + 8) (n := lk F lo p) (lk_le F lo p)
  have hk := lk_le F lo p
  have hlk : lk F lo p = if nm F lo (p + 2) 2 = 3 then 2 else 4 := rfl
  have ep : nI q + 2 + (12 : Int32) * nI i = nI p := by
    rw [show (12 : Int32) * nI i = nI (12 * i) from pk_mul 12 i, show nI q + 2 = nI (q + 2) from nI_add q 2, nI_add, hpe]
  have e0 : f_X12_directory_b31 k31 (nI q) (nI n) (nI i) m = (bd (f_X12_isLooked (nI (nm F lo p 2)) m) fun v25 T26 => if v25 = 0 then (k31 (nI q) (nI n) (nI (i + 1)) T26) else (ix (nI (nm F lo p 2)) 400 fun j27 => lb (uA T26 170 j27 (nI p)) fun T29 => if nI (nm F lo p 2) = 273 then (k31 (nI q) (nI n) (nI (i + 1)) T29) else (if nI (nm F lo p 2) = 279 then (k31 (nI q) (nI n) (nI (i + 1)) T29) else (bd (f_X12_picture (nI p + 2) 2 T29) fun v30 T31 => if (lg_cmp v30 3) = 0 then (f_X12_directory_118 k31 (nI q) (nI n) (nI i) (nI p) (nI (nm F lo p 2)) T31) else (if (lg_cmp v30 4) = 0 then (f_X12_directory_118 k31 (nI q) (nI n) (nI i) (nI p) (nI (nm F lo p 2)) T31) else (bd (f_X12_wrong 4 (nI p) T31) fun v32 T33 => gd (v32 = 0 ∨ v32 = 1) <| some (v32, T33))))))) := by
    unfold f_X12_directory_b31
    rw [if_neg (nI_ge hi (by omega)), ep, lb_eq, show (2 : Int32) = nI 2 from rfl, picm_num h hl (by omega) (by omega), bd_eq, lN_i, lb_eq, nI_1]
  rw [e0, m_isLkd (by omega), bd_eq]
  generalize ht : nm F lo p 2 = t at b0
  have e : ∀ k, k < 1000 → (nI t = nI k ↔ t = k) := fun k hk => nI_eq (by omega) (by omega)
  cases hlkd : lkd t with
  | false =>
    rw [if_pos (by decide)]
    refine ⟨fun y => ?_, fun _ => rfl, fun y => ?_, fun y => ?_⟩
    · rcases y with y | y <;> rw [y] at hlkd <;> cases hlkd
    · rw [(lkd_one y).1] at hlkd; cases hlkd
    · rw [(lkd_one y).1] at hlkd; cases hlkd
  | true =>
    have t400 : t < 400 := by
      rcases lkd_in hlkd with y | y | y
      · exact (lkd_one y).2.2.2
      · omega
      · omega
    rw [if_neg (by decide), ix_in (j := t) (nI_pos (by omega)) (nI_clamp (by omega)) t400, lb_eq]
    by_cases t1 : t = 273
    · rw [if_pos (show nI t = 273 from (e 273 (by omega)).mpr t1)]
      exact ⟨fun _ => rfl, fun y => (by cases y), fun y => (by rw [t1] at y; cases y), fun y => (by rw [t1] at y; cases y)⟩
    rw [if_neg (show ¬ nI t = 273 from fun y => t1 ((e 273 (by omega)).mp y))]
    by_cases t2 : t = 279
    · rw [if_pos (show nI t = 279 from (e 279 (by omega)).mpr t2)]
      exact ⟨fun _ => rfl, fun y => (by cases y), fun y => (by rw [t2] at y; cases y), fun y => (by rw [t2] at y; cases y)⟩
    rw [if_neg (show ¬ nI t = 279 from fun y => t2 ((e 279 (by omega)).mp y))]
    have h1 : PicM (uA m 170 t (nI p)) st sz F := h
    have hl1 : gI (uA m 170 t (nI p)) 1269 133 = cI (!lo) := hl
    have ho : one t = true := by
      rcases lkd_in hlkd with y | y | y
      · exact y
      · exact absurd y t1
      · exact absurd y t2
    rw [show nI p + 2 = nI (p + 2) from nI_add p 2, show (2 : Int32) = nI 2 from rfl, picm_num h1 hl1 (by omega) (by omega), bd_eq]
    have fa : Fr (fun _ _ => false) mEnA m (uA m 170 t (nI p)) := Fr.refl.uA _ _ (by rfl)
    have Z : ∀ v k, v < 2 ^ 40 → k < 1000 → (lg_cmp (lN v) (lN k) = 0 ↔ v = k) := fun v k hv hk => by rw [c_eq]; exact lN3 (by omega) k (by omega)
    have t118 : (nm F lo (p + 2) 2 = 3 ∨ nm F lo (p + 2) 2 = 4) → (eOk F lo p → f_X12_directory_118 k31 (nI q) (nI n) (nI i) (nI p) (nI t) (uA m 170 t (nI p)) = k31 (nI q) (nI n) (nI (i + 1)) (uB (uA m 170 t (nI p)) 171 t (lN (enV F lo p)))) ∧ (¬ eOk F lo p → ∃ m', f_X12_directory_118 k31 (nI q) (nI n) (nI i) (nI p) (nI t) (uA m 170 t (nI p)) = some (0, uI (uI m' 1243 133 4) 1245 133 (nI p)) ∧ Fr (fun _ _ => false) mEnA m m') := by
      intro hty
      unfold f_X12_directory_118
      rw [show nI p + 4 = nI (p + 4) from nI_add p 4, show (4 : Int32) = nI 4 from rfl, picm_num h1 hl1 (by omega) (by omega), bd_eq]
      by_cases z : nm F lo (p + 4) 4 = 1
      · have elb : lbs F lo p = p + 8 := by unfold lbs; rw [z, if_pos (by omega)]
        have elv : lsv F lo p 0 = enV F lo p := by unfold lsv enV; rw [elb, Nat.zero_mul, Nat.add_zero]
        rw [if_pos (show lg_cmp (lN (nm F lo (p + 4) 4)) 1 = 0 from (Z _ 1 (by omega) (by omega)).mpr z), show (0 : Int32) = nI 0 from rfl, m_valueOf h1 hl1 (by omega) (by omega) (by rw [elb]; omega), bd_eq, elv, ix_in (j := t) (nI_pos (by omega)) (nI_clamp (by omega)) t400, lb_eq, ix_in (j := t) (nI_pos (by omega)) (nI_clamp (by omega)) t400, show gB (uB (uA m 170 t (nI p)) 171 t (lN (enV F lo p))) 171 t = lN (enV F lo p) from by rw [gB_uB, if_pos ⟨rfl, rfl⟩], m_isMay ho (Nat.lt_trans b3 (by decide)), bd_eq]
        cases hm : may t (enV F lo p) with
        | true =>
          rw [if_neg (show ¬ cI true = nI 0 by decide), nI_1]
          exact ⟨fun _ => rfl, fun y => absurd ⟨hty, z, by rw [ht]; exact hm⟩ y⟩
        | false =>
          rw [if_pos (show cI false = nI 0 by decide)]
          refine ⟨fun y => ?_, fun _ => ⟨_, rfl, fa.uB _ _ (by rfl)⟩⟩
          have := y.2.2; rw [ht, hm] at this; cases this
      · rw [if_neg (show ¬ lg_cmp (lN (nm F lo (p + 4) 4)) 1 = 0 from fun y => z ((Z _ 1 (by omega) (by omega)).mp y))]
        exact ⟨fun y => absurd y.2.1 z, fun _ => ⟨_, rfl, fa⟩⟩
    have hnl : ∀ x : Mm, (true = false → x = m) := fun x y => (by cases y)
    by_cases z : nm F lo (p + 2) 2 = 3
    · rw [if_pos (show lg_cmp (lN (nm F lo (p + 2) 2)) 3 = 0 from (Z _ 3 (by omega) (by omega)).mpr z)]
      exact ⟨fun y => absurd y (fun y => y.elim t1 t2), fun y => (by cases y), fun _ => (t118 (Or.inl z)).1, fun _ => (t118 (Or.inl z)).2⟩
    rw [if_neg (show ¬ lg_cmp (lN (nm F lo (p + 2) 2)) 3 = 0 from fun y => z ((Z _ 3 (by omega) (by omega)).mp y))]
    by_cases z2 : nm F lo (p + 2) 2 = 4
    · rw [if_pos (show lg_cmp (lN (nm F lo (p + 2) 2)) 4 = 0 from (Z _ 4 (by omega) (by omega)).mpr z2)]
      exact ⟨fun y => absurd y (fun y => y.elim t1 t2), fun y => (by cases y), fun _ => (t118 (Or.inr z2)).1, fun _ => (t118 (Or.inr z2)).2⟩
    rw [if_neg (show ¬ lg_cmp (lN (nm F lo (p + 2) 2)) 4 = 0 from fun y => z2 ((Z _ 4 (by omega) (by omega)).mp y))]
    exact ⟨fun y => absurd y (fun y => y.elim t1 t2), fun y => (by cases y), fun _ y => absurd y.1 (fun y => y.elim z z2), fun _ _ => ⟨_, rfl, fa⟩⟩
