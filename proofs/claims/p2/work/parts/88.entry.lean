/-! One entry of a directory. -/
def enV (F : Nat → Nat) (lo : Bool) (p : Nat) : Nat := nm F lo (p + 8) (lk F lo p)
def eOk (F : Nat → Nat) (lo : Bool) (p : Nat) : Prop := (nm F lo (p + 2) 2 = 3 ∨ nm F lo (p + 2) 2 = 4) ∧ nm F lo (p + 4) 4 = 1 ∧ may (nm F lo p 2) (enV F lo p) = true
def cEnF (f i : Nat) : Bool := i == 129 && (f == 304 || f == 305 || f == 309 || f == 310 || f == 311 || f == 312 || f == 313 || f == 314 || f == 315 || f == 316)
theorem told_fr (c : Mm) (t v : Nat) : Fr cEnF (fun _ => false) c (told c t v) := by
  unfold told
  split
  · exact Fr.refl.uJ _ (by rfl)
  split
  · exact Fr.refl.uJ _ (by rfl)
  split
  · exact Fr.refl.uJ _ (by rfl)
  split
  · exact Fr.refl.uJ _ (by rfl)
  split
  · exact Fr.refl.uJ _ (by rfl)
  split
  · exact Fr.refl.uJ _ (by rfl)
  · exact Fr.refl
theorem told_i (c : Mm) (t v f i : Nat) : gI (told c t v) f i = gI c f i := by
  unfold told; repeat' split
  all_goals rfl
theorem c_entry {c : Mm} {st sz p : Nat} {F : Nat → Nat} {lo : Bool} (h : PicC c st sz F) (hl : gI c 306 129 = cI lo) (h0 : gI c 304 129 = 0) (hp : p + 12 ≤ sz) : ∃ c', f_X3_readEntry (lN p) c = some ((), c') ∧ (nm F lo p 2 = 273 → c' = uJ c 315 129 (lN p)) ∧ (nm F lo p 2 = 279 → c' = uJ c 316 129 (lN p)) ∧ (lkd (nm F lo p 2) = false → c' = c) ∧ (one (nm F lo p 2) = true → eOk F lo p → c' = told c (nm F lo p 2) (enV F lo p)) ∧ (one (nm F lo p 2) = true → ¬ eOk F lo p → gI c' 304 129 = 4 ∧ gI c' 305 129 = nI p ∧ Fr cEnF (fun _ => false) c c') := by
  have hF := h.2.2.2.2.2.1
  have hsz := h.2.2.2.1
  have b1 : nm F lo (p + 2) 2 < 256 ^ 2 := nmr_lt hF 2
  have b0 : nm F lo p 2 < 256 ^ 2 := nmr_lt hF 2
  have b2 := nm_lt hF (lo := lo) (a := p + 4) (n := 4) (by omega)
  have b3 := nm_lt hF (lo := lo) (a := p + 8) (n := lk F lo p) (lk_le F lo p)
  have hk := lk_le F lo p
  have hlk : lk F lo p = if nm F lo (p + 2) 2 = 3 then 2 else 4 := rfl
  unfold f_X3_readEntry
  rw [show (2 : Int32) = nI 2 from rfl, pic_num h hl (by omega) (by omega), bd_eq, lN_i, lb_eq]
  generalize ht : nm F lo p 2 = t at b0
  have e : ∀ k, k < 1000 → (nI t = nI k ↔ t = k) := fun k hk => nI_eq (by omega) (by omega)
  by_cases t1 : t = 273
  · rw [if_pos (show nI t = 273 from (e 273 (by omega)).mpr t1), lb_eq]
    refine ⟨_, rfl, fun _ => rfl, fun y => by omega, fun y => (by rw [t1] at y; cases y), fun y => (by rw [t1] at y; cases y), fun y => (by rw [t1] at y; cases y)⟩
  rw [if_neg (show ¬ nI t = 273 from fun y => t1 ((e 273 (by omega)).mp y))]
  by_cases t2 : t = 279
  · rw [if_pos (show nI t = 279 from (e 279 (by omega)).mpr t2), lb_eq]
    refine ⟨_, rfl, fun y => by omega, fun _ => rfl, fun y => (by rw [t2] at y; cases y), fun y => (by rw [t2] at y; cases y), fun y => (by rw [t2] at y; cases y)⟩
  rw [if_neg (show ¬ nI t = 279 from fun y => t2 ((e 279 (by omega)).mp y)), c_isOne (by omega), bd_eq]
  cases ho : one t with
  | false =>
    rw [if_pos (by decide)]
    exact ⟨c, rfl, fun y => absurd y t1, fun y => absurd y t2, fun _ => rfl, fun y => (by cases y), fun y => (by cases y)⟩
  | true =>
    rw [if_neg (by decide), show lN p + 2 = lN (p + 2) from lN_add p 2, pic_num h hl (by omega) (by omega), bd_eq, lN_i, lb_eq, show lN p + 4 = lN (p + 4) from lN_add p 4, show (4 : Int32) = nI 4 from rfl, pic_num h hl (by omega) (by omega), bd_eq, show lN p + 8 = lN (p + 8) from lN_add p 8]
    have hk1 := (lkd_one ho).1
    have failed : ∀ T : Mm, Fr cEnF (fun _ => false) c T → gI T 304 129 = 0 → gI T 303 129 = nI sz → (bd (f_X3_fail (nI 4) (lN p) T) fun _ T1 => some ((), T1)) = some ((), uI (uI T 304 129 4) 305 129 (nI p)) := fun T f g1 g2 => by
      rw [f_fail (sz := sz) g1 g2 (by omega) (by omega), bd_eq, if_neg (by omega)]; rfl
    have fin : ∀ T : Mm, Fr cEnF (fun _ => false) c T → gI (uI (uI T 304 129 4) 305 129 (nI p)) 304 129 = 4 ∧ gI (uI (uI T 304 129 4) 305 129 (nI p)) 305 129 = nI p ∧ Fr cEnF (fun _ => false) c (uI (uI T 304 129 4) 305 129 (nI p)) := fun T f => ⟨by rw [gI_uI, if_neg (by decide), gI_uI, if_pos ⟨rfl, rfl⟩], by rw [gI_uI, if_pos ⟨rfl, rfl⟩], (f.uI 4 (by rfl)).uI _ (by rfl)⟩
    have badR : ¬ eOk F lo p → ∃ c', some ((), uI (uI c 304 129 4) 305 129 (nI p)) = some ((), c') ∧ (t = 273 → c' = uJ c 315 129 (lN p)) ∧ (t = 279 → c' = uJ c 316 129 (lN p)) ∧ (lkd t = false → c' = c) ∧ (true = true → eOk F lo p → c' = told c t (enV F lo p)) ∧ (true = true → ¬ eOk F lo p → gI c' 304 129 = 4 ∧ gI c' 305 129 = nI p ∧ Fr cEnF (fun _ => false) c c') := fun hno => ⟨_, rfl, fun y => absurd y t1, fun y => absurd y t2, fun y => (by rw [hk1] at y; cases y), fun _ y => absurd y hno, fun _ _ => fin c Fr.refl⟩
    have t116 : ∀ b : Int32, (b = 0 → ¬ eOk F lo p) → (b = 1 → (nm F lo (p + 2) 2 = 3 ∨ nm F lo (p + 2) 2 = 4) ∧ nm F lo (p + 4) 4 = 1) → b = 0 ∨ b = 1 → ∃ c', f_X3_readEntry_116 (lN p) (nI t) (lN (enV F lo p)) b c = some ((), c') ∧ (t = 273 → c' = uJ c 315 129 (lN p)) ∧ (t = 279 → c' = uJ c 316 129 (lN p)) ∧ (lkd t = false → c' = c) ∧ (true = true → eOk F lo p → c' = told c t (enV F lo p)) ∧ (true = true → ¬ eOk F lo p → gI c' 304 129 = 4 ∧ gI c' 305 129 = nI p ∧ Fr cEnF (fun _ => false) c c') := by
      intro b h0' h1' hb
      unfold f_X3_readEntry_116
      rcases hb with rfl | rfl
      · rw [if_pos rfl, show (4 : Int32) = nI 4 from rfl, failed c Fr.refl h0 h.2.2.1]
        exact badR (h0' rfl)
      · have hh := h1' rfl
        rw [if_neg (by decide), c_tell ho (show enV F lo p < 2 ^ 40 from Nat.lt_trans b3 (by decide)), bd_eq]
        cases hm : may t (enV F lo p) with
        | true =>
          rw [if_neg (by decide)]
          exact ⟨_, rfl, fun y => absurd y t1, fun y => absurd y t2, fun y => (by rw [hk1] at y; cases y), fun _ _ => rfl, fun _ y => absurd ⟨hh.1, hh.2, by rw [ht]; exact hm⟩ y⟩
        | false =>
          rw [if_pos (by decide), show (4 : Int32) = nI 4 from rfl, failed _ (told_fr c t _) (by rw [told_i]; exact h0) (by rw [told_i]; exact h.2.2.1)]
          have hno : ¬ eOk F lo p := fun y => by have := y.2.2; rw [ht, hm] at this; cases this
          exact ⟨_, rfl, fun y => absurd y t1, fun y => absurd y t2, fun y => (by rw [hk1] at y; cases y), fun _ y => absurd y hno, fun _ _ => fin _ (told_fr c t _)⟩
    have ety : ∀ k, k < 1000 → (nI (nm F lo (p + 2) 2) = nI k ↔ nm F lo (p + 2) 2 = k) := fun k hk => nI_eq (by omega) (by omega)
    have t104 : (nm F lo (p + 2) 2 = 3 ∨ nm F lo (p + 2) 2 = 4) → ∃ c', f_X3_readEntry_104 (lN p) (nI t) (lN (nm F lo (p + 4) 4)) (lN (enV F lo p)) c = some ((), c') ∧ (t = 273 → c' = uJ c 315 129 (lN p)) ∧ (t = 279 → c' = uJ c 316 129 (lN p)) ∧ (lkd t = false → c' = c) ∧ (true = true → eOk F lo p → c' = told c t (enV F lo p)) ∧ (true = true → ¬ eOk F lo p → gI c' 304 129 = 4 ∧ gI c' 305 129 = nI p ∧ Fr cEnF (fun _ => false) c c') := by
      intro hty
      unfold f_X3_readEntry_104
      by_cases z : nm F lo (p + 4) 4 = 1
      · rw [if_pos (by rw [c_eq]; exact (lN3 (k := 1) (by omega) (by omega)).mpr z)]
        exact t116 1 (fun y => absurd y (by decide)) (fun _ => ⟨hty, z⟩) (Or.inr rfl)
      · rw [if_neg (show ¬ lg_cmp (lN (nm F lo (p + 4) 4)) 1 = 0 from fun y => z ((lN3 (k := 1) (by omega) (by omega)).mp (c_eq.mp y)))]
        exact t116 0 (fun _ y => z y.2.1) (fun y => absurd y (by decide)) (Or.inl rfl)
    have t87 : ∃ c', f_X3_readEntry_87 (lN p) (nI t) (nI (nm F lo (p + 2) 2)) (lN (nm F lo (p + 4) 4)) (nI (lk F lo p)) (lN (p + 8)) c = some ((), c') ∧ (t = 273 → c' = uJ c 315 129 (lN p)) ∧ (t = 279 → c' = uJ c 316 129 (lN p)) ∧ (lkd t = false → c' = c) ∧ (true = true → eOk F lo p → c' = told c t (enV F lo p)) ∧ (true = true → ¬ eOk F lo p → gI c' 304 129 = 4 ∧ gI c' 305 129 = nI p ∧ Fr cEnF (fun _ => false) c c') := by
      unfold f_X3_readEntry_87
      rw [pic_num h hl (by omega) hk, bd_eq]
      by_cases z : nm F lo (p + 2) 2 = 3
      · rw [if_pos (show nI (nm F lo (p + 2) 2) = 3 from (ety 3 (by omega)).mpr z)]
        exact t104 (Or.inl z)
      rw [if_neg (show ¬ nI (nm F lo (p + 2) 2) = 3 from fun y => z ((ety 3 (by omega)).mp y))]
      by_cases z2 : nm F lo (p + 2) 2 = 4
      · rw [if_pos (show nI (nm F lo (p + 2) 2) = 4 from (ety 4 (by omega)).mpr z2)]
        exact t104 (Or.inr z2)
      rw [if_neg (show ¬ nI (nm F lo (p + 2) 2) = 4 from fun y => z2 ((ety 4 (by omega)).mp y))]
      exact t116 0 (fun _ y => y.1.elim z z2) (fun y => absurd y (by decide)) (Or.inl rfl)
    by_cases z : nm F lo (p + 2) 2 = 3
    · rw [if_pos (show nI (nm F lo (p + 2) 2) = 3 from (ety 3 (by omega)).mpr z)]
      rw [show lk F lo p = 2 from by rw [hlk, if_pos z]] at t87
      exact t87
    · rw [if_neg (show ¬ nI (nm F lo (p + 2) 2) = 3 from fun y => z ((ety 3 (by omega)).mp y))]
      rw [show lk F lo p = 4 from by rw [hlk, if_neg z]] at t87
      exact t87
