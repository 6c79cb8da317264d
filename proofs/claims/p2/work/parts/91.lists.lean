/-! The two lists of a directory. -/
def lOk (F : Nat → Nat) (lo : Bool) (sz ns p : Nat) : Prop := (nm F lo (p + 2) 2 = 3 ∨ nm F lo (p + 2) 2 = 4) ∧ nm F lo (p + 4) 4 = ns ∧ ns ≤ 40 ∧ (ns * lk F lo p ≤ 4 ∨ nm F lo (p + 8) 4 + ns * lk F lo p ≤ sz)
theorem cmpZ {v : Nat} (hv : v < 2 ^ 60) (k : Nat) (hk : k < 2 ^ 60) : lg_cmp (lN v) (lN k) = 0 ↔ v = k := by rw [c_eq]; exact lN3 (by omega) k (by omega)
theorem cmpLE {v : Nat} (hv : v < 2 ^ 60) (k : Nat) (hk : k < 2 ^ 60) : lg_cmp (lN v) (lN k) ≤ 0 ↔ v ≤ k := by rw [c_le]; exact pk_lLE (by omega) (by omega)
theorem cmpG {v : Nat} (hv : v < 2 ^ 60) (k : Nat) (hk : k < 2 ^ 60) : 0 < lg_cmp (lN v) (lN k) ↔ k < v := by rw [c_gt]; exact pk_lLT (by omega) (by omega)
theorem c_isList {c : Mm} {st sz p h rc : Nat} {F : Nat → Nat} {lo : Bool} (pc : PicC c st sz F) (hl : gI c 306 129 = cI lo) (hp : p < 2 ^ 40) (e1 : gJ c 310 129 = lN h) (e2 : gJ c 314 129 = lN rc) (hh : h ≤ 800) (hr1 : 1 ≤ rc) (hr : rc ≤ 800) : ∃ b, f_X3_isList (lN p) c = some (cI b, c) ∧ (b = true ↔ lOk F lo sz ((h + rc - 1) / rc) p) := by
  have hF := pc.2.2.2.2.2.1
  have hsz := pc.2.2.2.1
  have b1 := nm_lt hF (lo := lo) (a := p + 2) (n := 2) (by omega)
  have b2 := nm_lt hF (lo := lo) (a := p + 4) (n := 4) (by omega)
  have b3 := nm_lt hF (lo := lo) (a := p + 8) (n := 4) (by omega)
  have hk := lk_le F lo p
  have hlk : lk F lo p = if nm F lo (p + 2) 2 = 3 then 2 else 4 := rfl
  have hdl : (h + rc - 1) / rc ≤ h + rc - 1 := Nat.div_le_self _ _
  unfold f_X3_isList
  rw [show lN p + 2 = lN (p + 2) from lN_add p 2, show (2 : Int32) = nI 2 from rfl, pic_num pc hl (by omega) (by omega), bd_eq, show lN p + 4 = lN (p + 4) from lN_add p 4, show (4 : Int32) = nI 4 from rfl, pic_num pc hl (by omega) (by omega), bd_eq]
  generalize hns : (h + rc - 1) / rc = ns at hdl
  have t75 : nm F lo (p + 4) 4 = ns → ns ≤ 40 → (nm F lo (p + 2) 2 = 3 ∨ nm F lo (p + 2) 2 = 4) → ∃ b, f_X3_isList_75 (lN p) (nI (lk F lo p)) (lN (nm F lo (p + 4) 4)) c = some (cI b, c) ∧ (b = true ↔ lOk F lo sz ns p) := by
    intro h1 h2 h3
    unfold f_X3_isList_75
    have hm : ns * lk F lo p ≤ 40 * 4 := Nat.mul_le_mul h2 hk
    rw [h1, nI_l (by omega), show lN ns * lN (lk F lo p) = lN (ns * lk F lo p) from lN_mul _ _, lb_eq]
    by_cases z : ns * lk F lo p ≤ 4
    · rw [if_pos (show lg_cmp (lN (ns * lk F lo p)) 4 ≤ 0 from (cmpLE (by omega) 4 (by omega)).mpr z)]
      exact ⟨true, rfl, fun _ => ⟨h3, h1, h2, Or.inl z⟩, fun _ => rfl⟩
    · rw [if_neg (show ¬ lg_cmp (lN (ns * lk F lo p)) 4 ≤ 0 from fun y => z ((cmpLE (by omega) 4 (by omega)).mp y)), show lN p + 8 = lN (p + 8) from lN_add p 8, show (4 : Int32) = nI 4 from rfl, pic_num pc hl (by omega) (by omega), bd_eq, lN_add, pc.2.2.1, nI_l (by omega)]
      by_cases z2 : sz < nm F lo (p + 8) 4 + ns * lk F lo p
      · rw [if_pos ((cmpG (by omega) sz (by omega)).mpr z2)]
        exact ⟨false, rfl, fun y => (by cases y), fun y => y.2.2.2.elim (fun y => absurd y z) (fun y => by omega)⟩
      · rw [if_neg (fun y => z2 ((cmpG (by omega) sz (by omega)).mp y))]
        exact ⟨true, rfl, fun _ => ⟨h3, h1, h2, Or.inr (by omega)⟩, fun _ => rfl⟩
  have t39 : (nm F lo (p + 2) 2 = 3 ∨ nm F lo (p + 2) 2 = 4) → ∃ b, f_X3_isList_39 (lN p) (lN (nm F lo (p + 2) 2)) (lN (nm F lo (p + 4) 4)) c = some (cI b, c) ∧ (b = true ↔ lOk F lo sz ns p) := by
    intro h3
    unfold f_X3_isList_39
    rw [c_strips e1 e2 hh hr1 hr, bd_eq, hns]
    by_cases z : nm F lo (p + 4) 4 = ns
    · rw [if_pos ((cmpZ (by omega) ns (by omega)).mpr z)]
      by_cases z2 : ns ≤ 40
      · rw [if_pos (show lg_cmp (lN (nm F lo (p + 4) 4)) 40 ≤ 0 from (cmpLE (by omega) 40 (by omega)).mpr (by omega))]
        have := t75 z z2 h3
        by_cases z3 : nm F lo (p + 2) 2 = 3
        · rw [if_pos (show lg_cmp (lN (nm F lo (p + 2) 2)) 3 = 0 from (cmpZ (by omega) 3 (by omega)).mpr z3)]
          rw [show lk F lo p = 2 from by rw [hlk, if_pos z3]] at this
          exact this
        · rw [if_neg (show ¬ lg_cmp (lN (nm F lo (p + 2) 2)) 3 = 0 from fun y => z3 ((cmpZ (by omega) 3 (by omega)).mp y))]
          rw [show lk F lo p = 4 from by rw [hlk, if_neg z3]] at this
          exact this
      · rw [if_neg (show ¬ lg_cmp (lN (nm F lo (p + 4) 4)) 40 ≤ 0 from fun y => z2 (by have := (cmpLE (by omega) 40 (by omega)).mp y; omega))]
        exact ⟨false, rfl, fun y => (by cases y), fun y => absurd y.2.2.1 z2⟩
    · rw [if_neg (fun y => z ((cmpZ (by omega) ns (by omega)).mp y))]
      exact ⟨false, rfl, fun y => (by cases y), fun y => absurd y.2.1 z⟩
  by_cases z3 : nm F lo (p + 2) 2 = 3
  · rw [if_pos (show lg_cmp (lN (nm F lo (p + 2) 2)) 3 = 0 from (cmpZ (by omega) 3 (by omega)).mpr z3)]
    exact t39 (Or.inl z3)
  rw [if_neg (show ¬ lg_cmp (lN (nm F lo (p + 2) 2)) 3 = 0 from fun y => z3 ((cmpZ (by omega) 3 (by omega)).mp y))]
  by_cases z4 : nm F lo (p + 2) 2 = 4
  · rw [if_pos (show lg_cmp (lN (nm F lo (p + 2) 2)) 4 = 0 from (cmpZ (by omega) 4 (by omega)).mpr z4)]
    exact t39 (Or.inr z4)
  rw [if_neg (show ¬ lg_cmp (lN (nm F lo (p + 2) 2)) 4 = 0 from fun y => z4 ((cmpZ (by omega) 4 (by omega)).mp y))]
  exact ⟨false, rfl, fun y => (by cases y), fun y => y.1.elim (fun y => absurd y z3) (fun y => absurd y z4)⟩
/-- the reference writes a list's values down -/
theorem m_fill {st sz p ns : Nat} {F : Nat → Nat} {lo : Bool} {a3 a4 : Int32} {a5 : Int64} {k343 : Int32 → Int32 → Int64 → Int32 → Int32 → Mm → Option (Int32 × Mm)} (t ar : Nat) (ht : t = 273 ∧ ar = 172 ∨ t = 279 ∧ ar = 173) {m0 : Mm} (pm : PicM m0 st sz F) (hl : gI m0 1269 133 = cI (!lo)) (hp : p + 12 ≤ sz) (hns : ns ≤ 40) (hin : ns * lk F lo p ≤ 4 ∨ nm F lo (p + 8) 4 + ns * lk F lo p ≤ sz) (hc : nm F lo (p + 4) 4 = ns) : ∀ n i m, i ≤ ns → ns - i < n → Fr (fun _ _ => false) (fun b => b == ar) m0 m → (∀ s, s < i → gB m ar s = lN (lsv F lo p s)) → ∃ m', f_X12_directory_l482 k343 n a3 a4 a5 (nI ns) (nI t) (nI p) (nI i) m = k343 a3 a4 a5 (nI ns) (nI (t + 6)) m' ∧ Fr (fun _ _ => false) (fun b => b == ar) m0 m' ∧ ∀ s, s < ns → gB m' ar s = lN (lsv F lo p s) := by
  have hsz := pm.2.2.1
  intro n
  induction n with
  | zero => intro i m _ h; omega
  | succ n ih =>
    intro i m hi hn f hb
    have ev : f_X12_directory_l482 k343 (n + 1) a3 a4 a5 (nI ns) (nI t) (nI p) (nI i) m = f_X12_directory_b482 k343 (f_X12_directory_l482 k343 n) a3 a4 a5 (nI ns) (nI t) (nI p) (nI i) m := rfl
    rw [ev]
    unfold f_X12_directory_b482
    rcases Nat.lt_or_ge i ns with hlt | hge
    · have hin2 : lbs F lo p + i * lk F lo p + lk F lo p ≤ sz := by
        have h1 : (i + 1) * lk F lo p ≤ ns * lk F lo p := Nat.mul_le_mul_right _ hlt
        rw [Nat.add_mul, Nat.one_mul] at h1
        unfold lbs
        rw [hc]
        by_cases z : ns * lk F lo p ≤ 4
        · rw [if_pos z]; omega
        · rw [if_neg z]
          have := hin.resolve_left z
          omega
      have pm1 : PicM m st sz F := pm.fr f rfl rfl (by rcases ht with ⟨_, rfl⟩ | ⟨_, rfl⟩ <;> rfl)
      have hl1 : gI m 1269 133 = cI (!lo) := by rw [f.i rfl]; exact hl
      rw [if_neg (nI_ge hlt (by omega)), m_valueOf pm1 hl1 hp (by omega) hin2, bd_eq, bd_eq, ix_in (j := i) (nI_pos (by omega)) (nI_clamp (by omega)) (by omega), ix_in (j := i) (nI_pos (by omega)) (nI_clamp (by omega)) (by omega), lb_eq, lb_eq, nI_1]
      have nx : ∀ s, s < i + 1 → gB (uB m ar i (lN (lsv F lo p i))) ar s = lN (lsv F lo p s) := fun s hs => by
        rw [gB_uB]
        by_cases z : s = i
        · rw [if_pos ⟨rfl, z⟩, z]
        · rw [if_neg (fun y => z y.2)]; exact hb s (by omega)
      rcases ht with ⟨rfl, rfl⟩ | ⟨rfl, rfl⟩
      · rw [if_pos (show nI 273 = 273 from rfl)]
        exact ih (i + 1) _ hlt (by omega) (f.uB _ _ (by rfl)) nx
      · rw [if_neg (show ¬ nI 279 = 273 by decide)]
        exact ih (i + 1) _ hlt (by omega) (f.uB _ _ (by rfl)) nx
    · have : i = ns := by omega
      subst this
      rw [if_pos (nI_le (Nat.le_refl _) (by omega)), show nI t + 6 = nI (t + 6) from nI_add t 6]
      exact ⟨m, rfl, f, hb⟩
/-- one list, checked and written down -/
theorem m_list {m : Mm} {st sz p ns : Nat} {F : Nat → Nat} {lo : Bool} {a3 a4 : Int32} {a5 : Int64} (n t ar : Nat) (ht : t = 273 ∧ ar = 172 ∨ t = 279 ∧ ar = 173) (pm : PicM m st sz F) (hl : gI m 1269 133 = cI (!lo)) (hp : p + 12 ≤ sz) (hns : ns < 2 ^ 20) (hg : gA m 170 t = nI p) : (lOk F lo sz ns p → ∃ m', f_X12_directory_b343 (f_X12_directory_l343 n) a3 a4 a5 (nI ns) (nI t) m = f_X12_directory_l343 n a3 a4 a5 (nI ns) (nI (t + 6)) m' ∧ Fr (fun _ _ => false) (fun b => b == ar) m m' ∧ ∀ s, s < ns → gB m' ar s = lN (lsv F lo p s)) ∧ (¬ lOk F lo sz ns p → f_X12_directory_b343 (f_X12_directory_l343 n) a3 a4 a5 (nI ns) (nI t) m = some (0, uI (uI m 1243 133 4) 1245 133 (nI p))) := by
  have hF := pm.2.2.2.2
  have hsz := pm.2.2.1
  have b1 := nm_lt hF (lo := lo) (a := p + 2) (n := 2) (by omega)
  have b2 := nm_lt hF (lo := lo) (a := p + 4) (n := 4) (by omega)
  have b3 := nm_lt hF (lo := lo) (a := p + 8) (n := 4) (by omega)
  have hk := lk_le F lo p
  have hlk : lk F lo p = if nm F lo (p + 2) 2 = 3 then 2 else 4 := rfl
  have ht4 : t < 400 ∧ ¬ (279 : Int32) < nI t := by rcases ht with ⟨rfl, _⟩ | ⟨rfl, _⟩ <;> decide
  have t416 : (nm F lo (p + 2) 2 = 3 ∨ nm F lo (p + 2) 2 = 4) → (lOk F lo sz ns p → ∃ m', f_X12_directory_416 (f_X12_directory_l343 n) a3 a4 a5 (nI ns) (nI t) (nI p) (lN (nm F lo (p + 4) 4)) (nI (lk F lo p)) m = f_X12_directory_l343 n a3 a4 a5 (nI ns) (nI (t + 6)) m' ∧ Fr (fun _ _ => false) (fun b => b == ar) m m' ∧ ∀ s, s < ns → gB m' ar s = lN (lsv F lo p s)) ∧ (¬ lOk F lo sz ns p → f_X12_directory_416 (f_X12_directory_l343 n) a3 a4 a5 (nI ns) (nI t) (nI p) (lN (nm F lo (p + 4) 4)) (nI (lk F lo p)) m = some (0, uI (uI m 1243 133 4) 1245 133 (nI p))) := by
    intro h3
    unfold f_X12_directory_416
    rw [nI_l (by omega)]
    by_cases z : nm F lo (p + 4) 4 = ns
    · rw [if_pos ((cmpZ (by omega) ns (by omega)).mpr z)]
      by_cases z2 : ns ≤ 40
      · have hm : ns * lk F lo p ≤ 40 * 4 := Nat.mul_le_mul z2 hk
        rw [if_neg (show ¬ (40 : Int32) < nI ns from nI_nlt (a := 40) (b := ns) z2 (by omega)), z, nI_l (by omega), show lN ns * lN (lk F lo p) = lN (ns * lk F lo p) from lN_mul _ _]
        have fl : (ns * lk F lo p ≤ 4 ∨ nm F lo (p + 8) 4 + ns * lk F lo p ≤ sz) → ∃ m', f_X12_directory_l482 (f_X12_directory_l343 n) FU a3 a4 a5 (nI ns) (nI t) (nI p) 0 m = f_X12_directory_l343 n a3 a4 a5 (nI ns) (nI (t + 6)) m' ∧ Fr (fun _ _ => false) (fun b => b == ar) m m' ∧ ∀ s, s < ns → gB m' ar s = lN (lsv F lo p s) := fun hin => m_fill t ar ht pm hl hp z2 hin z FU 0 m (by omega) (FU_gt (by omega)) Fr.refl (fun s hs => by omega)
        by_cases z3 : ns * lk F lo p ≤ 4
        · rw [if_pos (show lg_cmp (lN (ns * lk F lo p)) 4 ≤ 0 from (cmpLE (by omega) 4 (by omega)).mpr z3)]
          exact ⟨fun _ => fl (Or.inl z3), fun y => absurd ⟨h3, z, z2, Or.inl z3⟩ y⟩
        · rw [if_neg (show ¬ lg_cmp (lN (ns * lk F lo p)) 4 ≤ 0 from fun y => z3 ((cmpLE (by omega) 4 (by omega)).mp y)), show nI p + 8 = nI (p + 8) from nI_add p 8, show (4 : Int32) = nI 4 from rfl, picm_num pm hl (by omega) (by omega), bd_eq, lN_add, pm.2.1, nI_l (by omega)]
          by_cases z4 : nm F lo (p + 8) 4 + ns * lk F lo p ≤ sz
          · rw [if_pos ((cmpLE (by omega) sz (by omega)).mpr z4)]
            exact ⟨fun _ => fl (Or.inr z4), fun y => absurd ⟨h3, z, z2, Or.inr z4⟩ y⟩
          · rw [if_neg (fun y => z4 ((cmpLE (by omega) sz (by omega)).mp y))]
            exact ⟨fun y => y.2.2.2.elim (fun y => absurd y z3) (fun y => absurd y z4), fun _ => rfl⟩
      · rw [if_pos (show (40 : Int32) < nI ns from nI_lt (a := 40) (b := ns) (by omega) (by omega))]
        exact ⟨fun y => absurd y.2.2.1 z2, fun _ => rfl⟩
    · rw [if_neg (fun y => z ((cmpZ (by omega) ns (by omega)).mp y))]
      exact ⟨fun y => absurd y.2.1 z, fun _ => rfl⟩
  unfold f_X12_directory_b343
  rw [if_neg ht4.2, ix_in (j := t) (nI_pos (by omega)) (nI_clamp (by omega)) ht4.1, hg, lb_eq, show nI p + 2 = nI (p + 2) from nI_add p 2, show (2 : Int32) = nI 2 from rfl, picm_num pm hl (by omega) (by omega), bd_eq, show nI p + 4 = nI (p + 4) from nI_add p 4, show (4 : Int32) = nI 4 from rfl, picm_num pm hl (by omega) (by omega), bd_eq]
  by_cases z3 : nm F lo (p + 2) 2 = 3
  · have hl2 : lk F lo p = 2 := by rw [hlk, if_pos z3]
    rw [hl2] at t416
    rw [if_pos (show lg_cmp (lN (nm F lo (p + 2) 2)) 3 = 0 from (cmpZ (by omega) 3 (by omega)).mpr z3)]
    unfold f_X12_directory_396
    rw [if_pos (show lg_cmp (lN (nm F lo (p + 2) 2)) 3 = 0 from (cmpZ (by omega) 3 (by omega)).mpr z3)]
    exact t416 (Or.inl z3)
  have hl4 : lk F lo p = 4 := by rw [hlk, if_neg z3]
  rw [hl4] at t416
  rw [if_neg (show ¬ lg_cmp (lN (nm F lo (p + 2) 2)) 3 = 0 from fun y => z3 ((cmpZ (by omega) 3 (by omega)).mp y))]
  unfold f_X12_directory_396
  rw [if_neg (show ¬ lg_cmp (lN (nm F lo (p + 2) 2)) 3 = 0 from fun y => z3 ((cmpZ (by omega) 3 (by omega)).mp y))]
  by_cases z4 : nm F lo (p + 2) 2 = 4
  · rw [if_pos (show lg_cmp (lN (nm F lo (p + 2) 2)) 4 = 0 from (cmpZ (by omega) 4 (by omega)).mpr z4)]
    exact t416 (Or.inr z4)
  rw [if_neg (show ¬ lg_cmp (lN (nm F lo (p + 2) 2)) 4 = 0 from fun y => z4 ((cmpZ (by omega) 4 (by omega)).mp y))]
  exact ⟨fun y => y.1.elim (fun y => absurd y z3) (fun y => absurd y z4), fun _ => rfl⟩
