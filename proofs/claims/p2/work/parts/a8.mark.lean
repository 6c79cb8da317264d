/-! Ink and mark, on both sides. -/
def cInF (f i : Nat) : Bool := i == 24 && (f == 10 || f == 11 || f == 12 || f == 13 || f == 14)
def cMkF (f i : Nat) : Bool := i == 24 && (f == 2 || f == 3 || f == 4 || f == 5 || f == 6 || f == 7 || f == 8 || f == 9)
def mMkF (f i : Nat) : Bool := i == 133 && (f == 1233 || f == 1235 || f == 1236 || f == 1249)
def noA (_ : Nat) : Bool := false
def mM0 (f i : Nat) : Bool := i == 133 && (f == 1235 || f == 1236 || f == 1249)
def isPo (g L : Nat → Int32) : Bool := decide (g 50 = 1) || decide (L 0 = 1)
section A8
variable {c c' c1 c2 m m' m1 m2 : Mm} {g L : Nat → Int32} {PA : Nat → Bool}
theorem b01 {v : Int32} {n : Nat} (h : v = nI n) (h1 : n ≤ 1) : v = cI (decide (v = 1)) := by
  rcases (show n = 0 ∨ n = 1 by omega) with rfl | rfl
  · rw [h]; rfl
  · rw [h]; rfl
theorem c_ink {t : Nat} (v : EVq c 45 g) (b : EB g) (q : TR c t L) : ∃ c', f_X0_ink t 45 c = some ((), c') ∧ Fr cInF noA c c' ∧ gR c' 10 24 = some t ∧ gI c' 11 24 = g 51 ∧ gI c' 12 24 = g 52 ∧ gI c' 13 24 = fI (decide (g 49 = 1)) ∧ gI c' 14 24 = fI (isPo g L) := by
  obtain ⟨_, w, h, _, _, _, _, _, _, q7, _, _⟩ := q
  obtain ⟨s, s1, s2⟩ := b.k49
  obtain ⟨p, p1, p2⟩ := b.k50
  have e110 : gI c 110 45 = g 49 := v.i (110, 0, 49) (by decide)
  have e111 : gI c 111 45 = g 50 := v.i (111, 0, 50) (by decide)
  have e112 : gI c 112 45 = g 51 := v.i (112, 0, 51) (by decide)
  have e113 : gI c 113 45 = g 52 := v.i (113, 0, 52) (by decide)
  have go : ∀ (x : Int32) (T : Mm), Fr cInF noA c T → gR T 10 24 = some t → gI T 11 24 = g 51 → gI T 12 24 = g 52 → x = fI (decide (g 49 = 1)) → ∃ c', f_X0_ink_34 t 45 x T = some ((), c') ∧ Fr cInF noA c c' ∧ gR c' 10 24 = some t ∧ gI c' 11 24 = g 51 ∧ gI c' 12 24 = g 52 ∧ gI c' 13 24 = fI (decide (g 49 = 1)) ∧ gI c' 14 24 = fI (isPo g L) := by
    intro x T f1 f2 f3 f4 hx
    have f5 := f1.uI (f := 13) (i := 24) x (by rfl)
    have u1 : gR (uI T 13 24 x) 10 24 = some t := f2
    have u2 : gI (uI T 13 24 x) 11 24 = g 51 := by rw [gI_uI, if_neg (by decide)]; exact f3
    have u3 : gI (uI T 13 24 x) 12 24 = g 52 := by rw [gI_uI, if_neg (by decide)]; exact f4
    have u4 : gI (uI T 13 24 x) 13 24 = x := by rw [gI_uI, if_pos ⟨rfl, rfl⟩]
    unfold f_X0_ink_34
    rw [lb_eq]
    generalize uI T 13 24 x = T1 at f5 u1 u2 u3 u4
    have fin : ∀ y : Int32, y = fI (isPo g L) → ∃ c', (lb (uI T1 14 24 y) fun T3 => some ((), T3)) = some ((), c') ∧ Fr cInF noA c c' ∧ gR c' 10 24 = some t ∧ gI c' 11 24 = g 51 ∧ gI c' 12 24 = g 52 ∧ gI c' 13 24 = fI (decide (g 49 = 1)) ∧ gI c' 14 24 = fI (isPo g L) := fun y hy => ⟨_, rfl, f5.uI _ (by rfl), u1, by rw [gI_uI, if_neg (by decide)]; exact u2, by rw [gI_uI, if_neg (by decide)]; exact u3, by rw [gI_uI, if_neg (by decide), u4]; exact hx, by rw [gI_uI, if_pos ⟨rfl, rfl⟩]; exact hy⟩
    rw [f5.i (show cInF 111 45 = false from rfl), e111]
    rcases (show p = 0 ∨ p = 1 by omega) with rfl | rfl
    · rw [p1, if_pos (by rfl)]
      have ht : gI T1 1002 t = gI c 1002 t := f5.i (by simp [cInF])
      have hpo : isPo g L = decide (L 0 = 1) := by unfold isPo; rw [p1]; rfl
      rw [ht, q7]
      cases hz : decide (L 0 = 1)
      · rw [if_pos (by rfl)]
        exact fin 0 (by rw [hpo, hz]; rfl)
      · rw [if_neg (by decide)]
        exact fin (-1) (by rw [hpo, hz]; rfl)
    · rw [p1, if_neg (by decide)]
      exact fin (-1) (by unfold isPo; rw [p1]; rfl)
  have f3 : Fr cInF noA c (uI (uI (uR c 10 24 (some t)) 11 24 (g 51)) 12 24 (g 52)) := ((Fr.refl.uR _ (by rfl)).uI _ (by rfl)).uI _ (by rfl)
  unfold f_X0_ink
  rw [lb_eq, show gI (uR c 10 24 (some t)) 112 45 = g 51 from e112, lb_eq, show gI (uI (uR c 10 24 (some t)) 11 24 (g 51)) 113 45 = g 52 from e113, lb_eq, f3.i (show cInF 110 45 = false from rfl), e110]
  have z1 : gR (uI (uI (uR c 10 24 (some t)) 11 24 (g 51)) 12 24 (g 52)) 10 24 = some t := by
    show gR (uR c 10 24 (some t)) 10 24 = some t
    rw [gR_uR, if_pos ⟨rfl, rfl⟩]
  have z2 : gI (uI (uI (uR c 10 24 (some t)) 11 24 (g 51)) 12 24 (g 52)) 11 24 = g 51 := by rw [gI_uI, if_neg (by decide), gI_uI, if_pos ⟨rfl, rfl⟩]
  have z3 : gI (uI (uI (uR c 10 24 (some t)) 11 24 (g 51)) 12 24 (g 52)) 12 24 = g 52 := by rw [gI_uI, if_pos ⟨rfl, rfl⟩]
  rcases (show s = 0 ∨ s = 1 by omega) with rfl | rfl
  · rw [if_pos (by rw [s1]; rfl)]
    exact go 0 _ f3 z1 z2 z3 (by rw [s1]; rfl)
  · rw [if_neg (by rw [s1]; decide)]
    exact go (-1) _ f3 z1 z2 z3 (by rw [s1]; rfl)
/-! mark -/
theorem max_iz {a b : Int} (h1 : -1073741824 ≤ a) (h2 : a < 1073741824) (h3 : -1073741824 ≤ b) (h4 : b < 1073741824) : (if iz a < iz b then iz b else iz a) = iz (if a < b then b else a) := by
  by_cases q : a < b
  · rw [if_pos q, if_pos ((iz_lt (by omega) (by omega) (by omega) (by omega)).mpr q)]
  · rw [if_neg q, if_neg (fun y => q ((iz_lt (by omega) (by omega) (by omega) (by omega)).mp y))]
theorem min_iz {a b : Int} (h1 : -1073741824 ≤ a) (h2 : a < 1073741824) (h3 : -1073741824 ≤ b) (h4 : b < 1073741824) : (if iz b < iz a then iz b else iz a) = iz (if b < a then b else a) := by
  by_cases q : b < a
  · rw [if_pos q, if_pos ((iz_lt (by omega) (by omega) (by omega) (by omega)).mpr q)]
  · rw [if_neg q, if_neg (fun y => q ((iz_lt (by omega) (by omega) (by omega) (by omega)).mp y))]
def mx0 (a : Int) : Int := if a < 0 then 0 else a
theorem mx0_0 {a : Int} (h : a ≤ 0) : mx0 a = 0 := by unfold mx0; split <;> omega
def mnW (a : Int) (W : Nat) : Int := if (W : Int) < a then W else a
def dts (x y w h : Int) (W H : Nat) : Int := mx0 (mnW (x + w) W - mx0 x) * mx0 (mnW (y + h) H - mx0 y)
theorem dts_b {x y w h : Int} {W H : Nat} (hW : W ≤ 800) (hH : H ≤ 800) : 0 ≤ dts x y w h W H ∧ dts x y w h W H ≤ 640000 := by
  have a1 : 0 ≤ mx0 (mnW (x + w) W - mx0 x) ∧ mx0 (mnW (x + w) W - mx0 x) ≤ 800 := by unfold mx0 mnW; split <;> split <;> split <;> omega
  have a2 : 0 ≤ mx0 (mnW (y + h) H - mx0 y) ∧ mx0 (mnW (y + h) H - mx0 y) ≤ 800 := by unfold mx0 mnW; split <;> split <;> split <;> omega
  unfold dts
  exact ⟨Int.mul_nonneg a1.1 a2.1, by
    have := Int.mul_le_mul a1.2 a2.2 a2.1 (by omega : (0 : Int) ≤ 800)
    omega⟩
theorem f_mx0 {a : Int} {T : Mm} (h1 : -1073741824 ≤ a) (h2 : a < 1073741824) : f_J9_max_7cf53 (iz a) 0 T = some (iz (mx0 a), T) := by
  rw [f_max, show (0 : Int32) = iz 0 from rfl, max_iz h1 h2 (by omega) (by omega)]; rfl
theorem f_mnW {a : Int} {W : Nat} {T : Mm} (h1 : -1073741824 ≤ a) (h2 : a < 1073741824) (h3 : W < 1073741824) : f_J9_min_7cf53 (iz a) (nI W) T = some (iz (mnW a W), T) := by
  rw [f_min, nI_iz, min_iz h1 h2 (by omega) (by omega)]; rfl
def MkQ (c m : Mm) (g : Nat → Int32) (k : Nat) (x y w h : Int) : Int32 → Mm → Int32 → Mm → Prop := fun rc c' rm m' => Fr cMkF noA c c' ∧ Fr mMkF noA m m' ∧ ((rm = 0 ∧ rc = 0 ∧ gI c' 5 24 = 1 ∧ gI m' 1233 133 = 1) ∨ (rm = 1 ∧ Fr mM0 noA m m' ∧ ∃ v', CV c' m' g (k + 1) v' ∧ ((rc = 0 ∧ ∀ X Y : Nat, X < lgW g → Y < lgH g → ¬ ((x ≤ X ∧ (X : Int) < x + w) ∧ (y ≤ Y ∧ (Y : Int) < y + h))) ∨ (rc = 1 ∧ ∃ fx tx fy ty : Nat, fx < tx ∧ tx ≤ lgW g ∧ fy < ty ∧ ty ≤ lgH g ∧ gI c' 6 24 = nI fx ∧ gI c' 7 24 = nI tx ∧ gI c' 8 24 = nI fy ∧ gI c' 9 24 = nI ty ∧ ∀ X Y : Nat, X < lgW g → Y < lgH g → (((x ≤ X ∧ (X : Int) < x + w) ∧ (y ≤ Y ∧ (Y : Int) < y + h)) ↔ (fx ≤ X ∧ X < tx) ∧ (fy ≤ Y ∧ Y < ty))))))
theorem jle {α : Type} {a : Int} (h1 : -4611686018427387904 ≤ a) (h2 : a < 4611686018427387904) (u v : α) : (if lg_cmp (jz a) 0 ≤ 0 then u else v) = if a ≤ 0 then u else v := by
  have e : lg_cmp (jz a) 0 ≤ 0 ↔ a ≤ 0 := by rw [c_le, show (0 : Int64) = jz 0 from rfl]; exact jz_le (by omega) (by omega) (by omega) (by omega)
  by_cases q : a ≤ 0
  · rw [if_pos q, if_pos (e.mpr q)]
  · rw [if_neg q, if_neg (fun y => q (e.mp y))]
theorem m_109 {D : Int} {k v : Nat} (h1 : gI m 1235 133 = nI k) (hk : k ≤ 2000) (h2 : gJ m 1249 133 = lN v) (hv : v ≤ 5000000) (d1 : 0 ≤ D) (d2 : D ≤ 640000) : f_X12_mark_109 (jz D) m = if k = 2000 ∨ 5000000 < v + D then some (0, uI m 1233 133 1) else some (1, uI (uI (uJ m 1249 133 (jz (v + D))) 1235 133 (nI (k + 1))) 1236 133 (gI m 1236 133 + 1)) := by
  have lz : lN v = jz (v : Int) := jz_lit v
  unfold f_X12_mark_109
  rw [h1, h2, lz, jz_add]
  by_cases q : k = 2000
  · rw [if_pos (by rw [q]; rfl), if_pos (Or.inl q), lb_eq]
  · rw [if_neg (show ¬ nI k = 2000 from fun y => q ((nI_eq (b := 2000) (by omega) (by omega)).mp y)), show (5000000 : Int64) = jz 5000000 from rfl]
    by_cases z : 5000000 < v + D
    · rw [if_neg (fun y => by rw [c_le, jz_le (by omega) (by omega) (by omega) (by omega)] at y; omega), if_pos (Or.inr z), lb_eq]
    · rw [if_pos (by rw [c_le, jz_le (by omega) (by omega) (by omega) (by omega)]; omega), if_neg (by omega), lb_eq, lb_eq, lb_eq, show gI (uJ m 1249 133 (jz (v + D))) 1235 133 = nI k from h1, show nI k + 1 = nI (k + 1) from nI_add k 1]
      rfl
theorem m_mark {x y w h : Int} {k v W H : Nat} (hWe : lgW (gA m 134) = W) (hHe : lgH (gA m 134) = H) (h1 : gI m 1235 133 = nI k) (hk : k ≤ 2000) (h2 : gJ m 1249 133 = lN v) (hv : v ≤ 5000000) (x1 : -1000000 ≤ x) (x2 : x ≤ 1000000) (y1 : -1000000 ≤ y) (y2 : y ≤ 1000000) (w1 : 0 ≤ w) (w2 : w ≤ 1000000) (z1 : 0 ≤ h) (z2 : h ≤ 1000000) : f_X12_mark (jz x) (jz y) (jz w) (jz h) m = if k = 2000 ∨ 5000000 < v + dts x y w h W H then some (0, uI m 1233 133 1) else some (1, uI (uI (uJ m 1249 133 (jz (v + dts x y w h W H))) 1235 133 (nI (k + 1))) 1236 133 (gI m 1236 133 + 1)) := by
  have hW := lgW_le (gA m 134)
  have hH := lgH_le (gA m 134)
  rw [hWe] at hW
  rw [hHe] at hH
  have db := dts_b (x := x) (y := y) (w := w) (h := h) hW.1 hH.1
  rw [← m_109 h1 hk h2 hv db.1 db.2]
  have e83 : ∀ a p q : Int, -10000000 ≤ a → a ≤ 10000000 → -10000000 ≤ p → p ≤ 10000000 → -10000000 ≤ q → q ≤ 10000000 → f_X12_mark_83 (jz a) (jz p) (jz q) m = f_X12_mark_109 (jz (mx0 a * mx0 (q - p))) m := fun a p q b1 b2 b3 b4 b5 b6 => by
    unfold f_X12_mark_83
    rw [jz_sub, lb_eq, jle (by omega) (by omega), jle (by omega) (by omega)]
    by_cases u : a ≤ 0
    · rw [if_pos u, show mx0 a = 0 by unfold mx0; split <;> omega, Int.zero_mul]; rfl
    · rw [if_neg u]
      by_cases t : q - p ≤ 0
      · rw [if_pos t, show mx0 (q - p) = 0 by unfold mx0; split <;> omega, Int.mul_zero]; rfl
      · rw [if_neg t, jz_mul, show mx0 a = a by unfold mx0; split <;> omega, show mx0 (q - p) = q - p by unfold mx0; split <;> omega]
  have e67 : ∀ p q r : Int, -10000000 ≤ p → p ≤ 3000000 → -3000000 ≤ q → q ≤ 3000000 → -3000000 ≤ r → r ≤ 3000000 → -3000000 ≤ p → f_X12_mark_67 (jz y) (jz q) (jz p) (jz r) m = f_X12_mark_109 (jz (mx0 (r - p) * mx0 (q - mx0 y))) m := fun p q r b1 b2 b3 b4 b5 b6 b7 => by
    unfold f_X12_mark_67
    rw [jz_sub, lb_eq, jle (by omega) (by omega)]
    by_cases u : y ≤ 0
    · rw [if_pos u, show (0 : Int64) = jz 0 from rfl, e83 _ _ _ (by omega) (by omega) (by omega) (by omega) (by omega) (by omega), show mx0 y = 0 by unfold mx0; split <;> omega]
    · rw [if_neg u, e83 _ _ _ (by omega) (by omega) (by omega) (by omega) (by omega) (by omega), show mx0 y = y by unfold mx0; split <;> omega]
  have e52 : ∀ q r : Int, -3000000 ≤ q → q ≤ 3000000 → -3000000 ≤ r → r ≤ 3000000 → f_X12_mark_52 (jz x) (jz y) (jz r) (jz q) m = f_X12_mark_109 (jz (mx0 (r - mx0 x) * mx0 (q - mx0 y))) m := fun q r b1 b2 b3 b4 => by
    unfold f_X12_mark_52
    rw [jle (by omega) (by omega)]
    by_cases u : x ≤ 0
    · rw [if_pos u, show (0 : Int64) = jz 0 from rfl, e67 _ _ _ (by omega) (by omega) (by omega) (by omega) (by omega) (by omega) (by omega), show mx0 x = 0 by unfold mx0; split <;> omega]
    · rw [if_neg u, e67 _ _ _ (by omega) (by omega) (by omega) (by omega) (by omega) (by omega) (by omega), show mx0 x = x by unfold mx0; split <;> omega]
  have jge : ∀ (a : Int) (N : Nat), -10000000 ≤ a → a ≤ 10000000 → N ≤ 800 → ∀ {α : Type} (u v : α), (if 0 ≤ lg_cmp (jz a) (nI N).toInt64 then u else v) = if (N : Int) ≤ a then u else v := fun a N b1 b2 b3 α u v => by
    have e : 0 ≤ lg_cmp (jz a) (nI N).toInt64 ↔ (N : Int) ≤ a := by rw [c_ge, nI_j (by omega)]; exact jz_le (by omega) (by omega) (by omega) (by omega)
    by_cases q : (N : Int) ≤ a
    · rw [if_pos q, if_pos (e.mpr q)]
    · rw [if_neg q, if_neg (fun y => q (e.mp y))]
  have e25 : ∀ r : Int, -3000000 ≤ r → r ≤ 3000000 → f_X12_mark_25 (jz x) (jz y) (jz h) (jz r) m = f_X12_mark_109 (jz (mx0 (r - mx0 x) * mx0 (mnW (y + h) H - mx0 y))) m := fun r b1 b2 => by
    unfold f_X12_mark_25
    rw [m_high, bd_eq, hHe, jz_add, jge _ _ (by omega) (by omega) (by omega), m_high, bd_eq, hHe]
    by_cases u : (H : Int) ≤ y + h
    · rw [if_pos u, nI_j (by omega), e52 _ _ (by omega) (by omega) b1 b2, show mnW (y + h) H = H by unfold mnW; split <;> omega]
    · rw [if_neg u, e52 _ _ (by omega) (by omega) b1 b2, show mnW (y + h) H = y + h by unfold mnW; split <;> omega]
  unfold f_X12_mark dts
  rw [m_wide, bd_eq, hWe, jz_add, jge _ _ (by omega) (by omega) (by omega), m_wide, bd_eq, hWe]
  by_cases u : (W : Int) ≤ x + w
  · rw [if_pos u, nI_j (by omega), e25 _ (by omega) (by omega), show mnW (x + w) W = W by unfold mnW; split <;> omega]
  · rw [if_neg u, e25 _ (by omega) (by omega), show mnW (x + w) W = x + w by unfold mnW; split <;> omega]
theorem SF.o {s f i : Nat} {v : Int32} (h : SF c s g) (e : i ≠ s) : SF (uI c f i v) s g := ⟨by rw [gI_uI, if_neg (fun z => e z.2.symm)]; exact h.1, by rw [gI_uI, if_neg (fun z => e z.2.symm)]; exact h.2.1, h.2.2⟩
theorem c_mark {x y w h : Int} {k v : Nat} (sf : SF c 46 g) (h1 : gI c 2 24 = nI k) (hk : k ≤ 2000) (h2 : gI c 4 24 = nI v) (hv : v ≤ 5000000) (x1 : -1000000 ≤ x) (x2 : x ≤ 1000000) (y1 : -1000000 ≤ y) (y2 : y ≤ 1000000) (w1 : 0 ≤ w) (w2 : w ≤ 1000000) (z1 : 0 ≤ h) (z2 : h ≤ 1000000) : ∃ c', Fr cMkF noA c c' ∧ gI c' 6 24 = iz (mx0 x) ∧ gI c' 7 24 = iz (mnW (x + w) (lgW g)) ∧ gI c' 8 24 = iz (mx0 y) ∧ gI c' 9 24 = iz (mnW (y + h) (lgH g)) ∧ ((5000000 < v + dts x y w h (lgW g) (lgH g) ∨ k = 2000) ∧ gI c' 5 24 = 1 ∧ f_X0_mark 46 (iz x) (iz y) (iz w) (iz h) c = some (0, c') ∨ (¬ (5000000 < v + dts x y w h (lgW g) (lgH g) ∨ k = 2000) ∧ gI c' 5 24 = gI c 5 24 ∧ gI c' 2 24 = nI (k + 1) ∧ gI c' 4 24 = iz (v + dts x y w h (lgW g) (lgH g)) ∧ f_X0_mark 46 (iz x) (iz y) (iz w) (iz h) c = some (cI (decide (0 < dts x y w h (lgW g) (lgH g))), c'))) := by
  have hW := lgW_le g
  have hH := lgH_le g
  have db := dts_b (x := x) (y := y) (w := w) (h := h) hW.1 hH.1
  have m1 : 0 ≤ mx0 x ∧ mx0 x ≤ 1000000 := by unfold mx0; split <;> omega
  have m2 : 0 ≤ mx0 y ∧ mx0 y ≤ 1000000 := by unfold mx0; split <;> omega
  have m3 : -2000000 ≤ mnW (x + w) (lgW g) ∧ mnW (x + w) (lgW g) ≤ 800 := by unfold mnW; split <;> omega
  have m4 : -2000000 ≤ mnW (y + h) (lgH g) ∧ mnW (y + h) (lgH g) ≤ 800 := by unfold mnW; split <;> omega
  have n1 : 0 ≤ mx0 (mnW (x + w) (lgW g) - mx0 x) ∧ mx0 (mnW (x + w) (lgW g) - mx0 x) ≤ 800 := by
    unfold mx0 at m1 ⊢
    split <;> split at m1 <;> omega
  have n2 : 0 ≤ mx0 (mnW (y + h) (lgH g) - mx0 y) ∧ mx0 (mnW (y + h) (lgH g) - mx0 y) ≤ 800 := by
    unfold mx0 at m2 ⊢
    split <;> split at m2 <;> omega
  obtain ⟨c4, hc4⟩ : ∃ c4, c4 = uI (uI (uI (uI c 6 24 (iz (mx0 x))) 7 24 (iz (mnW (x + w) (lgW g)))) 8 24 (iz (mx0 y))) 9 24 (iz (mnW (y + h) (lgH g))) := ⟨_, rfl⟩
  have f4 : Fr (fun f i => i == 24 && (f == 6 || f == 7 || f == 8 || f == 9)) noA c c4 := by rw [hc4]; exact (((Fr.refl.uI _ (by rfl)).uI _ (by rfl)).uI _ (by rfl)).uI _ (by rfl)
  have f4' : Fr cMkF noA c c4 := f4.weak (fun f i e => by unfold cMkF at e; revert e; simp; omega) (fun _ e => e)
  have r6 : gI c4 6 24 = iz (mx0 x) := by rw [hc4, gI_uI, if_neg (by decide), gI_uI, if_neg (by decide), gI_uI, if_neg (by decide), gI_uI, if_pos ⟨rfl, rfl⟩]
  have r7 : gI c4 7 24 = iz (mnW (x + w) (lgW g)) := by rw [hc4, gI_uI, if_neg (by decide), gI_uI, if_neg (by decide), gI_uI, if_pos ⟨rfl, rfl⟩]
  have r8 : gI c4 8 24 = iz (mx0 y) := by rw [hc4, gI_uI, if_neg (by decide), gI_uI, if_pos ⟨rfl, rfl⟩]
  have r9 : gI c4 9 24 = iz (mnW (y + h) (lgH g)) := by rw [hc4, gI_uI, if_pos ⟨rfl, rfl⟩]
  have pre : f_X0_mark 46 (iz x) (iz y) (iz w) (iz h) c = (if (iz (v + dts x y w h (lgW g) (lgH g)) : Int32) ≤ 5000000 then (lb (uI c4 4 24 (iz (v + dts x y w h (lgW g) (lgH g)))) fun T22 => lb (uI T22 3 24 ((gI T22 3 24) + 1)) fun T23 => lb (uI T23 2 24 ((gI T23 2 24) + 1)) fun T24 => if (gI T24 2 24) ≤ 2000 then (if iz (dts x y w h (lgW g) (lgH g)) ≤ 0 then (some (0, T24)) else (some (1, T24))) else (lb (uI T24 5 24 1) fun T25 => some (0, T25))) else (lb (uI c4 5 24 1) fun T26 => some (0, T26))) := by
    have s1 : SF (uI c 6 24 (iz (mx0 x))) 46 g := sf.o (by decide)
    have s2 : SF (uI (uI (uI c 6 24 (iz (mx0 x))) 7 24 (iz (mnW (x + w) (lgW g)))) 8 24 (iz (mx0 y))) 46 g := ((sf.o (by decide)).o (by decide)).o (by decide)
    have e4 : gI c4 4 24 = iz v := by rw [f4.i (by rfl), h2, nI_iz]
    unfold f_X0_mark
    rw [f_mx0 (by omega) (by omega), bd_eq, lb_eq, c_dac s1, bd_eq, iz_add, f_mnW (by omega) (by omega) (by omega), bd_eq, lb_eq, f_mx0 (by omega) (by omega), bd_eq, lb_eq, c_dd s2, bd_eq, iz_add, f_mnW (by omega) (by omega) (by omega), bd_eq, lb_eq, ← hc4, r6, r7, iz_sub, f_mx0 (by omega) (by omega), bd_eq, r8, r9, iz_sub, f_mx0 (by omega) (by omega), bd_eq, iz_mul, lb_eq, e4, show mx0 (mnW (x + w) (lgW g) - mx0 x) * mx0 (mnW (y + h) (lgH g) - mx0 y) = dts x y w h (lgW g) (lgH g) from rfl, iz_add]
  have le5 : (iz (v + dts x y w h (lgW g) (lgH g)) : Int32) ≤ 5000000 ↔ ¬ 5000000 < v + dts x y w h (lgW g) (lgH g) := by
    rw [show (5000000 : Int32) = iz 5000000 from rfl, iz_le (by omega) (by omega) (by omega) (by omega)]; omega
  by_cases q : 5000000 < v + dts x y w h (lgW g) (lgH g)
  · refine ⟨uI c4 5 24 1, f4'.uI _ (by rfl), ?_, ?_, ?_, ?_, Or.inl ⟨Or.inl q, by rw [gI_uI, if_pos ⟨rfl, rfl⟩], ?_⟩⟩
    · rw [gI_uI, if_neg (by decide)]; exact r6
    · rw [gI_uI, if_neg (by decide)]; exact r7
    · rw [gI_uI, if_neg (by decide)]; exact r8
    · rw [gI_uI, if_neg (by decide)]; exact r9
    · rw [pre, if_neg (fun z => (le5.mp z) q), lb_eq]
  · rw [pre, if_pos (le5.mpr q), lb_eq, lb_eq, lb_eq]
    have e2 : gI (uI (uI c4 4 24 (iz (v + dts x y w h (lgW g) (lgH g)))) 3 24 (gI (uI c4 4 24 (iz (v + dts x y w h (lgW g) (lgH g)))) 3 24 + 1)) 2 24 + 1 = nI (k + 1) := by rw [gI_uI, if_neg (by decide), gI_uI, if_neg (by decide), f4.i (by rfl), h1]; exact nI_add k 1
    rw [e2]
    obtain ⟨c7, hc7⟩ : ∃ c7, c7 = uI (uI (uI c4 4 24 (iz (v + dts x y w h (lgW g) (lgH g)))) 3 24 (gI (uI c4 4 24 (iz (v + dts x y w h (lgW g) (lgH g)))) 3 24 + 1)) 2 24 (nI (k + 1)) := ⟨_, rfl⟩
    rw [← hc7]
    have f7 : Fr (fun f i => i == 24 && (f == 2 || f == 3 || f == 4)) noA c4 c7 := by rw [hc7]; exact ((Fr.refl.uI _ (by rfl)).uI _ (by rfl)).uI _ (by rfl)
    have f7' : Fr cMkF noA c c7 := f4'.trans (f7.weak (fun f i e => by unfold cMkF at e; revert e; simp; omega) (fun _ e => e))
    have g2 : gI c7 2 24 = nI (k + 1) := by rw [hc7, gI_uI, if_pos ⟨rfl, rfl⟩]
    have g4 : gI c7 4 24 = iz (v + dts x y w h (lgW g) (lgH g)) := by rw [hc7, gI_uI, if_neg (by decide), gI_uI, if_neg (by decide), gI_uI, if_pos ⟨rfl, rfl⟩]
    have g5 : gI c7 5 24 = gI c 5 24 := by rw [f7.i (by rfl), f4.i (by rfl)]
    rw [g2]
    by_cases z : k = 2000
    · refine ⟨uI c7 5 24 1, f7'.uI _ (by rfl), ?_, ?_, ?_, ?_, Or.inl ⟨Or.inr z, by rw [gI_uI, if_pos ⟨rfl, rfl⟩], ?_⟩⟩
      · rw [gI_uI, if_neg (by decide), f7.i (by rfl)]; exact r6
      · rw [gI_uI, if_neg (by decide), f7.i (by rfl)]; exact r7
      · rw [gI_uI, if_neg (by decide), f7.i (by rfl)]; exact r8
      · rw [gI_uI, if_neg (by decide), f7.i (by rfl)]; exact r9
      · rw [if_neg (show ¬ nI (k + 1) ≤ 2000 from nI_ge (a := 2000) (by omega) (by omega)), lb_eq]
    · refine ⟨c7, f7', ?_, ?_, ?_, ?_, Or.inr ⟨by omega, g5, g2, g4, ?_⟩⟩
      · rw [f7.i (by rfl)]; exact r6
      · rw [f7.i (by rfl)]; exact r7
      · rw [f7.i (by rfl)]; exact r8
      · rw [f7.i (by rfl)]; exact r9
      · rw [if_pos (show nI (k + 1) ≤ 2000 from nI_le (b := 2000) (by omega) (by omega))]
        by_cases u : 0 < dts x y w h (lgW g) (lgH g)
        · rw [if_neg (fun y => by rw [iz_0, iz_le (by omega) (by omega) (by omega) (by omega)] at y; omega), decide_eq_true u]; rfl
        · rw [if_pos (by rw [iz_0, iz_le (by omega) (by omega) (by omega) (by omega)]; omega), decide_eq_false u]; rfl
theorem P2_mark {x y w h : Int} {k v : Nat} (sf : SF c 46 g) (em : gA m 134 = g) (cv : CV c m g k v) (x1 : -1000000 ≤ x) (x2 : x ≤ 1000000) (y1 : -1000000 ≤ y) (y2 : y ≤ 1000000) (w1 : 0 ≤ w) (w2 : w ≤ 1000000) (z1 : 0 ≤ h) (z2 : h ≤ 1000000) : P2 (f_X0_mark 46 (iz x) (iz y) (iz w) (iz h) c) (f_X12_mark (jz x) (jz y) (jz w) (jz h) m) (MkQ c m g k x y w h) := by
  have hW := lgW_le g
  have hH := lgH_le g
  have db := dts_b (x := x) (y := y) (w := w) (h := h) hW.1 hH.1
  have k3 := cv.k3
  have em2 := m_mark (m := m) (x := x) (y := y) (w := w) (h := h) (W := lgW g) (H := lgH g) (by rw [em]) (by rw [em]) cv.k2 cv.k3 cv.v2 cv.v3 x1 x2 y1 y2 w1 w2 z1 z2
  obtain ⟨c', f, r6, r7, r8, r9, e⟩ := c_mark (x := x) (y := y) (w := w) (h := h) sf cv.k1 cv.k3 cv.v1 cv.v3 x1 x2 y1 y2 w1 w2 z1 z2
  rcases e with ⟨e1, e2, e3⟩ | ⟨e1, e5, e2, e4, e3⟩
  · rw [e3, em2, if_pos (by omega)]
    exact P2_ret ⟨f, Fr.refl.uI _ (by rfl), Or.inl ⟨rfl, rfl, e2, by rw [gI_uI, if_pos ⟨rfl, rfl⟩]⟩⟩
  · rw [e3, em2, if_neg (by omega)]
    have fm : Fr mMkF noA m (uI (uI (uJ m 1249 133 (jz (v + dts x y w h (lgW g) (lgH g)))) 1235 133 (nI (k + 1))) 1236 133 (gI m 1236 133 + 1)) := ((Fr.refl.uJ _ (by rfl)).uI _ (by rfl)).uI _ (by rfl)
    obtain ⟨D, hD⟩ : ∃ D : Nat, dts x y w h (lgW g) (lgH g) = D := ⟨(dts x y w h (lgW g) (lgH g)).toNat, by omega⟩
    refine P2_ret ⟨f, fm, Or.inr ⟨rfl, ((Fr.refl.uJ _ (by rfl)).uI _ (by rfl)).uI _ (by rfl), v + D, CV_mk e2 (by rw [gI_uI, if_neg (by decide), gI_uI, if_pos ⟨rfl, rfl⟩]) (by omega) (by rw [e4, hD, nI_iz]; rfl) ?_ (by omega) (by rw [e5]; exact cv.u) ?_ (fun z => by omega), ?_⟩⟩
    · show gJ (uJ m 1249 133 _) 1249 133 = _
      rw [gJ_uJ, if_pos ⟨rfl, rfl⟩, hD]
      exact (jz_lit (v + D)).symm
    · rw [f.a rfl]
      exact cv.d
    · have ed : dts x y w h (lgW g) (lgH g) = mx0 (mnW (x + w) (lgW g) - mx0 x) * mx0 (mnW (y + h) (lgH g) - mx0 y) := rfl
      by_cases u : 0 < dts x y w h (lgW g) (lgH g)
      · refine Or.inr ⟨by rw [decide_eq_true u]; rfl, ?_⟩
        have p1 : 0 < mnW (x + w) (lgW g) - mx0 x := by
          by_cases t : 0 < mnW (x + w) (lgW g) - mx0 x
          · exact t
          · have : mx0 (mnW (x + w) (lgW g) - mx0 x) = 0 := mx0_0 (by omega)
            rw [ed, this, Int.zero_mul] at u; omega
        have p2 : 0 < mnW (y + h) (lgH g) - mx0 y := by
          by_cases t : 0 < mnW (y + h) (lgH g) - mx0 y
          · exact t
          · have : mx0 (mnW (y + h) (lgH g) - mx0 y) = 0 := mx0_0 (by omega)
            rw [ed, this, Int.mul_zero] at u; omega
        have m1 : 0 ≤ mx0 x := by unfold mx0; split <;> omega
        have m2 : 0 ≤ mx0 y := by unfold mx0; split <;> omega
        have m3 : mnW (x + w) (lgW g) ≤ lgW g ∧ mnW (x + w) (lgW g) ≤ x + w := by unfold mnW; split <;> omega
        have m4 : mnW (y + h) (lgH g) ≤ lgH g ∧ mnW (y + h) (lgH g) ≤ y + h := by unfold mnW; split <;> omega
        refine ⟨(mx0 x).toNat, (mnW (x + w) (lgW g)).toNat, (mx0 y).toNat, (mnW (y + h) (lgH g)).toNat, by omega, by omega, by omega, by omega, ?_, ?_, ?_, ?_, ?_⟩
        · rw [r6, nI_iz, Int.toNat_of_nonneg (by omega)]
        · rw [r7, nI_iz, Int.toNat_of_nonneg (by omega)]
        · rw [r8, nI_iz, Int.toNat_of_nonneg (by omega)]
        · rw [r9, nI_iz, Int.toNat_of_nonneg (by omega)]
        · intro X Y hX hY
          have q1 : (x ≤ X ∧ (X : Int) < x + w) ↔ ((mx0 x).toNat ≤ X ∧ X < (mnW (x + w) (lgW g)).toNat) := by unfold mx0 mnW at *; split <;> split <;> omega
          have q2 : (y ≤ Y ∧ (Y : Int) < y + h) ↔ ((mx0 y).toNat ≤ Y ∧ Y < (mnW (y + h) (lgH g)).toNat) := by unfold mx0 mnW at *; split <;> split <;> omega
          rw [q1, q2]
      · refine Or.inl ⟨by rw [decide_eq_false u]; rfl, fun X Y hX hY z => u ?_⟩
        rw [ed]
        have p1 : 0 < mx0 (mnW (x + w) (lgW g) - mx0 x) := by unfold mx0 mnW; split <;> split <;> split <;> omega
        have p2 : 0 < mx0 (mnW (y + h) (lgH g) - mx0 y) := by unfold mx0 mnW; split <;> split <;> split <;> omega
        exact Int.mul_pos p1 p2
/-- painted alike -/
theorem CV.paint {k v ox oy : Nat} {S V : Int → Int → Bool} {B : Nat → Nat → Bool} (cv : CV c1 m1 g k v) (hk : k ≠ 0) (fc : Fr nF PA c1 c2) (lv : LV m1 m2 g L ox oy S V) (hB : ∀ X Y, B X Y = true → X < lgW g ∧ Y < lgH g) (hV : ∀ X Y : Nat, X < lgW g → Y < lgH g → V X Y = B X Y) (hc : ∀ X Y : Nat, X < 800 → Y < 800 → dotW (gA c2 25) (25 * Y) X = if B X Y = true then pnt (S X Y) (pd L ((X : Int) - ox) ((Y : Int) - oy)) (decide (g 49 = 1)) (isPo g L) (dotW (gA c1 25) (25 * Y) X) else dotW (gA c1 25) (25 * Y) X) : CV c2 m2 g k v := by
  refine CV_mk (by rw [fc.i rfl]; exact cv.k1) (by rw [lv.f.i rfl]; exact cv.k2) cv.k3 (by rw [fc.i rfl]; exact cv.v1) (by rw [lv.f.j rfl]; exact cv.v2) cv.v3 (by rw [fc.i rfl]; exact cv.u) (fun X Y hX hY => ?_) (fun z => absurd z hk)
  rw [hc X Y hX hY, cv.d X Y hX hY]
  by_cases q : X < lgW g ∧ Y < lgH g
  · rw [decide_eq_true q.1, decide_eq_true q.2, lv.d X Y q.1 q.2, hV X Y q.1 q.2]
    unfold isPo
    simp only [Bool.true_and]
  · have : B X Y = false := by
      cases e : B X Y
      · rfl
      · exact absurd (hB X Y e) q
    rw [this, if_neg (by decide)]
    have z : (decide (X < lgW g) && decide (Y < lgH g)) = false := by
      by_cases q1 : X < lgW g
      · rw [decide_eq_false (fun y => q ⟨q1, y⟩), Bool.and_false]
      · rw [decide_eq_false q1, Bool.false_and]
    rw [z, Bool.false_and, Bool.false_and]
end A8
