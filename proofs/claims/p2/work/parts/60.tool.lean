/-! Whole numbers: every Int32 is 'iz' of one, every Int64 'jz' of one. -/
def iz (z : Int) : Int32 := Int32.ofInt z
def jz (z : Int) : Int64 := Int64.ofInt z
theorem iz_of (a : Int32) : a = iz a.toInt := (Int32.ofInt_toInt a).symm
theorem jz_of (a : Int64) : a = jz a.toInt := (Int64.ofInt_toInt a).symm
theorem iz_int {a : Int} (h1 : -2147483648 ≤ a) (h2 : a < 2147483648) : (iz a).toInt = a := by
  unfold iz; rw [Int32.toInt_ofInt]; exact Int.bmod_eq_of_le h1 h2
theorem jz_int {a : Int} (h1 : -9223372036854775808 ≤ a) (h2 : a < 9223372036854775808) : (jz a).toInt = a := by
  unfold jz; rw [Int64.toInt_ofInt]; exact Int.bmod_eq_of_le h1 h2
theorem iz_ex (a : Int32) : ∃ z : Int, a = iz z ∧ -2147483648 ≤ z ∧ z < 2147483648 := ⟨a.toInt, iz_of a, Int32.le_toInt a, Int32.toInt_lt a⟩
theorem jz_ex (a : Int64) : ∃ z : Int, a = jz z ∧ -9223372036854775808 ≤ z ∧ z < 9223372036854775808 := ⟨a.toInt, jz_of a, Int64.le_toInt a, Int64.toInt_lt a⟩
theorem iz_add (a b : Int) : iz a + iz b = iz (a + b) := (Int32.ofInt_add a b).symm
theorem iz_sub (a b : Int) : iz a - iz b = iz (a - b) := (Int32.ofInt_sub a b).symm
theorem iz_mul (a b : Int) : iz a * iz b = iz (a * b) := (Int32.ofInt_mul a b).symm
theorem iz_neg (a : Int) : -iz a = iz (-a) := (Int32.ofInt_neg a).symm
theorem jz_add (a b : Int) : jz a + jz b = jz (a + b) := (Int64.ofInt_add a b).symm
theorem jz_sub (a b : Int) : jz a - jz b = jz (a - b) := (Int64.ofInt_sub a b).symm
theorem jz_mul (a b : Int) : jz a * jz b = jz (a * b) := (Int64.ofInt_mul a b).symm
theorem jz_neg (a : Int) : -jz a = jz (-a) := (Int64.ofInt_neg a).symm
theorem iz_lit (n : Nat) : (OfNat.ofNat n : Int32) = iz (n : Int) := (Int32.ofInt_eq_ofNat).symm
theorem jz_lit (n : Nat) : (OfNat.ofNat n : Int64) = jz (n : Int) := (Int64.ofInt_eq_ofNat).symm
theorem iz_0 : (0 : Int32) = iz 0 := rfl
theorem iz_1 : (1 : Int32) = iz 1 := rfl
theorem iz_nat (n : Nat) : Int32.ofNat n = iz (n : Int) := (Int32.ofInt_eq_ofNat).symm
theorem iz_m1 : (-1 : Int32) = iz (-1) := by decide
theorem nI_iz (n : Nat) : nI n = iz (n : Int) := iz_nat n
theorem iz_long {a : Int} (h1 : -2147483648 ≤ a) (h2 : a < 2147483648) : (iz a).toInt64 = jz a := by
  rw [jz_of (iz a).toInt64, Int32.toInt_toInt64, iz_int h1 h2]
theorem jz_int32 (a : Int) : (jz a).toInt32 = iz a := by
  refine Int32.toInt_inj.mp ?_
  rw [Int64.toInt_toInt32]
  unfold jz iz
  rw [Int64.toInt_ofInt, Int32.toInt_ofInt]
  exact Int.bmod_bmod_of_dvd (by decide)
theorem iz_inj {a b : Int} (h1 : -2147483648 ≤ a) (h2 : a < 2147483648) (h3 : -2147483648 ≤ b) (h4 : b < 2147483648) : iz a = iz b ↔ a = b := ⟨fun h => by have := congrArg Int32.toInt h; rwa [iz_int h1 h2, iz_int h3 h4] at this, fun h => by rw [h]⟩
theorem jz_inj {a b : Int} (h1 : -9223372036854775808 ≤ a) (h2 : a < 9223372036854775808) (h3 : -9223372036854775808 ≤ b) (h4 : b < 9223372036854775808) : jz a = jz b ↔ a = b := ⟨fun h => by have := congrArg Int64.toInt h; rwa [jz_int h1 h2, jz_int h3 h4] at this, fun h => by rw [h]⟩
theorem iz_lt {a b : Int} (h1 : -2147483648 ≤ a) (h2 : a < 2147483648) (h3 : -2147483648 ≤ b) (h4 : b < 2147483648) : iz a < iz b ↔ a < b := by rw [Int32.lt_iff_toInt_lt, iz_int h1 h2, iz_int h3 h4]
theorem iz_le {a b : Int} (h1 : -2147483648 ≤ a) (h2 : a < 2147483648) (h3 : -2147483648 ≤ b) (h4 : b < 2147483648) : iz a ≤ iz b ↔ a ≤ b := by rw [Int32.le_iff_toInt_le, iz_int h1 h2, iz_int h3 h4]
theorem jz_lt {a b : Int} (h1 : -9223372036854775808 ≤ a) (h2 : a < 9223372036854775808) (h3 : -9223372036854775808 ≤ b) (h4 : b < 9223372036854775808) : jz a < jz b ↔ a < b := by rw [Int64.lt_iff_toInt_lt, jz_int h1 h2, jz_int h3 h4]
theorem jz_le {a b : Int} (h1 : -9223372036854775808 ≤ a) (h2 : a < 9223372036854775808) (h3 : -9223372036854775808 ≤ b) (h4 : b < 9223372036854775808) : jz a ≤ jz b ↔ a ≤ b := by rw [Int64.le_iff_toInt_le, jz_int h1 h2, jz_int h3 h4]
theorem iz_nn {a : Int} (h1 : -2147483648 ≤ a) (h2 : a < 2147483648) : iz a < 0 ↔ a < 0 := by rw [iz_0]; exact iz_lt h1 h2 (by decide) (by decide)
theorem iz_nat_clamp {a : Int} (h1 : -2147483648 ≤ a) (h2 : a < 2147483648) : (iz a).toNatClampNeg = a.toNat := by
  show (iz a).toInt.toNat = _
  rw [iz_int h1 h2]
theorem iz_div {a b : Int} (h1 : -2147483648 ≤ a) (h2 : a < 2147483648) (h3 : -2147483648 ≤ b) (h4 : b < 2147483648) : iz a / iz b = iz (a.tdiv b) := by
  refine Int32.toInt_inj.mp ?_
  rw [Int32.toInt_div, iz_int h1 h2, iz_int h3 h4]
  unfold iz; rw [Int32.toInt_ofInt]
theorem jz_div {a b : Int} (h1 : -9223372036854775808 ≤ a) (h2 : a < 9223372036854775808) (h3 : -9223372036854775808 ≤ b) (h4 : b < 9223372036854775808) : jz a / jz b = jz (a.tdiv b) := by
  refine Int64.toInt_inj.mp ?_
  rw [Int64.toInt_div, jz_int h1 h2, jz_int h3 h4]
  unfold jz; rw [Int64.toInt_ofInt]
/-! lcmp -/
theorem c_lt {a b : Int64} : lg_cmp a b < 0 ↔ a < b := by
  unfold lg_cmp
  split
  · rename_i h; simp only [gt_iff_lt, Int64.lt_iff_toInt_lt] at h ⊢; simp; omega
  · split
    · rename_i h; subst h; simp
    · rename_i h g; simp only [gt_iff_lt, Int64.lt_iff_toInt_lt, ← Int64.toInt_inj] at h g ⊢; simp; omega
theorem c_gt {a b : Int64} : 0 < lg_cmp a b ↔ b < a := by
  unfold lg_cmp
  split
  · rename_i h; simp only [gt_iff_lt, Int64.lt_iff_toInt_lt] at h ⊢; simp; omega
  · split
    · rename_i h; subst h; simp
    · rename_i h g; simp only [gt_iff_lt, Int64.lt_iff_toInt_lt, ← Int64.toInt_inj] at h g ⊢; simp; omega
theorem c_eq {a b : Int64} : lg_cmp a b = 0 ↔ a = b := by
  unfold lg_cmp
  split
  · rename_i h; simp only [gt_iff_lt, Int64.lt_iff_toInt_lt, ← Int64.toInt_inj] at h ⊢; simp; omega
  · split
    · rename_i h; simp [h]
    · rename_i h g; simp [g]
theorem c_le {a b : Int64} : lg_cmp a b ≤ 0 ↔ a ≤ b := by
  have h := c_gt (a := a) (b := b)
  rw [← Int32.not_lt, h, Int64.not_lt]
theorem c_ge {a b : Int64} : 0 ≤ lg_cmp a b ↔ b ≤ a := by
  have h := c_lt (a := a) (b := b)
  rw [← Int32.not_lt, h, Int64.not_lt]
/-! One program's end, and two programs' ends. -/
/-- a ends, with Q -/
def wp {α : Type} (a : Option (α × Mm)) (Q : α → Mm → Prop) : Prop := ∃ r T, a = some (r, T) ∧ Q r T
/-- both end, with Q -/
def P2 {α β : Type} (a : Option (α × Mm)) (b : Option (β × Mm)) (Q : α → Mm → β → Mm → Prop) : Prop := ∃ r c r' m, a = some (r, c) ∧ b = some (r', m) ∧ Q r c r' m
section WP
variable {α β γ δ : Type} {Q : α → Mm → Prop}
theorem wp_ret {r : α} {T : Mm} (h : Q r T) : wp (some (r, T)) Q := ⟨r, T, rfl, h⟩
theorem wp_of {a : Option (α × Mm)} {r : α} {T : Mm} (e : a = some (r, T)) (h : Q r T) : wp a Q := ⟨r, T, e, h⟩
theorem wp_mono {a : Option (α × Mm)} {Q' : α → Mm → Prop} (h : wp a Q') (h2 : ∀ r T, Q' r T → Q r T) : wp a Q := by
  obtain ⟨r, T, e, hq⟩ := h; exact ⟨r, T, e, h2 r T hq⟩
theorem wp_bd {a : Option (β × Mm)} {k : β → Mm → Option (α × Mm)} (h : wp a (fun r T => wp (k r T) Q)) : wp (bd a k) Q := by
  obtain ⟨r, T, e, h⟩ := h; subst e; exact h
theorem wp_call {a : Option (β × Mm)} {k : β → Mm → Option (α × Mm)} {R : β → Mm → Prop} (h : wp a R) (h2 : ∀ r T, R r T → wp (k r T) Q) : wp (bd a k) Q := by
  obtain ⟨r, T, e, h⟩ := h; subst e; exact h2 r T h
theorem wp_bd1 {a : Option (β × Mm)} {k : β → Mm → Option (α × Mm)} {r : β} {T : Mm} (e : a = some (r, T)) (h : wp (k r T) Q) : wp (bd a k) Q := by
  subst e; exact h
theorem wp_lb {a : β} {k : β → Option (α × Mm)} (h : wp (k a) Q) : wp (lb a k) Q := h
theorem wp_gd {c : Prop} {i : Decidable c} {k : Option (α × Mm)} (hc : c) (h : wp k Q) : wp (@gd _ c i k) Q := by
  unfold gd; rw [if_pos hc]; exact h
theorem wp_ite {c : Prop} {i : Decidable c} {a b : Option (α × Mm)} (h1 : c → wp a Q) (h2 : ¬ c → wp b Q) : wp (@ite _ c i a b) Q := by
  split
  · exact h1 (by assumption)
  · exact h2 (by assumption)
theorem wp_if {c : Prop} {i : Decidable c} {a b : Option (α × Mm)} (hc : c) (h1 : wp a Q) : wp (@ite _ c i a b) Q := by rw [if_pos hc]; exact h1
theorem wp_nif {c : Prop} {i : Decidable c} {a b : Option (α × Mm)} (hc : ¬ c) (h1 : wp b Q) : wp (@ite _ c i a b) Q := by rw [if_neg hc]; exact h1
theorem ix_in {i : Int32} {n j : Nat} {k : Nat → Option γ} (h1 : ¬ i < 0) (h2 : i.toNatClampNeg = j) (h3 : j < n) : ix i n k = k j := by
  unfold ix; rw [if_neg (fun q => q.elim h1 (fun q => by omega)), h2]
theorem ix_iz {z : Int} {n : Nat} {k : Nat → Option γ} (h1 : 0 ≤ z) (h2 : z < 2147483648) (h3 : z < n) : ix (iz z) n k = k z.toNat := by
  refine ix_in ?_ (iz_nat_clamp (by omega) h2) (by omega)
  rw [iz_nn (by omega) h2]; omega
theorem wp_ix {i : Int32} {n j : Nat} {k : Nat → Option (α × Mm)} (h1 : ¬ i < 0) (h2 : i.toNatClampNeg = j) (h3 : j < n) (h : wp (k j) Q) : wp (ix i n k) Q := by
  rw [ix_in h1 h2 h3]; exact h
theorem rf_eq {s : Bool} {o : Option Nat} {c i : Nat} {k : Nat → Option γ} (h1 : o = some i) (h2 : kS s i = c) : rf s o c k = k i := by
  subst h1; show (if kS s i = c then k i else none) = _; rw [if_pos h2]
theorem lb_eq {a : γ} {k : γ → Option δ} : lb a k = k a := rfl
theorem bd_eq {a : γ} {T : Mm} {k : γ → Mm → Option δ} : bd (some (a, T)) k = k a T := rfl
theorem gd_eq {c : Prop} {i : Decidable c} {k : Option γ} (h : c) : @gd _ c i k = k := if_pos h
end WP
section PP
variable {α β γ δ : Type} {Q : α → Mm → β → Mm → Prop}
theorem P2_ret {r : α} {r' : β} {c m : Mm} (h : Q r c r' m) : P2 (some (r, c)) (some (r', m)) Q := ⟨r, c, r', m, rfl, rfl, h⟩
theorem P2_mono {a : Option (α × Mm)} {b : Option (β × Mm)} {Q' : α → Mm → β → Mm → Prop} (h : P2 a b Q') (h2 : ∀ r c r' m, Q' r c r' m → Q r c r' m) : P2 a b Q := by
  obtain ⟨r, c, r', m, e1, e2, hq⟩ := h; exact ⟨r, c, r', m, e1, e2, h2 r c r' m hq⟩
theorem P2_bd {R : γ → Mm → δ → Mm → Prop} {a : Option (γ × Mm)} {b : Option (δ × Mm)} {k : γ → Mm → Option (α × Mm)} {l : δ → Mm → Option (β × Mm)} (h : P2 a b R) (h2 : ∀ r c r' m, R r c r' m → P2 (k r c) (l r' m) Q) : P2 (bd a k) (bd b l) Q := by
  obtain ⟨r, c, r', m, e1, e2, hq⟩ := h; subst e1; subst e2; exact h2 r c r' m hq
theorem P2_l {a : Option (γ × Mm)} {b : Option (β × Mm)} {k : γ → Mm → Option (α × Mm)} {R : γ → Mm → Prop} (h : wp a R) (h2 : ∀ r c, R r c → P2 (k r c) b Q) : P2 (bd a k) b Q := by
  obtain ⟨r, c, e1, hq⟩ := h; subst e1; exact h2 r c hq
theorem P2_r {a : Option (α × Mm)} {b : Option (δ × Mm)} {l : δ → Mm → Option (β × Mm)} {R : δ → Mm → Prop} (h : wp b R) (h2 : ∀ r c, R r c → P2 a (l r c) Q) : P2 a (bd b l) Q := by
  obtain ⟨r, c, e1, hq⟩ := h; subst e1; exact h2 r c hq
theorem P2_l1 {a : Option (γ × Mm)} {b : Option (β × Mm)} {k : γ → Mm → Option (α × Mm)} {r : γ} {c : Mm} (e : a = some (r, c)) (h2 : P2 (k r c) b Q) : P2 (bd a k) b Q := by subst e; exact h2
theorem P2_r1 {a : Option (α × Mm)} {b : Option (δ × Mm)} {l : δ → Mm → Option (β × Mm)} {r : δ} {m : Mm} (e : b = some (r, m)) (h2 : P2 a (l r m) Q) : P2 a (bd b l) Q := by subst e; exact h2
theorem P2_ll {a : γ} {k : γ → Option (α × Mm)} {b : Option (β × Mm)} (h : P2 (k a) b Q) : P2 (lb a k) b Q := h
theorem P2_lr {a : γ} {k : γ → Option (β × Mm)} {b : Option (α × Mm)} (h : P2 b (k a) Q) : P2 b (lb a k) Q := h
theorem P2_el {a a' : Option (α × Mm)} {b : Option (β × Mm)} (e : a = a') (h : P2 a' b Q) : P2 a b Q := by rw [e]; exact h
theorem P2_er {a : Option (α × Mm)} {b b' : Option (β × Mm)} (e : b = b') (h : P2 a b' Q) : P2 a b Q := by rw [e]; exact h
theorem P2_ite {c d : Prop} {i : Decidable c} {j : Decidable d} {a a' : Option (α × Mm)} {b b' : Option (β × Mm)} (e : c ↔ d) (h1 : c → P2 a b Q) (h2 : ¬ c → P2 a' b' Q) : P2 (@ite _ c i a a') (@ite _ d j b b') Q := by
  by_cases q : c
  · rw [if_pos q, if_pos (e.mp q)]; exact h1 q
  · rw [if_neg q, if_neg (fun z => q (e.mpr z))]; exact h2 q
theorem P2_ifl {c : Prop} {i : Decidable c} {a a' : Option (α × Mm)} {b : Option (β × Mm)} (h1 : c → P2 a b Q) (h2 : ¬ c → P2 a' b Q) : P2 (@ite _ c i a a') b Q := by
  by_cases q : c
  · rw [if_pos q]; exact h1 q
  · rw [if_neg q]; exact h2 q
theorem P2_ifr {c : Prop} {i : Decidable c} {a : Option (α × Mm)} {b b' : Option (β × Mm)} (h1 : c → P2 a b Q) (h2 : ¬ c → P2 a b' Q) : P2 a (@ite _ c i b b') Q := by
  by_cases q : c
  · rw [if_pos q]; exact h1 q
  · rw [if_neg q]; exact h2 q
end PP
