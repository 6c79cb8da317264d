/-! A dot of a pattern, and a dot laid, on the reference's side. -/
theorem emodT (a n : Int) (hn : 0 < n) : a % n = if 0 ≤ a.tmod n then a.tmod n else a.tmod n + n := by
  have h1 := Int.tmod_add_mul_tdiv a n
  have h2 := Int.tmod_lt_of_pos a hn
  have h3 := Int.lt_tmod_of_pos a hn
  by_cases q : 0 ≤ a.tmod n
  · rw [if_pos q]
    exact ((Int.ediv_emod_unique (q := a.tdiv n) hn).mpr ⟨h1, q, h2⟩).2
  · rw [if_neg q]
    refine ((Int.ediv_emod_unique (q := a.tdiv n - 1) hn).mpr ⟨?_, by omega, by omega⟩).2
    rw [Int.mul_sub, Int.mul_one]; omega
theorem izrem {a n : Int} (h1 : -1073741824 ≤ a) (h2 : a < 1073741824) (h3 : 0 < n) (h4 : n < 1073741824) : iz a - iz a / iz n * iz n = iz (a.tmod n) := by
  rw [iz_div (by omega) (by omega) (by omega) (by omega), iz_mul, iz_sub]
  congr 1
  rw [Int.tmod_def, Int.mul_comm]
theorem tmb {a n : Int} (h3 : 0 < n) (h4 : n < 1073741824) : -1073741824 < a.tmod n ∧ a.tmod n < 1073741824 := by
  have h2 := Int.tmod_lt_of_pos a h3
  have h3 := Int.lt_tmod_of_pos a h3
  omega
section A6
variable {m m0 m' : Mm} {L : Nat → Int32}
theorem m_mod {a n : Int} (h1 : -1073741824 ≤ a) (h2 : a < 1073741824) (h3 : 0 < n) (h4 : n < 1073741824) : f_X12_modulo (iz a) (iz n) m = some (iz (a % n), m) := by
  have hb := tmb (a := a) h3 h4
  unfold f_X12_modulo
  rw [gd_eq (fun y => by
    have := (iz_inj (b := 0) (by omega) (by omega) (by omega) (by omega)).mp y
    omega), izrem h1 h2 h3 h4, lb_eq, emodT a n h3]
  by_cases q : 0 ≤ a.tmod n
  · rw [if_pos (show (0 : Int32) ≤ iz (a.tmod n) from (iz_le (a := 0) (by omega) (by omega) (by omega) (by omega)).mpr q), if_pos q]
  · rw [if_neg (show ¬ (0 : Int32) ≤ iz (a.tmod n) from fun y => q ((iz_le (a := 0) (by omega) (by omega) (by omega) (by omega)).mp y)), if_neg q, iz_add]
theorem shade_tab : ∀ a : Nat, a < 4 → ∀ b : Nat, b < 4 → ((((588499194438350805 : Int64) >>> ((((60 : Int32) - ((4 : Int32) * (((4 : Int32) * nI b) + nI a))) : Int32).toInt64 &&& 63))).toInt32) &&& 15 = iz (shV (a : Int) (b : Int)) := by decide +kernel
theorem shV_b : ∀ a : Nat, a < 4 → ∀ b : Nat, b < 4 → 0 ≤ shV (a : Int) (b : Int) ∧ shV (a : Int) (b : Int) ≤ 15 := by decide +kernel
def LD (L : Nat → Int32) : Prop := (L 0 = 0 ∨ L 0 = 1 ∨ L 0 = 2 ∨ L 0 = 3 ∨ L 0 = 4) ∧ (L 0 = 4 → ∃ w h : Nat, 1 ≤ w ∧ w ≤ 16 ∧ 1 ≤ h ∧ h ≤ 16 ∧ L 2 = nI w ∧ L 3 = nI h) ∧ -32767 ≤ (L 1).toInt ∧ (L 1).toInt ≤ 32767
def PQ (m : Mm) (g L : Nat → Int32) (ox oy : Nat) : Prop := (∀ k, k < 20 → gA m 163 k = L k) ∧ (LD L) ∧ (gA m 134 = g) ∧ (g 51 = nI ox) ∧ (g 52 = nI oy) ∧ (ox ≤ 800) ∧ (oy ≤ 800) ∧ (∃ o, g 1 = nI o ∧ o ≤ 1)
theorem PQ.l {m : Mm} {g L : Nat → Int32} {ox oy : Nat} (h : PQ m g L ox oy) : ∀ k, k < 20 → gA m 163 k = L k := h.1
theorem PQ.d {m : Mm} {g L : Nat → Int32} {ox oy : Nat} (h : PQ m g L ox oy) : LD L := h.2.1
theorem PQ.e {m : Mm} {g L : Nat → Int32} {ox oy : Nat} (h : PQ m g L ox oy) : gA m 134 = g := h.2.2.1
theorem PQ.x {m : Mm} {g L : Nat → Int32} {ox oy : Nat} (h : PQ m g L ox oy) : g 51 = nI ox := h.2.2.2.1
theorem PQ.y {m : Mm} {g L : Nat → Int32} {ox oy : Nat} (h : PQ m g L ox oy) : g 52 = nI oy := h.2.2.2.2.1
theorem PQ.x1 {m : Mm} {g L : Nat → Int32} {ox oy : Nat} (h : PQ m g L ox oy) : ox ≤ 800 := h.2.2.2.2.2.1
theorem PQ.y1 {m : Mm} {g L : Nat → Int32} {ox oy : Nat} (h : PQ m g L ox oy) : oy ≤ 800 := h.2.2.2.2.2.2.1
theorem PQ.o {m : Mm} {g L : Nat → Int32} {ox oy : Nat} (h : PQ m g L ox oy) : ∃ o, g 1 = nI o ∧ o ≤ 1 := h.2.2.2.2.2.2.2
theorem PQ_mk {m : Mm} {g L : Nat → Int32} {ox oy : Nat} (l : ∀ k, k < 20 → gA m 163 k = L k) (d : LD L) (e : gA m 134 = g) (x : g 51 = nI ox) (y : g 52 = nI oy) (x1 : ox ≤ 800) (y1 : oy ≤ 800) (o : ∃ o, g 1 = nI o ∧ o ≤ 1) : PQ m g L ox oy := ⟨l, d, e, x, y, x1, y1, o⟩
theorem if_cI {α : Type} (b : Bool) (x y : α) : (if cI b = 0 then x else y) = if b = true then y else x := by cases b <;> rfl
theorem p261 (b : Bool) : f_X12_patternAt_261 (cI b) m = some (cI b, m) := by cases b <;> rfl
theorem m_pat {g : Nat → Int32} {ox oy : Nat} {x y : Int} (h : PQ m g L ox oy) (h1 : -1000000 ≤ x) (h2 : x ≤ 1000000) (h3 : -1000000 ≤ y) (h4 : y ≤ 1000000) : f_X12_patternAt (iz x) (iz y) m = some (cI (pd L (x - ox) (y - oy)), m) := by
  have hx1 := h.x1
  have hy1 := h.y1
  obtain ⟨d0, d4, d1, d2⟩ := h.d
  unfold f_X12_patternAt
  rw [h.e, h.x, h.y, nI_iz ox, nI_iz oy, iz_sub, iz_sub, lb_eq, lb_eq, h.l 0 (by omega), h.l 3 (by omega)]
  generalize hA : x - (ox : Int) = A
  generalize hB : y - (oy : Int) = B
  have a1 : -2000000 ≤ A ∧ A ≤ 2000000 := by omega
  have b1 : -2000000 ≤ B ∧ B ≤ 2000000 := by omega
  unfold pd
  rcases d0 with z | z | z | z | z
  · rw [z]; rfl
  · rw [z]; rfl
  · rw [z, if_neg (by decide), if_neg (by decide), if_pos (by rfl), show (4 : Int32) = iz 4 from rfl, m_mod (by omega) (by omega) (by omega) (by omega), bd_eq, m_mod (by omega) (by omega) (by omega) (by omega), bd_eq, if_neg (by decide), if_neg (by decide), if_pos (by rfl)]
    obtain ⟨a, ea, ha⟩ : ∃ a : Nat, A % 4 = a ∧ a < 4 := ⟨(A % 4).toNat, by omega, by omega⟩
    obtain ⟨b, eb, hb⟩ : ∃ b : Nat, B % 4 = b ∧ b < 4 := ⟨(B % 4).toNat, by omega, by omega⟩
    rw [ea, eb]
    have sb := shV_b a ha b hb
    unfold f_X12_shadeOf
    rw [lb_eq, bd_eq, ← nI_iz a, ← nI_iz b, shade_tab a ha b hb, h.l 1 (by omega)]
    generalize shV (a : Int) (b : Int) = s at sb
    rw [iz_of (L 1), iz_int (by omega) (by omega)]
    generalize (L 1).toInt = n at d1 d2
    rw [show (16 : Int32) = iz 16 from rfl, show (100 : Int32) = iz 100 from rfl, iz_mul, iz_mul]
    by_cases q : 100 * s < 16 * n
    · rw [if_neg (fun y => by rw [iz_le (by omega) (by omega) (by omega) (by omega)] at y; omega), decide_eq_true q]; rfl
    · rw [if_pos (by rw [iz_le (by omega) (by omega) (by omega) (by omega)]; omega), decide_eq_false q]; rfl
  · have q30 : ¬ (3 : Int32) = 0 := by decide
    have q31 : ¬ (3 : Int32) = 1 := by decide
    have q32 : ¬ (3 : Int32) = 2 := by decide
    rw [z]
    simp only [q30, q31, q32, if_false, if_true]
    rw [show (8 : Int32) = iz 8 from rfl, m_mod (by omega) (by omega) (by omega) (by omega), bd_eq]
    have iz0 : ∀ k : Int, 0 ≤ k → k < 8 → ∀ {α : Type} (u v : α), (if iz k = 0 then u else v) = if decide (k = 0) = true then u else v := fun k k1 k2 {α} u v => by
      by_cases q : k = 0
      · rw [if_pos (by rw [q]; rfl), decide_eq_true q, if_pos rfl]
      · rw [if_neg (show ¬ iz k = 0 from fun y => q ((iz_inj (b := 0) (by omega) (by omega) (by omega) (by omega)).mp y)), decide_eq_false q, if_neg (by decide)]
    have e114 : ∀ b : Bool, f_X12_patternAt_114 (iz A) (iz B) (cI b) m = f_X12_patternAt_168 (cI b) (cI (decide (A % 8 = 0))) (cI (decide ((A + B) % 8 = 0))) (cI (decide ((A - B) % 8 = 0))) m := fun b => by
      have e149 : ∀ p q r : Bool, f_X12_patternAt_149 (iz A) (iz B) (cI p) (cI q) (cI r) m = f_X12_patternAt_168 (cI p) (cI q) (cI r) (cI (decide ((A - B) % 8 = 0))) m := fun p q r => by
        unfold f_X12_patternAt_149
        rw [show (8 : Int32) = iz 8 from rfl, iz_sub, m_mod (by omega) (by omega) (by omega) (by omega), bd_eq, iz0 _ (by omega) (by omega)]
        cases decide ((A - B) % 8 = 0) <;> rfl
      have e130 : ∀ p q : Bool, f_X12_patternAt_130 (iz A) (iz B) (cI p) (cI q) m = f_X12_patternAt_149 (iz A) (iz B) (cI p) (cI q) (cI (decide ((A + B) % 8 = 0))) m := fun p q => by
        unfold f_X12_patternAt_130
        rw [show (8 : Int32) = iz 8 from rfl, iz_add, m_mod (by omega) (by omega) (by omega) (by omega), bd_eq, iz0 _ (by omega) (by omega)]
        cases decide ((A + B) % 8 = 0) <;> rfl
      rw [← e149, ← e130]
      unfold f_X12_patternAt_114
      rw [show (8 : Int32) = iz 8 from rfl, m_mod (by omega) (by omega) (by omega) (by omega), bd_eq, iz0 _ (by omega) (by omega)]
      cases decide (A % 8 = 0) <;> rfl
    rw [iz0 _ (by omega) (by omega)]
    have e168 : ∀ p q r s : Bool, f_X12_patternAt_168 (cI p) (cI q) (cI r) (cI s) m = some (cI (if L 1 = 1 then p else if L 1 = 2 then q else if L 1 = 3 then r else if L 1 = 4 then s else if L 1 = 5 then (q || p) else (r || s)), m) := fun p q r s => by
      unfold f_X12_patternAt_168
      rw [h.l 1 (by omega), lb_eq]
      by_cases k1 : L 1 = 1
      · rw [if_pos k1, if_pos k1, p261]
      by_cases k2 : L 1 = 2
      · rw [if_neg k1, if_neg k1, if_pos k2, if_pos k2, p261]
      by_cases k3 : L 1 = 3
      · rw [if_neg k1, if_neg k1, if_neg k2, if_neg k2, if_pos k3, if_pos k3, p261]
      by_cases k4 : L 1 = 4
      · rw [if_neg k1, if_neg k1, if_neg k2, if_neg k2, if_neg k3, if_neg k3, if_pos k4, if_pos k4, p261]
      by_cases k5 : L 1 = 5
      · rw [if_neg k1, if_neg k1, if_neg k2, if_neg k2, if_neg k3, if_neg k3, if_neg k4, if_neg k4, if_pos k5, if_pos k5]
        cases q <;> cases p <;> rfl
      · rw [if_neg k1, if_neg k1, if_neg k2, if_neg k2, if_neg k3, if_neg k3, if_neg k4, if_neg k4, if_neg k5, if_neg k5]
        cases r <;> cases s <;> rfl
    have fin : ∀ b : Bool, f_X12_patternAt_114 (iz A) (iz B) (cI b) m = some (cI (if L 1 = 1 then b else if L 1 = 2 then decide (A % 8 = 0) else if L 1 = 3 then decide ((A + B) % 8 = 0) else if L 1 = 4 then decide ((A - B) % 8 = 0) else if L 1 = 5 then (decide (A % 8 = 0) || b) else (decide ((A + B) % 8 = 0) || decide ((A - B) % 8 = 0))), m) := fun b => by rw [e114, e168]
    have := fin (decide (B % 8 = 0))
    cases hb8 : decide (B % 8 = 0)
    · rw [hb8] at this
      rw [if_neg (by decide)]; exact this
    · rw [hb8] at this
      rw [if_pos rfl]; exact this
  · obtain ⟨w, hh, w1, w2, w3, w4, w5, w6⟩ := d4 z
    rw [z, if_neg (by decide), if_neg (by decide), if_neg (by decide), if_neg (by decide), w5, w6, nI_iz hh, nI_iz w, m_mod (by omega) (by omega) (by omega) (by omega), bd_eq, if_neg (by decide), if_neg (by decide), if_neg (by decide), if_neg (by decide), iz_int (by omega) (by omega), iz_int (by omega) (by omega)]
    have m1 := Int.emod_nonneg B (show (hh : Int) ≠ 0 by omega)
    have m2 := Int.emod_lt_of_pos B (show (0 : Int) < hh by omega)
    have m3 := Int.emod_nonneg A (show (w : Int) ≠ 0 by omega)
    have m4 := Int.emod_lt_of_pos A (show (0 : Int) < w by omega)
    obtain ⟨b, eb, hb⟩ : ∃ b : Nat, B % (hh : Int) = b ∧ b < hh := ⟨(B % (hh : Int)).toNat, by omega, by omega⟩
    obtain ⟨a, ea, ha⟩ : ∃ a : Nat, A % (w : Int) = a ∧ a < w := ⟨(A % (w : Int)).toNat, by omega, by omega⟩
    rw [eb, show (4 : Int32) = iz 4 from rfl, iz_add, show (4 : Int) + (b : Int) = ((4 + b : Nat) : Int) by omega, ← nI_iz, ix_in (j := 4 + b) (nI_pos (by omega)) (nI_clamp (by omega)) (by omega), lb_eq, h.l 2 (by omega), w5, h.l (4 + b) (by omega), nI_iz w, m_mod (by omega) (by omega) (by omega) (by omega), bd_eq, ea, show (1 : Int32) = iz 1 from rfl, iz_sub, iz_sub, show (w : Int) - 1 - (a : Int) = ((w - 1 - a : Nat) : Int) by omega, ← nI_iz, show iz 1 = (1 : Int32) from rfl, sdot _ (by omega), show ((b : Int)).toNat = b from rfl, show (((w - 1 - a : Nat) : Int)).toNat = w - 1 - a from rfl]
/-! a dot laid -/
def pnt (s p so po old : Bool) : Bool := if s = true then (if p = true then true else if po = true then false else old) else if so = true then false else old
def a157 (a : Nat) : Bool := a == 157
theorem m128 : ∀ k, k < 8 → ∀ i, i < 8 → bt ((128 : Int32) >>> (nI k &&& 31)) i = decide (i = 7 - k) := by decide +kernel
theorem ph_in {g : Nat → Int32} {x y : Nat} (hx : x < lgW g) (hy : y < lgH g) : phX g x y < pgW (g 0) ∧ phY g x y < pgH (g 0) := by
  unfold lgW at hx
  unfold lgH at hy
  unfold phX phY
  by_cases q : g 1 = 0
  · rw [if_pos q] at hx hy
    rw [if_pos q, if_pos q]; exact ⟨hx, hy⟩
  · rw [if_neg q] at hx hy
    rw [if_neg q, if_neg q]; exact ⟨hy, by omega⟩
theorem ph_inj {g : Nat → Int32} {x y x' y' : Nat} (hx : x < lgW g) (hy : y < lgH g) (hx' : x' < lgW g) (hy' : y' < lgH g) (e1 : phX g x y = phX g x' y') (e2 : phY g x y = phY g x' y') : x = x' ∧ y = y' := by
  unfold lgW at hx hx'
  unfold lgH at hy hy'
  unfold phX at e1
  unfold phY at e2
  by_cases q : g 1 = 0
  · rw [if_pos q, if_pos q] at e1 e2; exact ⟨e1, e2⟩
  · rw [if_neg q] at hx hx'
    rw [if_neg q, if_neg q] at e1 e2; exact ⟨by omega, e1⟩
theorem pg_le (f : Int32) : pgW f ≤ 640 ∧ pgH f ≤ 800 := by unfold pgW pgH; split <;> (try split) <;> (try split) <;> omega
/-- the byte at hand takes a new bit -/
theorem m_pb {k px py : Nat} {v : Int32} {nb : Bool} (hpx : px < 640) (hv : ∀ i, i < 8 → bt v i = if i = 7 - px % 8 then nb else bt (gA m 157 (80 * py + px / 8)) i) (X Y : Nat) (hX : X < 640) (hk : k = 80 * py + px / 8) : pbit (uA m 157 k v) X Y = if X = px ∧ Y = py then nb else pbit m X Y := by
  unfold pbit
  rw [gA_uA]
  by_cases e : 80 * Y + X / 8 = k
  · rw [if_pos ⟨rfl, e⟩, hv _ (by omega), e, hk]
    have e2 : Y = py ∧ X / 8 = px / 8 := by omega
    by_cases e3 : X % 8 = px % 8
    · rw [if_pos (by omega), if_pos (by omega)]
    · rw [if_neg (by omega), if_neg (by omega)]
  · rw [if_neg (fun z => e z.2), if_neg (fun z => by
      apply e
      rw [z.1, z.2, hk])]
theorem m_lay {g : Nat → Int32} {ox oy : Nat} {x y : Int} {b : Bool} (h : PQ m g L ox oy) (h1 : -1000000 ≤ x) (h2 : x ≤ 1000000) (h3 : -1000000 ≤ y) (h4 : y ≤ 1000000) : ∃ m', f_X12_lay_ (iz x) (iz y) (cI b) m = some ((), m') ∧ Fr nF a157 m m' ∧ ∀ X Y, X < 640 → pbit m' X Y = if (0 ≤ x ∧ 0 ≤ y ∧ x < lgW g ∧ y < lgH g) ∧ X = phX g x.toNat y.toNat ∧ Y = phY g x.toNat y.toNat then pnt b (pd L (x - ox) (y - oy)) (decide (g 49 = 1)) (decide (g 50 = 1) || decide (L 0 = 1)) (pbit m X Y) else pbit m X Y := by
  have hW := lgW_le g
  have hH := lgH_le g
  unfold f_X12_lay_
  rw [m_wide, bd_eq, m_high, bd_eq, h.e]
  by_cases x0 : x < 0
  · rw [if_pos ((iz_nn (by omega) (by omega)).mpr x0)]
    exact ⟨m, rfl, Fr.refl, fun X Y _ => by rw [if_neg (fun z => by omega)]⟩
  rw [if_neg (fun z => x0 ((iz_nn (by omega) (by omega)).mp z))]
  by_cases y0 : y < 0
  · rw [if_pos ((iz_nn (by omega) (by omega)).mpr y0)]
    exact ⟨m, rfl, Fr.refl, fun X Y _ => by rw [if_neg (fun z => by omega)]⟩
  rw [if_neg (fun z => y0 ((iz_nn (by omega) (by omega)).mp z))]
  obtain ⟨u, rfl⟩ : ∃ u : Nat, x = (u : Int) := ⟨x.toNat, by omega⟩
  obtain ⟨t, rfl⟩ : ∃ u : Nat, y = (u : Int) := ⟨y.toNat, by omega⟩
  by_cases x5 : lgW g ≤ u
  · rw [← nI_iz u, if_pos (nI_le x5 (by omega))]
    exact ⟨m, rfl, Fr.refl, fun X Y _ => by rw [if_neg (fun z => by omega)]⟩
  rw [← nI_iz u, if_neg (nI_ge (by omega) (by omega))]
  by_cases y5 : lgH g ≤ t
  · rw [← nI_iz t, if_neg (nI_nlt y5 (by omega))]
    exact ⟨m, rfl, Fr.refl, fun X Y _ => by rw [if_neg (fun z => by omega)]⟩
  rw [← nI_iz t, if_pos (nI_lt (by omega) (by omega))]
  have hin := ph_in (g := g) (x := u) (y := t) (by omega) (by omega)
  have hpg := pg_le (g 0)
  -- the byte
  have e75 : ∃ m', f_X12_lay__75 (nI u) (nI t) (cI b) (nI (phX g u t)) (nI (phY g u t)) m = some ((), m') ∧ Fr nF a157 m m' ∧ ∀ X Y, X < 640 → pbit m' X Y = if X = phX g u t ∧ Y = phY g u t then pnt b (pd L ((u : Int) - ox) ((t : Int) - oy)) (decide (g 49 = 1)) (decide (g 50 = 1) || decide (L 0 = 1)) (pbit m X Y) else pbit m X Y := by
    generalize phX g u t = px at hin
    generalize phY g u t = py at hin
    unfold f_X12_lay__75
    rw [rem8 (by omega), div8 (by omega), show nI py * (80 : Int32) = nI (py * 80) from pk_mul py 80, nI_add, lb_eq, lb_eq]
    have hk : py * 80 + px / 8 = 80 * py + px / 8 := by omega
    have hk2 : py * 80 + px / 8 < 64000 := by omega
    have m8 := m128 (px % 8) (by omega)
    generalize (128 : Int32) >>> (nI (px % 8) &&& 31) = mk at m8
    have keep : ∀ nb : Bool, (∀ X Y, X = px ∧ Y = py → nb = pbit m X Y) → ∀ X Y, X < 640 → pbit m X Y = if X = px ∧ Y = py then nb else pbit m X Y := fun nb hn X Y _ => by
      by_cases q : X = px ∧ Y = py
      · rw [if_pos q]; exact (hn X Y q).symm
      · rw [if_neg q]
    have offB : ∀ i, i < 8 → bt ((((gA m 157 (py * 80 + px / 8)) &&& (mk ^^^ (-1)))).toInt8.toInt32).toInt8.toInt32 i = if i = 7 - px % 8 then false else bt (gA m 157 (80 * py + px / 8)) i := fun i hi => by
      rw [i8_bt _ hi, i8_bt _ hi, b_and, b_xor, b_m1 i (by omega), m8 i hi, hk]
      by_cases q : i = 7 - px % 8
      · rw [decide_eq_true q, if_pos q]; simp
      · rw [decide_eq_false q, if_neg q]; simp
    have onB : ∀ i, i < 8 → bt ((((gA m 157 (py * 80 + px / 8)) ||| mk)).toInt8.toInt32).toInt8.toInt32 i = if i = 7 - px % 8 then true else bt (gA m 157 (80 * py + px / 8)) i := fun i hi => by
      rw [i8_bt _ hi, i8_bt _ hi, b_or, m8 i hi, hk]
      by_cases q : i = 7 - px % 8
      · rw [decide_eq_true q, if_pos q]; simp
      · rw [decide_eq_false q, if_neg q]; simp
    have ixx : ∀ {α : Type} (K : Nat → Option α), ix (nI (py * 80 + px / 8)) 64000 K = K (py * 80 + px / 8) := fun K => ix_in (nI_pos (by omega)) (nI_clamp (by omega)) hk2
    have pq := m_pat (x := (u : Int)) (y := (t : Int)) h (by omega) (by omega) (by omega) (by omega)
    rw [← nI_iz, ← nI_iz] at pq
    cases b
    · rw [if_pos (show cI false = 0 from rfl), h.e]
      by_cases q : g 49 = 1
      · rw [if_pos q, ixx, ixx, lb_eq]
        refine ⟨_, rfl, Fr.refl.uA _ _ rfl, fun X Y hX => ?_⟩
        rw [m_pb (by omega) offB X Y hX hk, decide_eq_true q]; rfl
      · rw [if_neg q]
        refine ⟨m, rfl, Fr.refl, fun X Y hX => ?_⟩
        rw [decide_eq_false q]
        show _ = if _ then pbit m X Y else pbit m X Y
        split <;> rfl
    · rw [if_neg (by decide), pq, bd_eq]
      cases pd L ((u : Int) - ox) ((t : Int) - oy)
      · rw [if_neg (by decide), h.e, h.l 0 (by omega)]
        have off : ∃ m', f_X12_lay__189 (nI (py * 80 + px / 8)) mk m = some ((), m') ∧ Fr nF a157 m m' ∧ ∀ X Y, X < 640 → pbit m' X Y = if X = px ∧ Y = py then false else pbit m X Y := by
          unfold f_X12_lay__189
          rw [ixx, ixx, lb_eq]
          exact ⟨_, rfl, Fr.refl.uA _ _ rfl, fun X Y hX => m_pb (by omega) offB X Y hX hk⟩
        by_cases q : g 50 = 1
        · rw [if_pos q, decide_eq_true q]; exact off
        · rw [if_neg q]
          by_cases q2 : L 0 = 1
          · rw [if_pos q2, decide_eq_false q, decide_eq_true q2]; exact off
          · rw [if_neg q2, decide_eq_false q, decide_eq_false q2]
            refine ⟨m, rfl, Fr.refl, fun X Y hX => ?_⟩
            show _ = if _ then pbit m X Y else pbit m X Y
            split <;> rfl
      · rw [if_pos (by rfl), ixx, ixx, lb_eq]
        exact ⟨_, rfl, Fr.refl.uA _ _ rfl, fun X Y hX => by rw [m_pb (by omega) onB X Y hX hk]; rfl⟩
  obtain ⟨m', e1, e2, e3⟩ := e75
  have cond : ∀ X Y : Nat, (((0 : Int) ≤ (u : Int) ∧ (0 : Int) ≤ (t : Int) ∧ (u : Int) < lgW g ∧ (t : Int) < lgH g) ∧ X = phX g (u : Int).toNat (t : Int).toNat ∧ Y = phY g (u : Int).toNat (t : Int).toNat) ↔ (X = phX g u t ∧ Y = phY g u t) := fun X Y => ⟨fun z => z.2, fun z => ⟨⟨by omega, by omega, by omega, by omega⟩, z⟩⟩
  refine ⟨m', ?_, e2, fun X Y hX => ?_⟩
  · unfold phX phY at e1
    by_cases q : g 1 = 0
    · rw [if_pos q]
      rw [if_pos q, if_pos q] at e1
      unfold f_X12_lay__47
      rw [h.e, if_pos q]; exact e1
    · rw [if_neg q]
      rw [if_neg q, if_neg q] at e1
      unfold f_X12_lay__47
      have hu : u < pgH (g 0) := by
        have : lgW g = pgH (g 0) := by unfold lgW; rw [if_neg q]
        omega
      rw [h.e, if_neg q, m_ph, bd_eq, show nI (pgH (g 0)) - 1 = nI (pgH (g 0) - 1) from pk_sub (b := 1) (by omega), pk_sub (by omega)]; exact e1
  · rw [e3 X Y hX]
    by_cases q : X = phX g u t ∧ Y = phY g u t
    · rw [if_pos q, if_pos ((cond X Y).mpr q)]
    · rw [if_neg q, if_neg (fun z => q ((cond X Y).mp z))]
theorem PQ.fr {g : Nat → Int32} {ox oy : Nat} (h : PQ m g L ox oy) (f : Fr nF a157 m m') : PQ m' g L ox oy := PQ_mk (by rw [f.a rfl]; exact h.l) h.d (by rw [f.a rfl]; exact h.e) h.x h.y h.x1 h.y1 h.o
/-- dots V of the page are laid, S of them black in the source -/
def LV (m0 m : Mm) (g L : Nat → Int32) (ox oy : Nat) (S V : Int → Int → Bool) : Prop := (PQ m g L ox oy) ∧ (Fr nF a157 m0 m) ∧ (∀ x y : Nat, x < lgW g → y < lgH g → pbit m (phX g x y) (phY g x y) = if V x y = true then pnt (S x y) (pd L ((x : Int) - ox) ((y : Int) - oy)) (decide (g 49 = 1)) (decide (g 50 = 1) || decide (L 0 = 1)) (pbit m0 (phX g x y) (phY g x y)) else pbit m0 (phX g x y) (phY g x y))
theorem LV.q {m0 m : Mm} {g L : Nat → Int32} {ox oy : Nat} {S V : Int → Int → Bool} (h : LV m0 m g L ox oy S V) : PQ m g L ox oy := h.1
theorem LV.f {m0 m : Mm} {g L : Nat → Int32} {ox oy : Nat} {S V : Int → Int → Bool} (h : LV m0 m g L ox oy S V) : Fr nF a157 m0 m := h.2.1
theorem LV.d {m0 m : Mm} {g L : Nat → Int32} {ox oy : Nat} {S V : Int → Int → Bool} (h : LV m0 m g L ox oy S V) : ∀ x y : Nat, x < lgW g → y < lgH g → pbit m (phX g x y) (phY g x y) = if V x y = true then pnt (S x y) (pd L ((x : Int) - ox) ((y : Int) - oy)) (decide (g 49 = 1)) (decide (g 50 = 1) || decide (L 0 = 1)) (pbit m0 (phX g x y) (phY g x y)) else pbit m0 (phX g x y) (phY g x y) := h.2.2
theorem LV_mk {m0 m : Mm} {g L : Nat → Int32} {ox oy : Nat} {S V : Int → Int → Bool} (q : PQ m g L ox oy) (f : Fr nF a157 m0 m) (d : ∀ x y : Nat, x < lgW g → y < lgH g → pbit m (phX g x y) (phY g x y) = if V x y = true then pnt (S x y) (pd L ((x : Int) - ox) ((y : Int) - oy)) (decide (g 49 = 1)) (decide (g 50 = 1) || decide (L 0 = 1)) (pbit m0 (phX g x y) (phY g x y)) else pbit m0 (phX g x y) (phY g x y)) : LV m0 m g L ox oy S V := ⟨q, f, d⟩
theorem LV.refl {g : Nat → Int32} {ox oy : Nat} {S : Int → Int → Bool} (h : PQ m g L ox oy) : LV m m g L ox oy S (fun _ _ => false) := LV_mk h Fr.refl (fun x y _ _ => by rw [if_neg (by decide)])
theorem LV.congr {g : Nat → Int32} {ox oy : Nat} {S V V' : Int → Int → Bool} (h : LV m0 m g L ox oy S V) (e : ∀ x y : Nat, x < lgW g → y < lgH g → V' x y = V x y) : LV m0 m g L ox oy S V' := LV_mk h.q h.f (fun x y hx hy => by rw [e x y hx hy]; exact h.d x y hx hy)
theorem LV.step {g : Nat → Int32} {ox oy : Nat} {S V : Int → Int → Bool} {x y : Int} (h : LV m0 m g L ox oy S V) (hv : V x y = false) (h1 : -1000000 ≤ x) (h2 : x ≤ 1000000) (h3 : -1000000 ≤ y) (h4 : y ≤ 1000000) : ∃ m', f_X12_lay_ (iz x) (iz y) (cI (S x y)) m = some ((), m') ∧ LV m0 m' g L ox oy S (fun a b => V a b || (decide (a = x) && decide (b = y))) := by
  obtain ⟨m', e1, e2, e3⟩ := m_lay (b := S x y) h.q h1 h2 h3 h4
  refine ⟨m', e1, LV_mk (h.q.fr e2) (h.f.trans e2) (fun a b ha hb => ?_)⟩
  have hin := ph_in ha hb
  have hpg := pg_le (g 0)
  rw [e3 _ _ (by omega), h.d a b ha hb]
  by_cases q : (a : Int) = x ∧ (b : Int) = y
  · obtain ⟨rfl, rfl⟩ := q
    rw [if_pos ⟨⟨by omega, by omega, by omega, by omega⟩, rfl, rfl⟩]
    rw [hv, if_neg (by decide), decide_eq_true rfl, decide_eq_true rfl]
    rfl
  · have n1 : (decide ((a : Int) = x) && decide ((b : Int) = y)) = false := by
      by_cases q1 : (a : Int) = x
      · rw [decide_eq_false (fun z => q ⟨q1, z⟩), Bool.and_false]
      · rw [decide_eq_false q1, Bool.false_and]
    have n2 : ¬ ((0 ≤ x ∧ 0 ≤ y ∧ x < lgW g ∧ y < lgH g) ∧ phX g a b = phX g x.toNat y.toNat ∧ phY g a b = phY g x.toNat y.toNat) := by
      rintro ⟨⟨z1, z2, z3, z4⟩, z5, z6⟩
      have := ph_inj ha hb (by omega) (by omega) z5 z6
      exact q ⟨by omega, by omega⟩
    rw [if_neg n2]
    rw [n1, Bool.or_false]
end A6
