/-! A tile's dots, and a row painted, on the class's side. -/
theorem s_ul : ∀ n, n < 64 → (((nI n).toInt64.toUInt64 &&& Int64.toUInt64 63).toBitVec % 64).toNat = n := by decide +kernel
theorem l_shl (n : Nat) (hn : n < 64) (x : Int64) {i : Nat} (hi : i < 64) : lbt (x <<< ((nI n).toInt64 &&& 63)) i = (decide (n ≤ i) && lbt x (i - n)) := by
  unfold lbt
  rw [Int64.toBitVec_shiftLeft]
  show (x.toBitVec <<< (((nI n).toInt64 &&& 63).toBitVec.smod 64).toNat).getLsbD i = _
  rw [sm63 n hn, BitVec.getLsbD_shiftLeft]
  rcases Nat.lt_or_ge i n with h | h
  · simp [h, Nat.not_le.mpr h]
  · simp [hi, h, Nat.not_lt.mpr h]
theorem l_ushr (n : Nat) (hn : n < 64) (x : Int64) (i : Nat) : lbt ((x.toUInt64 >>> ((nI n).toInt64.toUInt64 &&& Int64.toUInt64 63)).toInt64) i = lbt x (n + i) := by
  show (x.toUInt64 >>> ((nI n).toInt64.toUInt64 &&& Int64.toUInt64 63)).toBitVec.getLsbD i = x.toUInt64.toBitVec.getLsbD (n + i)
  rw [UInt64.toBitVec_shiftRight]
  show (x.toUInt64.toBitVec >>> (((nI n).toInt64.toUInt64 &&& Int64.toUInt64 63).toBitVec % 64).toNat).getLsbD i = _
  rw [s_ul n hn, BitVec.getLsbD_ushiftRight]
theorem l_or (x y : Int64) (i : Nat) : lbt (x ||| y) i = (lbt x i || lbt y i) := by unfold lbt; rw [Int64.toBitVec_or, BitVec.getLsbD_or]
theorem l_big {x : Int64} {i : Nat} (h : 64 ≤ i) : lbt x i = false := BitVec.getLsbD_of_ge _ _ h
theorem l_to32 (x : Int64) {i : Nat} (hi : i < 32) : bt x.toInt32 i = lbt x i := by
  unfold bt lbt
  rw [Int64.toBitVec_toInt32, BitVec.getLsbD_signExtend, decide_eq_true hi, Bool.true_and, if_pos (by omega)]
theorem l_of32 (x : Int32) {i : Nat} (hi : i < 64) : lbt x.toInt64 i = if i < 32 then bt x i else bt x 31 := by
  unfold bt lbt
  rw [Int32.toBitVec_toInt64, BitVec.getLsbD_signExtend, decide_eq_true hi, Bool.true_and, BitVec.msb_eq_getLsbD_last]
theorem sgn (x : Int32) : bt x 31 = decide (x < 0) := by
  have h := BitVec.msb_eq_toInt (x := x.toBitVec)
  rw [BitVec.msb_eq_getLsbD_last] at h
  show x.toBitVec.getLsbD 31 = _
  rw [show x.toBitVec.getLsbD 31 = x.toBitVec.getLsbD (32 - 1) from rfl, h, decide_eq_decide, Int32.lt_iff_toInt_lt]
  rfl
section A7
variable {c c' : Mm} {L : Nat → Int32}
theorem xor_sg {a : Int} {n : Nat} (h1 : -1073741824 ≤ a) (h2 : a < 1073741824) (h4 : n < 1073741824) : 0 ≤ (iz a ^^^ nI n) ↔ 0 ≤ a := by
  have e : bt (iz a ^^^ nI n) 31 = decide (a < 0) := by
    rw [b_xor, sgn, sgn, decide_eq_false (nI_pos (by omega)), Bool.xor_false, decide_eq_decide]
    exact iz_nn (by omega) (by omega)
  rw [sgn, decide_eq_decide] at e
  constructor
  · intro h
    by_cases q : 0 ≤ a
    · exact q
    · exact absurd (e.mpr (by omega)) (Int32.not_lt.mpr h)
  · intro h
    exact Int32.not_lt.mp (fun y => by have := e.mp y; omega)
theorem f_fmod {a : Int} {n : Nat} (h1 : -1073741824 ≤ a) (h2 : a < 1073741824) (h3 : 0 < n) (h4 : n < 1073741824) : f_J9_floorMod_7cf53 (iz a) (nI n) c = some (iz (a % n), c) := by
  have hb := tmb (a := a) (n := (n : Int)) (by omega) (by omega)
  have hs := xor_sg h1 h2 h4
  have ht : (0 ≤ a → 0 ≤ a.tmod n) ∧ (a < 0 → a.tmod n ≤ 0) := ⟨fun h => by rw [Int.tmod_eq_emod_of_nonneg h]; exact Int.emod_nonneg _ (by omega), fun h => by
    have e := Int.neg_tmod (-a) (n : Int)
    rw [Int.neg_neg, Int.tmod_eq_emod_of_nonneg (show 0 ≤ -a by omega)] at e
    have := Int.emod_nonneg (-a) (show (n : Int) ≠ 0 by omega)
    omega⟩
  unfold f_J9_floorMod_7cf53
  rw [gd_eq (nI_ne0 h3 (by omega)), nI_iz n, izrem h1 h2 (by omega) (by omega), lb_eq, ← nI_iz n, emodT a n (by omega)]
  by_cases q : 0 ≤ a
  · rw [if_pos (hs.mpr q), if_pos (ht.1 q)]
  · rw [if_neg (fun y => q (hs.mp y))]
    have t2 := ht.2 (by omega)
    by_cases z : a.tmod n = 0
    · rw [z, if_pos (by rfl), if_pos (by omega)]
    · rw [if_neg (show ¬ iz (a.tmod n) = 0 from fun y => z ((iz_inj (b := 0) (by omega) (by omega) (by omega) (by omega)).mp y)), if_neg (by omega), nI_iz, iz_add]
theorem f_fdiv {a : Int} {n : Nat} (h1 : -1073741823 ≤ a) (h2 : a < 1073741824) (h3 : 0 < n) (h4 : n < 1073741824) : f_J9_floorDiv_7cf53 (iz a) (nI n) c = some (iz (a / n), c) := by
  have hs := xor_sg (by omega) h2 h4
  have d1 := Int.tmod_add_mul_tdiv a (n : Int)
  have d2 := Int.tmod_lt_of_pos a (show (0 : Int) < n by omega)
  have d3 := Int.lt_tmod_of_pos a (show (0 : Int) < n by omega)
  have tb : -1073741824 ≤ a.tdiv n ∧ a.tdiv n < 1073741824 := by
    have := Int.natAbs_tdiv_le_natAbs a (n : Int)
    omega
  have ht : (0 ≤ a → 0 ≤ a.tmod n) ∧ (a < 0 → a.tmod n ≤ 0) := ⟨fun h => by rw [Int.tmod_eq_emod_of_nonneg h]; exact Int.emod_nonneg _ (by omega), fun h => by
    have e := Int.neg_tmod (-a) (n : Int)
    rw [Int.neg_neg, Int.tmod_eq_emod_of_nonneg (show 0 ≤ -a by omega)] at e
    have := Int.emod_nonneg (-a) (show (n : Int) ≠ 0 by omega)
    omega⟩
  unfold f_J9_floorDiv_7cf53
  rw [gd_eq (nI_ne0 h3 (by omega)), nI_iz n, iz_div (by omega) (by omega) (by omega) (by omega), lb_eq, ← nI_iz n]
  by_cases q : 0 ≤ a
  · rw [if_pos (hs.mpr q), ((Int.ediv_emod_unique (r := a.tmod n) (q := a.tdiv n) (show (0 : Int) < n by omega)).mpr ⟨d1, ht.1 q, d2⟩).1]
  · rw [if_neg (fun y => q (hs.mp y)), nI_iz n, iz_mul]
    have t2 := ht.2 (by omega)
    rw [Int.mul_comm] at d1
    have mb : a.tdiv n * n = a - a.tmod n := by omega
    by_cases z : a.tmod n = 0
    · rw [if_pos (by rw [mb, z]; congr 1; omega)]
      rw [Int.mul_comm] at d1
      rw [((Int.ediv_emod_unique (r := a.tmod n) (q := a.tdiv n) (show (0 : Int) < n by omega)).mpr ⟨d1, by omega, d2⟩).1]
    · rw [if_neg (fun y => by
        have := (iz_inj (by omega) (by omega) (by omega) (by omega)).mp y
        omega), show (1 : Int32) = iz 1 from rfl, iz_sub]
      rw [((Int.ediv_emod_unique (a := a) (r := a.tmod n + n) (q := a.tdiv n - 1) (show (0 : Int) < n by omega)).mpr ⟨by rw [Int.mul_sub, Int.mul_one, Int.mul_comm]; omega, by omega, by omega⟩).1]
theorem max1 {w : Nat} (h : 1 ≤ w) (h2 : w < 2 ^ 31) : (if nI w < 1 then 1 else nI w) = nI w := if_neg (show ¬ nI w < nI 1 from nI_nlt h h2)
theorem c_rowAt {t h : Nat} {b : Int} (e : gI c 1001 t = nI h) (h1 : 1 ≤ h) (h2 : h ≤ 16) (b1 : -1000000 ≤ b) (b2 : b ≤ 1000000) : f_X10_rowAt t (iz b) c = some (gB c (t + 1) (b % h).toNat, c) := by
  have m1 := Int.emod_nonneg b (show (h : Int) ≠ 0 by omega)
  have m2 := Int.emod_lt_of_pos b (show (0 : Int) < h by omega)
  unfold f_X10_rowAt
  rw [e, f_max, max1 h1 (by omega), bd_eq, f_fmod (by omega) (by omega) (by omega) (by omega), bd_eq]
  obtain ⟨u, hu, hu2⟩ : ∃ u : Nat, b % (h : Int) = u ∧ u < h := ⟨(b % (h : Int)).toNat, by omega, by omega⟩
  rw [hu, ← nI_iz, if_neg (show ¬ (16 : Int32) ≤ nI u from nI_ge (b := 16) (by omega) (by omega)), ix_in (j := u) (nI_pos (by omega)) (nI_clamp (by omega)) (by omega)]
  rfl
theorem c_dots {t w : Nat} {a : Int} {row : Int64} (e : gI c 1000 t = nI w) (h1 : 1 ≤ w) (h2 : w ≤ 16) (b1 : -1000000 ≤ a) (b2 : a ≤ 1000000) : ∃ v, f_X10_dotsFrom t row (iz a) c = some (v, c) ∧ ∀ j, j < 32 → bt v (31 - j) = lbt row (63 - ((a % w).toNat + j)) := by
  have m1 := Int.emod_nonneg a (show (w : Int) ≠ 0 by omega)
  have m2 := Int.emod_lt_of_pos a (show (0 : Int) < w by omega)
  unfold f_X10_dotsFrom
  rw [e, f_max, max1 h1 (by omega), bd_eq, f_fmod (by omega) (by omega) (by omega) (by omega), bd_eq]
  obtain ⟨u, hu, hu2⟩ : ∃ u : Nat, a % (w : Int) = u ∧ u < w := ⟨(a % (w : Int)).toNat, by omega, by omega⟩
  rw [hu, ← nI_iz]
  refine ⟨_, rfl, fun j hj => ?_⟩
  rw [l_to32 _ (by omega), show (32 : Int32) = nI 32 from rfl, l_ushr 32 (by omega), l_shl u (by omega) _ (by omega), decide_eq_true (by omega), Bool.true_and]
  congr 1
  show _ = 63 - ((u : Int).toNat + j)
  rw [show (u : Int).toNat = u from rfl]
  omega
/-- what the class's ink and box are -/
def IK (c : Mm) (t : Nat) (L : Nat → Int32) (ox oy : Nat) (so po : Bool) (fx tx : Nat) : Prop := (gR c 10 24 = some t) ∧ (kS true t = 10) ∧ (TR c t L) ∧ (gI c 11 24 = nI ox) ∧ (gI c 12 24 = nI oy) ∧ (gI c 13 24 = fI so) ∧ (gI c 14 24 = fI po) ∧ (gI c 6 24 = nI fx) ∧ (gI c 7 24 = nI tx) ∧ (ox ≤ 800) ∧ (oy ≤ 800) ∧ (fx < tx) ∧ (tx ≤ 800)
theorem IK.r {c : Mm} {t : Nat} {L : Nat → Int32} {ox oy : Nat} {so po : Bool} {fx tx : Nat} (h : IK c t L ox oy so po fx tx) : gR c 10 24 = some t := h.1
theorem IK.k {c : Mm} {t : Nat} {L : Nat → Int32} {ox oy : Nat} {so po : Bool} {fx tx : Nat} (h : IK c t L ox oy so po fx tx) : kS true t = 10 := h.2.1
theorem IK.q {c : Mm} {t : Nat} {L : Nat → Int32} {ox oy : Nat} {so po : Bool} {fx tx : Nat} (h : IK c t L ox oy so po fx tx) : TR c t L := h.2.2.1
theorem IK.x {c : Mm} {t : Nat} {L : Nat → Int32} {ox oy : Nat} {so po : Bool} {fx tx : Nat} (h : IK c t L ox oy so po fx tx) : gI c 11 24 = nI ox := h.2.2.2.1
theorem IK.y {c : Mm} {t : Nat} {L : Nat → Int32} {ox oy : Nat} {so po : Bool} {fx tx : Nat} (h : IK c t L ox oy so po fx tx) : gI c 12 24 = nI oy := h.2.2.2.2.1
theorem IK.s {c : Mm} {t : Nat} {L : Nat → Int32} {ox oy : Nat} {so po : Bool} {fx tx : Nat} (h : IK c t L ox oy so po fx tx) : gI c 13 24 = fI so := h.2.2.2.2.2.1
theorem IK.p {c : Mm} {t : Nat} {L : Nat → Int32} {ox oy : Nat} {so po : Bool} {fx tx : Nat} (h : IK c t L ox oy so po fx tx) : gI c 14 24 = fI po := h.2.2.2.2.2.2.1
theorem IK.f {c : Mm} {t : Nat} {L : Nat → Int32} {ox oy : Nat} {so po : Bool} {fx tx : Nat} (h : IK c t L ox oy so po fx tx) : gI c 6 24 = nI fx := h.2.2.2.2.2.2.2.1
theorem IK.g {c : Mm} {t : Nat} {L : Nat → Int32} {ox oy : Nat} {so po : Bool} {fx tx : Nat} (h : IK c t L ox oy so po fx tx) : gI c 7 24 = nI tx := h.2.2.2.2.2.2.2.2.1
theorem IK.x1 {c : Mm} {t : Nat} {L : Nat → Int32} {ox oy : Nat} {so po : Bool} {fx tx : Nat} (h : IK c t L ox oy so po fx tx) : ox ≤ 800 := h.2.2.2.2.2.2.2.2.2.1
theorem IK.y1 {c : Mm} {t : Nat} {L : Nat → Int32} {ox oy : Nat} {so po : Bool} {fx tx : Nat} (h : IK c t L ox oy so po fx tx) : oy ≤ 800 := h.2.2.2.2.2.2.2.2.2.2.1
theorem IK.h1 {c : Mm} {t : Nat} {L : Nat → Int32} {ox oy : Nat} {so po : Bool} {fx tx : Nat} (h : IK c t L ox oy so po fx tx) : fx < tx := h.2.2.2.2.2.2.2.2.2.2.2.1
theorem IK.h2 {c : Mm} {t : Nat} {L : Nat → Int32} {ox oy : Nat} {so po : Bool} {fx tx : Nat} (h : IK c t L ox oy so po fx tx) : tx ≤ 800 := h.2.2.2.2.2.2.2.2.2.2.2.2
theorem IK_mk {c : Mm} {t : Nat} {L : Nat → Int32} {ox oy : Nat} {so po : Bool} {fx tx : Nat} (r : gR c 10 24 = some t) (k : kS true t = 10) (q : TR c t L) (x : gI c 11 24 = nI ox) (y : gI c 12 24 = nI oy) (s : gI c 13 24 = fI so) (p : gI c 14 24 = fI po) (f : gI c 6 24 = nI fx) (g : gI c 7 24 = nI tx) (x1 : ox ≤ 800) (y1 : oy ≤ 800) (h1 : fx < tx) (h2 : tx ≤ 800) : IK c t L ox oy so po fx tx := ⟨r, k, q, x, y, s, p, f, g, x1, y1, h1, h2⟩
def a25 (a : Nat) : Bool := a == 25
theorem IK.fr {t ox oy fx tx : Nat} {so po : Bool} {PA : Nat → Bool} (h : IK c t L ox oy so po fx tx) (f : Fr nF PA c c') (e : PA (t + 1) = false) : IK c' t L ox oy so po fx tx :=
  IK_mk ((f.r rfl).trans h.r) h.k (h.q.fr (f.i rfl) (f.i rfl) (f.i rfl) (f.b e)) ((f.i rfl).trans h.x) ((f.i rfl).trans h.y) ((f.i rfl).trans h.s) ((f.i rfl).trans h.p) ((f.i rfl).trans h.f) ((f.i rfl).trans h.g) h.x1 h.y1 h.h1 h.h2
theorem b_fI (b : Bool) {i : Nat} (hi : i < 32) : bt (fI b) i = b := by
  cases b
  · exact b_0 i
  · exact b_m1 i hi
theorem pw_bit {old line paint mk : Int32} {so po : Bool} {i : Nat} (hi : i < 32) : bt ((old &&& ((((line &&& (paint ^^^ (-1))) &&& fI po) ||| ((line ^^^ (-1)) &&& fI so)) &&& mk ^^^ (-1))) ||| (line &&& paint) &&& mk) i = if bt mk i = true then pnt (bt line i) (bt paint i) so po (bt old i) else bt old i := by
  simp only [b_or, b_and, b_xor, b_m1 i hi, b_fI _ hi]
  unfold pnt
  cases bt mk i <;> cases bt line i <;> cases bt paint i <;> cases so <;> cases po <;> cases bt old i <;> rfl
theorem c_prow {t ox oy fx tx y : Nat} {so po : Bool} (h : IK c t L ox oy so po fx tx) (hy : y < 800) : ∃ c', f_X0_paintRow (nI y) c = some ((), c') ∧ Fr nF a25 c c' ∧ ∀ X Y, X < 800 → Y < 800 → dotW (gA c' 25) (25 * Y) X = if Y = y ∧ fx ≤ X ∧ X < tx then pnt (dotW (gA c 26) 0 X) (pd L ((X : Int) - ox) ((y : Int) - oy)) so po (dotW (gA c 25) (25 * Y) X) else dotW (gA c 25) (25 * Y) X := by
  have hx1 := h.x1
  have hy1 := h.y1
  have hh1 := h.h1
  have hh2 := h.h2
  obtain ⟨_, w, hh, w1, w2, w3, w4, w5, w6, _, _, w9⟩ := h.q
  have tk : t ≠ 25 ∧ t + 1 ≠ 25 := by
    have := h.k
    constructor
    · rintro rfl; revert this; decide
    · intro e
      have e2 : t = 24 := by omega
      rw [e2] at this
      revert this; decide
  -- the words from w on
  have go : ∀ (n q : Nat) (T : Mm) (row : Int64), row = gB c (t + 1) ((((y : Int) - oy) % hh).toNat) → (tx - 1) / 32 + 1 - q < n → fx / 32 ≤ q → q ≤ (tx - 1) / 32 + 1 → Fr nF a25 c T → (∀ X Y, X < 800 → Y < 800 → dotW (gA T 25) (25 * Y) X = if Y = y ∧ (fx ≤ X ∧ X < tx) ∧ X < 32 * q then pnt (dotW (gA c 26) 0 X) (pd L ((X : Int) - ox) ((y : Int) - oy)) so po (dotW (gA c 25) (25 * Y) X) else dotW (gA c 25) (25 * Y) X) → ∃ c', f_X0_paintRow_l76 n row (nI ((tx - 1) / 32)) (nI (y * 25)) (nI q) T = some ((), c') ∧ Fr nF a25 c c' ∧ ∀ X Y, X < 800 → Y < 800 → dotW (gA c' 25) (25 * Y) X = if Y = y ∧ fx ≤ X ∧ X < tx then pnt (dotW (gA c 26) 0 X) (pd L ((X : Int) - ox) ((y : Int) - oy)) so po (dotW (gA c 25) (25 * Y) X) else dotW (gA c 25) (25 * Y) X := by
    intro n
    induction n with
    | zero => intro q T row _ h; omega
    | succ n ih =>
      intro q T row hrow g1 g2 g3 g4 g5
      show ∃ c', f_X0_paintRow_b76 (f_X0_paintRow_l76 n) row (nI ((tx - 1) / 32)) (nI (y * 25)) (nI q) T = _ ∧ _
      unfold f_X0_paintRow_b76
      by_cases e : (tx - 1) / 32 < q
      · rw [if_pos (nI_lt e (by omega))]
        refine ⟨T, rfl, g4, fun X Y hX hY => ?_⟩
        rw [g5 X Y hX hY]
        by_cases z : Y = y ∧ fx ≤ X ∧ X < tx
        · rw [if_pos ⟨z.1, z.2, by omega⟩, if_pos z]
        · rw [if_neg (fun v => z ⟨v.1, v.2.1⟩), if_neg z]
      · have hT := h.fr (c' := T) (PA := a25) g4 (by simp [a25]; omega)
        obtain ⟨v, v1, v2⟩ := c_dots (c := T) (t := t) (a := 32 * (q : Int) - ox) (row := row) (by rw [g4.i rfl]; exact w5) w1 w2 (by omega) (by omega)
        rw [if_neg (nI_nlt (by omega) (by omega)), hT.f, hT.g, f_maskOf hh1 (by omega) (by omega) (by omega), bd_eq, rf_eq hT.r hT.k, hT.x, show (32 : Int32) * nI q = nI (32 * q) from pk_mul 32 q, nI_iz ox, nI_iz (32 * q), iz_sub, show ((32 * q : Nat) : Int) - (ox : Int) = 32 * (q : Int) - ox by omega, v1, bd_eq, ix_in (j := q) (nI_pos (by omega)) (nI_clamp (by omega)) (by omega), lb_eq, lb_eq, lb_eq, nI_add, lb_eq, ix_in (j := y * 25 + q) (nI_pos (by omega)) (nI_clamp (by omega)) (by omega), ix_in (j := y * 25 + q) (nI_pos (by omega)) (nI_clamp (by omega)) (by omega), lb_eq, show nI q + 1 = nI (q + 1) from nI_add q 1, hT.s, hT.p, g4.a (show a25 26 = false from rfl)]
        refine ih (q + 1) _ row hrow (by omega) (by omega) (by omega) (g4.uA _ _ rfl) (fun X Y hX hY => ?_)
        have eX : ∀ D : Nat → Int32, dotW D (25 * Y) X = bt (D (25 * Y + X / 32)) (31 - X % 32) := fun D => rfl
        by_cases z : Y = y ∧ X / 32 = q
        · obtain ⟨rfl, z2⟩ := z
          rw [eX, gA_wr, show 25 * Y + X / 32 = Y * 25 + q by omega, wr_s, pw_bit (by omega), mskW_bt (by omega) (by omega) (by omega), v2 (X % 32) (by omega), show q * 32 + X % 32 = X by omega]
          have old : bt (gA T 25 (Y * 25 + q)) (31 - X % 32) = dotW (gA c 25) (25 * Y) X := by
            have := g5 X Y hX hY
            rw [if_neg (fun v => by omega), eX, show 25 * Y + X / 32 = Y * 25 + q by omega] at this
            exact this
          have ln : bt (gA c 26 q) (31 - X % 32) = dotW (gA c 26) 0 X := by
            show _ = bt (gA c 26 (0 + X / 32)) (31 - X % 32)
            rw [Nat.zero_add, z2]
          have m1 := Int.emod_nonneg (32 * (q : Int) - ox) (show (w : Int) ≠ 0 by omega)
          have m2 := Int.emod_lt_of_pos (32 * (q : Int) - ox) (show (0 : Int) < w by omega)
          have pat : lbt row (63 - (((32 * (q : Int) - ox) % w).toNat + X % 32)) = pd L ((X : Int) - ox) ((Y : Int) - oy) := by
            rw [hrow]
            refine w9 _ _ _ (by omega) ?_
            rw [Int.natCast_add, Int.toNat_of_nonneg m1, Int.emod_add_emod]
            congr 1
            omega
          rw [old, ln, pat]
          by_cases k : fx ≤ X ∧ X < tx
          · rw [decide_eq_true k.1, decide_eq_true k.2, if_pos (show (true && true) = true from rfl), if_pos ⟨rfl, k, by omega⟩]
          · have : (decide (fx ≤ X) && decide (X < tx)) = false := by
              by_cases k1 : fx ≤ X
              · rw [decide_eq_false (fun v => k ⟨k1, v⟩), Bool.and_false]
              · rw [decide_eq_false k1, Bool.false_and]
            rw [this, if_neg (by decide), if_neg (fun v => k v.2.1)]
        · rw [eX, gA_wr, wr_o _ (by omega), ← eX, g5 X Y hX hY]
          by_cases k : Y = y ∧ (fx ≤ X ∧ X < tx) ∧ X < 32 * q
          · rw [if_pos k, if_pos ⟨k.1, k.2.1, by omega⟩]
          · rw [if_neg k, if_neg (fun v => k ⟨v.1, v.2.1, by omega⟩)]
  obtain ⟨c', e1, e2, e3⟩ := go FU (fx / 32) c _ rfl (FU_gt (by omega)) (by omega) (by omega) Fr.refl (fun X Y hX hY => by rw [if_neg (fun v => by omega)])
  refine ⟨c', ?_, e2, e3⟩
  unfold f_X0_paintRow
  rw [rf_eq h.r h.k, h.y, nI_iz oy, nI_iz y, iz_sub, c_rowAt w6 w3 w4 (by omega) (by omega), bd_eq, h.f, h.g, pk_shrN (n := fx) (by omega) _ 5 (by decide), lb_eq, show nI tx - 1 = nI (tx - 1) from pk_sub (b := 1) (by omega), pk_shrN (n := tx - 1) (by omega) _ 5 (by decide), lb_eq, ← nI_iz y, show nI y * (25 : Int32) = nI (y * 25) from pk_mul y 25, lb_eq, if_neg (nI_pos (by omega)), if_neg (show ¬ (25 : Int32) ≤ nI ((tx - 1) / 2 ^ 5) from nI_ge (b := 25) (by omega) (by omega)), if_neg (nI_pos (by omega)), nI_add, if_pos (show nI (y * 25 + (tx - 1) / 2 ^ 5) < (20000 : Int32) from nI_lt (b := 20000) (by omega) (by omega))]
  exact e1
end A7
