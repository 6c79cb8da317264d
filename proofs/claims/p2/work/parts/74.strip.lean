/-! The bits of a STRIP, on both sides. -/
def bN (b : Bool) : Nat := if b then 1 else 0
/-- n bits from q on, the first one highest -/
def pkb (bs : Nat → Bool) (q : Nat) : Nat → Nat
  | 0 => 0
  | n + 1 => pkb bs q n * 2 + bN (bs (q + n))
theorem bN_lt (b : Bool) : bN b < 2 := by cases b <;> decide
theorem pkb_lt (bs : Nat → Bool) (q : Nat) : ∀ n, pkb bs q n < 2 ^ n
  | 0 => Nat.zero_lt_one
  | n + 1 => by
    have h1 := pkb_lt bs q n
    have h2 := bN_lt (bs (q + n))
    show pkb bs q n * 2 + bN (bs (q + n)) < 2 ^ (n + 1)
    rw [Nat.pow_succ]; omega
theorem pkb_add (bs : Nat → Bool) (q a : Nat) : ∀ b, pkb bs q (a + b) = pkb bs q a * 2 ^ b + pkb bs (q + a) b
  | 0 => by simp [pkb]
  | b + 1 => by
    show pkb bs q (a + b) * 2 + bN (bs (q + (a + b))) = pkb bs q a * 2 ^ (b + 1) + (pkb bs (q + a) b * 2 + bN (bs (q + a + b)))
    rw [pkb_add bs q a b, Nat.pow_succ, Nat.add_assoc q a b, ← Nat.mul_assoc]
    generalize pkb bs q a * 2 ^ b = z
    omega
theorem pkb_bit (bs : Nat → Bool) (q : Nat) : ∀ n i, i < n → (pkb bs q n).testBit i = bs (q + n - 1 - i)
  | n + 1, i, h => by
    show (pkb bs q n * 2 + bN (bs (q + n))).testBit i = _
    have e : pkb bs q n * 2 + bN (bs (q + n)) = 2 ^ 1 * pkb bs q n + bN (bs (q + n)) := by omega
    rw [e, Nat.testBit_two_pow_mul_add _ (bN_lt _)]
    by_cases q0 : i = 0
    · subst q0
      rw [if_pos (by omega), show q + (n + 1) - 1 - 0 = q + n by omega]
      cases bs (q + n) <;> decide
    · rw [if_neg (by omega), pkb_bit bs q n (i - 1) (by omega)]
      congr 1; omega
def StC (c : Mm) (nb : Nat) (bs : Nat → Bool) : Prop := gI c 319 129 = nI nb ∧ nb ≤ 96000 ∧ nb % 8 = 0 ∧ (∀ t, t < nb → bt (gA c 131 (t / 8)) (7 - t % 8) = bs t) ∧ ∀ t, nb ≤ t → bs t = false
def StM (m : Mm) (nb : Nat) (bs : Nat → Bool) : Prop := gJ m 1277 133 = lN nb ∧ nb ≤ 96000 ∧ ∃ st cf tu, gI m 1267 133 = nI st ∧ gI m 1276 133 = nI cf ∧ gI m 1279 133 = cI tu ∧ st + cf + nb / 8 ≤ 12000 ∧ nb % 8 = 0 ∧ ∀ t, t < nb → bt (gA m 152 (st + cf + t / 8)) (if tu then t % 8 else 7 - t % 8) = bs t
theorem m_bit {m : Mm} {nb q : Nat} {bs : Nat → Bool} (h : StM m nb bs) (hq : gJ m 1278 133 = lN q) (hq2 : q < 2 ^ 30) : f_X12_bit m = if q < nb then some (cI (bs q), uJ m 1278 133 (lN (q + 1))) else some (2, m) := by
  obtain ⟨h1, h2, st, cf, tu, h3, h4, h5, h6, h7, h8⟩ := h
  unfold f_X12_bit
  simp only [c_lt]
  rw [hq, h1]
  rcases Nat.lt_or_ge q nb with hlt | hge
  · have e8 : lN q / 8 = lN (q / 8) := pk_lDiv (b := 8) (by omega) (by decide) (by decide)
    have r8 : lN q - lN q / 8 * 8 = lN (q % 8) := pk_lRem (b := 8) (by omega) (by decide) (by decide)
    rw [if_pos ((pk_lLT (by omega) (by omega)).mpr hlt), if_pos hlt, r8, e8, lN_i, lN_i, h3, h4, nI_add, nI_add, ix_in (j := st + cf + q / 8) (nI_pos (by omega)) (nI_clamp (by omega)) (by omega), lb_eq, lb_eq, lb_eq, show lN q + 1 = lN (q + 1) from lN_1 q]
    rw [show gI (uJ m 1278 133 (lN (q + 1))) 1279 133 = cI tu from h5]
    have hb := h8 q hlt
    have d255 : ∀ {k : Nat}, k < 8 → bt (gA m 152 (st + cf + q / 8) &&& 255) k = bt (gA m 152 (st + cf + q / 8)) k := fun hk => by rw [b_and, b_255, decide_eq_true hk, Bool.and_true]
    cases tu
    · rw [if_pos (by decide), show (7 : Int32) - nI (q % 8) = nI (7 - q % 8) from pk_sub (a := 7) (by omega), sdot _ (by omega), d255 (by omega)]
      simp only [Bool.false_eq_true, if_false] at hb
      rw [hb]
    · rw [if_neg (by decide), sdot _ (by omega), d255 (by omega)]
      simp only [if_true] at hb
      rw [hb]
  · rw [if_neg (fun z => by rw [pk_lLT (by omega) (by omega)] at z; omega), if_neg (by omega)]
theorem n_or {v b k : Nat} (hb : b < 2 ^ k) : nI (v * 2 ^ k) ||| nI b = nI (v * 2 ^ k + b) := b_ext fun i hi => by
  rw [b_or, nI_bt hi, nI_bt hi, nI_bt hi, Nat.mul_comm, Nat.testBit_two_pow_mul_add _ hb, ← Nat.zero_add (2 ^ k * v), Nat.add_comm 0, ]
  have := Nat.testBit_two_pow_mul_add v (b := 0) (i := k) (Nat.two_pow_pos k) i
  rw [Nat.add_zero] at this
  rw [Nat.add_zero, this]
  by_cases h : i < k
  · rw [if_pos h, if_pos h]; simp
  · rw [if_neg h, if_neg h, Nat.testBit_lt_two_pow (Nat.lt_of_lt_of_le hb (Nat.pow_le_pow_right (by decide) (by omega)))]; simp
theorem st_byte {c : Mm} {nb i : Nat} {bs : Nat → Bool} (h : StC c nb bs) (hi : 8 * i < nb) : gA c 131 i &&& 255 = nI (pkb bs (8 * i) 8) := b_ext fun j hj => by
  rw [b_and, b_255, nI_bt hj]
  by_cases h8 : j < 8
  · rw [decide_eq_true h8, Bool.and_true, pkb_bit _ _ _ _ h8]
    have := h.2.2.2.1 (8 * i + (7 - j)) (by have := h.2.2.1; omega)
    rw [show (8 * i + (7 - j)) / 8 = i by omega, show 7 - (8 * i + (7 - j)) % 8 = j by omega] at this
    rw [this]; congr 1; omega
  · rw [decide_eq_false h8, Bool.and_false, Nat.testBit_lt_two_pow (Nat.lt_of_lt_of_le (pkb_lt _ _ _) (Nat.pow_le_pow_right (by decide) (by omega)))]
theorem pkb_false (bs : Nat → Bool) (q : Nat) : ∀ n, (∀ i, i < n → bs (q + i) = false) → pkb bs q n = 0
  | 0, _ => rfl
  | n + 1, h => by
    show pkb bs q n * 2 + bN (bs (q + n)) = 0
    rw [pkb_false bs q n (fun i hi => h i (by omega)), h n (by omega)]; rfl
theorem msk : ∀ n, n < 14 → ((1 : Int32) <<< (nI n &&& 31)) - 1 = nI (2 ^ n - 1) ∧ (nI (2 ^ n - 1)).toBitVec.toNat = 2 ^ n - 1 := by decide +kernel
theorem c_peek {c : Mm} {nb q n : Nat} {bs : Nat → Bool} (h : StC c nb bs) (hq : gI c 318 129 = nI q) (hq2 : q < 2 ^ 28) (hn : n ≤ 13) : f_X3_peek (nI n) c = some (nI (pkb bs q n), c) := by
  unfold f_X3_peek
  rw [hq, pk_shrN (n := q) (by omega) _ 3 (by decide), lb_eq]
  have step : ∀ (k i v : Nat), i < q / 8 + 3 → q / 8 ≤ i → v < 2 ^ 16 → f_X3_peek_l12 (k + 1) (nI n) (nI (q / 8)) (nI v) (nI i) c = f_X3_peek_l12 k (nI n) (nI (q / 8)) (nI (v * 256 + pkb bs (8 * i) 8)) (nI (i + 1)) c := by
    intro k i v hi hi2 hv
    show f_X3_peek_b12 (f_X3_peek_l12 k) _ _ _ _ _ = _
    unfold f_X3_peek_b12
    have e8 : nI v <<< ((8 : Int32) &&& 31) = nI (v * 2 ^ 8) := pk_shlN (n := v) _ 8 (by decide) (by omega)
    have z52 : pkb bs (8 * i) 8 = 0 → f_X3_peek_52 (f_X3_peek_l12 k) (nI n) (nI (q / 8)) (nI v) (nI i) 0 c = f_X3_peek_l12 k (nI n) (nI (q / 8)) (nI (v * 256 + pkb bs (8 * i) 8)) (nI (i + 1)) c := by
      intro hz
      unfold f_X3_peek_52
      rw [if_pos rfl, e8, lb_eq, show (0 : Int32) = nI 0 from rfl, n_or (by decide), hz, nI_1]
    rw [show nI (q / 8) + 3 = nI (q / 8 + 3) from nI_add _ 3, if_neg (nI_ge hi (by omega)), if_neg (nI_pos (by omega)), h.1, show (8 : Int32) * nI i = nI (8 * i) from pk_mul 8 i]
    have hnb := h.2.1
    rcases Nat.lt_or_ge (8 * i) nb with q1 | q1
    · rw [if_neg (show ¬ (12000 : Int32) ≤ nI i from nI_ge (b := 12000) (by omega) (by omega)), if_neg (nI_ge q1 (by omega))]
      unfold f_X3_peek_52
      rw [if_neg (by decide), ix_in (j := i) (nI_pos (by omega)) (nI_clamp (by omega)) (by omega), e8, st_byte h q1, n_or (pkb_lt bs (8 * i) 8), lb_eq, nI_1]
    · have hz : pkb bs (8 * i) 8 = 0 := pkb_false _ _ _ (fun j _ => h.2.2.2.2 _ (by omega))
      rw [if_pos (nI_le q1 (by omega)), z52 hz]
      split <;> rfl
  have hF : FU = 3999999996 + 1 + 1 + 1 + 1 := rfl
  rw [hF, show (0 : Int32) = nI 0 from rfl, step _ (q / 8) 0 (by omega) (by omega) (by omega)]
  have b1 := pkb_lt bs (8 * (q / 8)) 8
  have b2 := pkb_lt bs (8 * (q / 8 + 1)) 8
  have b3 := pkb_lt bs (8 * (q / 8 + 1 + 1)) 8
  rw [step _ (q / 8 + 1) _ (by omega) (by omega) (by omega), step _ (q / 8 + 1 + 1) _ (by omega) (by omega) (by omega)]
  have e24 : (((0 * 256 + pkb bs (8 * (q / 8)) 8) * 256 + pkb bs (8 * (q / 8 + 1)) 8) * 256 + pkb bs (8 * (q / 8 + 1 + 1)) 8) = pkb bs (8 * (q / 8)) 24 := by
    rw [show (24 : Nat) = 8 + 16 from rfl, pkb_add bs (8 * (q / 8)) 8 16, show (16 : Nat) = 8 + 8 from rfl, pkb_add bs (8 * (q / 8) + 8) 8 8, show 8 * (q / 8) + 8 = 8 * (q / 8 + 1) by omega, show 8 * (q / 8 + 1) + 8 = 8 * (q / 8 + 1 + 1) by omega]
    omega
  rw [e24]
  show f_X3_peek_b12 (f_X3_peek_l12 3999999996) _ _ _ _ _ = _
  unfold f_X3_peek_b12
  rw [show nI (q / 8) + 3 = nI (q / 8 + 3) from nI_add _ 3, if_pos (nI_le (by omega) (by omega)), hq, show (7 : Int32) = nI 7 from rfl, pk_andN (n := q) (by omega) 3 (by decide), show (24 : Int32) - nI (q % 2 ^ 3) = nI (24 - q % 2 ^ 3) from pk_sub (a := 24) (by omega), pk_sub (by omega), (msk n (by omega)).1]
  have hb := pkb_lt bs (8 * (q / 8)) 24
  rw [pk_shrN (n := pkb bs (8 * (q / 8)) 24) (by omega) _ (24 - q % 2 ^ 3 - n) (s_l _ (by omega)), pk_andN (Nat.lt_of_le_of_lt (Nat.div_le_self _ _) (by omega)) n (msk n (by omega)).2]
  congr 3
  have e1 : 24 = q % 8 + (n + (24 - q % 2 ^ 3 - n)) := by omega
  rw [show pkb bs (8 * (q / 8)) 24 = pkb bs (8 * (q / 8)) (q % 8 + (n + (24 - q % 2 ^ 3 - n))) from congrArg _ e1, pkb_add, show 8 * (q / 8) + q % 8 = q by omega, pkb_add bs q n]
  generalize hk : 24 - q % 2 ^ 3 - n = k
  have hl := pkb_lt bs (q + n) k
  have hn2 := pkb_lt bs q n
  have e3 : pkb bs (8 * (q / 8)) (q % 8) * 2 ^ (n + k) + (pkb bs q n * 2 ^ k + pkb bs (q + n) k) = (pkb bs (8 * (q / 8)) (q % 8) * 2 ^ n + pkb bs q n) * 2 ^ k + pkb bs (q + n) k := by
    rw [Nat.pow_add, Nat.add_mul, Nat.mul_assoc]; omega
  rw [e3, Nat.add_comm, Nat.add_mul_div_right _ _ (Nat.two_pow_pos k), Nat.div_eq_of_lt hl, Nat.zero_add, Nat.add_comm, Nat.add_mul_mod_self_right, Nat.mod_eq_of_lt hn2]
theorem c_skip {c : Mm} {nb q k : Nat} {bs : Nat → Bool} (h : StC c nb bs) (hq : gI c 318 129 = nI q) (hq2 : q + k < 2 ^ 28) : f_X3_skipBits (nI k) c = some (cI (decide (q + k ≤ nb)), uI c 318 129 (nI (q + k))) := by
  have hnb := h.2.1
  unfold f_X3_skipBits
  rw [hq, nI_add, lb_eq]
  have e1 : gI (uI c 318 129 (nI (q + k))) 319 129 = nI nb := by rw [gI_uI, if_neg (by decide)]; exact h.1
  have e2 : gI (uI c 318 129 (nI (q + k))) 318 129 = nI (q + k) := by rw [gI_uI, if_pos ⟨rfl, rfl⟩]
  rw [e1, e2]
  by_cases z : q + k ≤ nb
  · rw [if_neg (nI_nlt z (by omega)), decide_eq_true z]; rfl
  · rw [if_pos (nI_lt (by omega) (by omega)), decide_eq_false z]; rfl
