/-! A picture file's bytes and numbers, on both sides. -/
/-- the first i bytes of n at place a, lowest or highest first -/
def nmr (F : Nat → Nat) (lo : Bool) (a n : Nat) : Nat → Nat
  | 0 => 0
  | i + 1 => nmr F lo a n i * 256 + F (if lo then a + n - 1 - i else a + i)
def nm (F : Nat → Nat) (lo : Bool) (a n : Nat) : Nat := nmr F lo a n n
theorem nmr_lt {F : Nat → Nat} (hF : ∀ i, F i < 256) {lo : Bool} {a n : Nat} : ∀ i, nmr F lo a n i < 256 ^ i
  | 0 => Nat.zero_lt_one
  | i + 1 => by
    have h1 := nmr_lt hF (lo := lo) (a := a) (n := n) i
    have h2 := hF (if lo then a + n - 1 - i else a + i)
    show nmr F lo a n i * 256 + F _ < 256 ^ (i + 1)
    rw [Nat.pow_succ]
    omega
def PicC (c : Mm) (st sz : Nat) (F : Nat → Nat) : Prop := gR c 301 129 = some 2 ∧ gI c 302 129 = nI st ∧ gI c 303 129 = nI sz ∧ st + sz ≤ 12000 ∧ (∀ i, i < sz → gA c 2 (st + i) &&& 255 = nI (F i)) ∧ (∀ i, F i < 256) ∧ (∀ i, sz ≤ i → F i = 0)
def PicM (m : Mm) (st sz : Nat) (F : Nat → Nat) : Prop := gI m 1267 133 = nI st ∧ gI m 1268 133 = nI sz ∧ st + sz ≤ 12000 ∧ (∀ i, i < sz → gA m 152 (st + i) &&& 255 = nI (F i)) ∧ (∀ i, F i < 256)
theorem pic_byte {c : Mm} {st sz i : Nat} {F : Nat → Nat} (h : PicC c st sz F) (hi : i < 2 ^ 60) : f_X3_byteAt (lN i) c = some (nI (F i), c) := by
  obtain ⟨h1, h2, h3, h4, h5, h6, h7⟩ := h
  unfold f_X3_byteAt
  rw [h2, h3, nI_l (by omega), nI_l (by omega), lN_add, lb_eq]
  simp only [c_lt, c_ge]
  rw [if_neg (fun q : lN i < (0 : Int64) => by rw [show (0 : Int64) = lN 0 from rfl, pk_lLT (by omega) (by omega)] at q; omega)]
  rcases Nat.lt_or_ge i sz with hlt | hge
  · rw [if_neg (fun q : lN sz ≤ lN i => by rw [pk_lLE (by omega) (by omega)] at q; omega), rf_eq (c := 13) h1 kq_2, show LN 2 = 12000 from lq_2, onat, nI_l (by omega), if_neg (fun q : lN 12000 ≤ lN (st + i) => by rw [pk_lLE (by omega) (by omega)] at q; omega), rf_eq (c := 13) h1 kq_2, lN_i, show LN 2 = 12000 from lq_2, ix_in (j := st + i) (nI_pos (by omega)) (nI_clamp (by omega)) (by omega), h5 i hlt]
  · rw [if_pos ((pk_lLE (by omega) (by omega)).mpr hge), h7 i hge]; rfl
theorem l_byte {v b : Nat} (hv : v < 2 ^ 40) (hb : b < 256) : (lN v <<< ((8 : Int32).toInt64 &&& 63)) ||| (nI b).toInt64 = lN (v * 256 + b) := by
  rw [show (8 : Int32) = nI 8 from rfl, wb_shl v (by omega), nI_l (by omega), wb_or (by omega) (by omega)]
  congr 1
  have : v * 2 ^ 8 = v <<< 8 := (Nat.shiftLeft_eq v 8).symm
  rw [this, ← Nat.shiftLeft_add_eq_or_of_lt (by omega : b < 2 ^ 8), Nat.shiftLeft_eq]
theorem p256 : ∀ i, i ≤ 4 → 256 ^ i ≤ 2 ^ 32 := by decide
theorem pic_num {c : Mm} {st sz a n : Nat} {F : Nat → Nat} {lo : Bool} (h : PicC c st sz F) (hl : gI c 306 129 = cI lo) (ha : a < 2 ^ 50) (hn : n ≤ 4) : f_X3_number (lN a) (nI n) c = some (lN (nm F lo a n), c) := by
  unfold f_X3_number
  have go : ∀ (k i : Nat), i ≤ n → n - i < k → f_X3_number_l6 k (lN a) (nI n) (lN (nmr F lo a n i)) (nI i) c = some (lN (nm F lo a n), c) := by
    intro k
    induction k with
    | zero => intro i _ h; omega
    | succ k ih =>
      intro i hi hk
      show f_X3_number_b6 (f_X3_number_l6 k) _ _ _ _ _ = _
      unfold f_X3_number_b6
      rcases Nat.lt_or_ge i n with hlt | hge
      · have hb := nmr_lt h.2.2.2.2.2.1 (lo := lo) (a := a) (n := n) i
        have hb2 : nmr F lo a n i < 2 ^ 40 := Nat.lt_of_lt_of_le hb (Nat.le_trans (p256 i (by omega)) (by omega))
        rw [if_neg (nI_ge hlt (by omega)), hl]
        cases lo
        · rw [if_pos (by decide), nI_l (by omega), lN_add, pic_byte h (by omega), bd_eq, l_byte hb2 (h.2.2.2.2.2.1 _), lb_eq, nI_1]
          exact ih (i + 1) (by omega) (by omega)
        · rw [if_neg (by decide), nI_l (by omega), nI_l (by omega), lN_add, show lN (a + n) - 1 = lN (a + n - 1) from lN_sub (b := 1) (by omega), lN_sub (by omega), pic_byte h (by omega), bd_eq, l_byte hb2 (h.2.2.2.2.2.1 _), lb_eq, nI_1]
          exact ih (i + 1) (by omega) (by omega)
      · have : i = n := by omega
        subst this
        rw [if_pos (Int32.le_refl _)]; rfl
  exact go FU 0 (by omega) (FU_gt (by omega))
theorem picm_num {m : Mm} {st sz a n : Nat} {F : Nat → Nat} {lo : Bool} (h : PicM m st sz F) (hl : gI m 1269 133 = cI (!lo)) (ha : a + n ≤ sz) (hn : n ≤ 4) : f_X12_picture (nI a) (nI n) m = some (lN (nm F lo a n), m) := by
  obtain ⟨h1, h2, h3, h4, h5⟩ := h
  unfold f_X12_picture
  have go : ∀ (k i : Nat), i ≤ n → n - i < k → f_X12_picture_l5 k (nI a) (nI n) (lN (nmr F lo a n i)) (nI i) m = some (lN (nm F lo a n), m) := by
    intro k
    induction k with
    | zero => intro i _ h; omega
    | succ k ih =>
      intro i hi hk
      show f_X12_picture_b5 (f_X12_picture_l5 k) _ _ _ _ _ = _
      unfold f_X12_picture_b5
      rcases Nat.lt_or_ge i n with hlt | hge
      · have hb := nmr_lt h5 (lo := lo) (a := a) (n := n) i
        have hb2 : nmr F lo a n i < 2 ^ 40 := Nat.lt_of_lt_of_le hb (Nat.le_trans (p256 i (by omega)) (by omega))
        have step : ∀ j, j < n → F (a + j) = F (if lo then a + n - 1 - i else a + i) → f_X12_picture_39 (f_X12_picture_l5 k) (nI a) (nI n) (lN (nmr F lo a n i)) (nI i) (nI j) (nI st + nI a) m = some (lN (nm F lo a n), m) := by
          intro j hj hF
          unfold f_X12_picture_39
          rw [nI_add, nI_add, ix_in (j := st + a + j) (nI_pos (by omega)) (nI_clamp (by omega)) (by omega), lb_eq, show st + a + j = st + (a + j) by omega, h4 (a + j) (by omega), l_byte hb2 (h5 _), lb_eq, nI_1, hF]
          exact ih (i + 1) (by omega) (by omega)
        rw [if_neg (nI_ge hlt (by omega)), hl, h1]
        cases lo
        · rw [if_neg (by decide)]
          exact step i hlt rfl
        · rw [if_pos (by decide), show nI n - 1 = nI (n - 1) from pk_sub (b := 1) (by omega), pk_sub (by omega)]
          exact step (n - 1 - i) (by omega) (by rw [if_pos rfl]; congr 1; omega)
      · have : i = n := by omega
        subst this
        rw [if_pos (Int32.le_refl _)]; rfl
  exact go FU 0 (by omega) (FU_gt (by omega))
