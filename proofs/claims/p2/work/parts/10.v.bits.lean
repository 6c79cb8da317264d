/-! ===== Int32 by its bits: bt x i ===== -/
def bt (x : Int32) (i : Nat) : Bool := x.toBitVec.getLsbD i
theorem b_ext {x y : Int32} (h : ∀ i, i < 32 → bt x i = bt y i) : x = y := Int32.toBitVec_inj.mp (BitVec.eq_of_getLsbD_eq (fun i hi => h i hi))
theorem b_or (x y : Int32) (i : Nat) : bt (x ||| y) i = (bt x i || bt y i) := by unfold bt; rw [Int32.toBitVec_or, BitVec.getLsbD_or]
theorem b_and (x y : Int32) (i : Nat) : bt (x &&& y) i = (bt x i && bt y i) := by unfold bt; rw [Int32.toBitVec_and, BitVec.getLsbD_and]
theorem b_xor (x y : Int32) (i : Nat) : bt (x ^^^ y) i = (bt x i ^^ bt y i) := by unfold bt; rw [Int32.toBitVec_xor, BitVec.getLsbD_xor]
theorem b_big {x : Int32} {i : Nat} (h : 32 ≤ i) : bt x i = false := BitVec.getLsbD_of_ge _ _ h
theorem b_255 (i : Nat) : bt 255 i = decide (i < 8) := by
  rcases Nat.lt_or_ge i 32 with h | h
  · exact (by decide +kernel : ∀ i, i < 32 → bt 255 i = decide (i < 8)) i h
  · rw [b_big h, decide_eq_false (by omega)]
theorem b_65535 (i : Nat) : bt 65535 i = decide (i < 16) := by
  rcases Nat.lt_or_ge i 32 with h | h
  · exact (by decide +kernel : ∀ i, i < 32 → bt 65535 i = decide (i < 16)) i h
  · rw [b_big h, decide_eq_false (by omega)]
theorem b_m1 : ∀ i, i < 32 → bt (-1) i = true := by decide +kernel
theorem b_0 (i : Nat) : bt 0 i = false := BitVec.getLsbD_zero
theorem s_l : ∀ n, n < 32 → ((nI n &&& 31).toBitVec.smod 32).toNat = n := by decide +kernel
theorem s_u : ∀ n, n < 32 → (((nI n).toUInt32 &&& Int32.toUInt32 31).toBitVec % 32).toNat = n := by decide +kernel
theorem b_shl (n : Nat) (hn : n < 32) (x : Int32) {i : Nat} (hi : i < 32) : bt (x <<< (nI n &&& 31)) i = (decide (n ≤ i) && bt x (i - n)) := by
  unfold bt
  rw [Int32.toBitVec_shiftLeft]
  show (x.toBitVec <<< ((nI n &&& 31).toBitVec.smod 32).toNat).getLsbD i = _
  rw [s_l n hn, BitVec.getLsbD_shiftLeft]
  rcases Nat.lt_or_ge i n with h | h
  · simp [h, Nat.not_le.mpr h]
  · simp [hi, h, Nat.not_lt.mpr h]
theorem b_ushr (n : Nat) (hn : n < 32) (x : Int32) (i : Nat) : bt ((x.toUInt32 >>> ((nI n).toUInt32 &&& Int32.toUInt32 31)).toInt32) i = bt x (n + i) := by
  show (x.toUInt32 >>> ((nI n).toUInt32 &&& Int32.toUInt32 31)).toBitVec.getLsbD i = x.toUInt32.toBitVec.getLsbD (n + i)
  rw [UInt32.toBitVec_shiftRight]
  show (x.toUInt32.toBitVec >>> (((nI n).toUInt32 &&& Int32.toUInt32 31).toBitVec % 32).toNat).getLsbD i = _
  rw [s_u n hn, BitVec.getLsbD_ushiftRight]
theorem b_sshr (n : Nat) (hn : n < 32) (x : Int32) {i : Nat} (hi : i < 32) : bt (x >>> (nI n &&& 31)) i = if n + i < 32 then bt x (n + i) else bt x 31 := by
  unfold bt
  rw [Int32.toBitVec_shiftRight]
  show (x.toBitVec.sshiftRight ((nI n &&& 31).toBitVec.smod 32).toNat).getLsbD i = _
  rw [s_l n hn, BitVec.getLsbD_sshiftRight, BitVec.msb_eq_getLsbD_last]
  simp [hi]
theorem b_shl8 (x : Int32) {i : Nat} (hi : i < 32) : bt (x <<< ((8 : Int32) &&& 31)) i = (decide (8 ≤ i) && bt x (i - 8)) := b_shl 8 (by omega) x hi
theorem b_shl16 (x : Int32) {i : Nat} (hi : i < 32) : bt (x <<< ((16 : Int32) &&& 31)) i = (decide (16 ≤ i) && bt x (i - 16)) := b_shl 16 (by omega) x hi
theorem b_shl24 (x : Int32) {i : Nat} (hi : i < 32) : bt (x <<< ((24 : Int32) &&& 31)) i = (decide (24 ≤ i) && bt x (i - 24)) := b_shl 24 (by omega) x hi
theorem b_sshr8 (x : Int32) {i : Nat} (hi : i < 32) : bt (x >>> ((8 : Int32) &&& 31)) i = if 8 + i < 32 then bt x (8 + i) else bt x 31 := b_sshr 8 (by omega) x hi
/-! ===== lN n to 2^64: shifts, and, or, masks, one bit ===== -/
theorem wb_tb (n : Nat) : (lN n).toBitVec = BitVec.ofNat 64 n := rfl
theorem wb_inj {a b : Int64} (h : a.toBitVec = b.toBitVec) : a = b := Int64.toBitVec_inj.mp h
theorem wb_tn {n : Nat} (h : n < 2 ^ 64) : (lN n).toBitVec.toNat = n := by rw [wb_tb, BitVec.toNat_ofNat, Nat.mod_eq_of_lt h]
theorem wb_of (x : Int64) : ∃ n, n < 2 ^ 64 ∧ x = lN n := ⟨x.toBitVec.toNat, x.toBitVec.isLt, wb_inj (by rw [wb_tb]; simp)⟩
theorem wb_of32 (x : Int32) : ∃ n, n < 2 ^ 32 ∧ x = nI n := ⟨x.toBitVec.toNat, x.toBitVec.isLt, Int32.toBitVec_inj.mp (by show _ = BitVec.ofNat 32 _; simp)⟩
theorem wb_c : ∀ k, k < 64 → ((nI k).toInt64 &&& 63) = lN k := by decide +kernel
theorem wb_cu : ∀ k, k < 64 → ((nI k).toInt64.toUInt64 &&& Int64.toUInt64 63) = UInt64.ofNat k := by decide +kernel
theorem wb_sm : ∀ k, k < 64 → (BitVec.ofNat 64 k).smod 64 = BitVec.ofNat 64 k := by decide +kernel
theorem wb_pw {a b : Nat} (h : a ≤ b) : 2 ^ b = 2 ^ a * 2 ^ (b - a) := by rw [← Nat.pow_add]; congr 1; omega
theorem wb_lt2 {a b : Nat} (h : a < b) : 2 ^ a < 2 ^ b := Nat.pow_lt_pow_right (by decide) h
theorem wb_mod (n : Nat) : lN n = lN (n % 2 ^ 64) := wb_inj (by rw [wb_tb, wb_tb]; apply BitVec.eq_of_toNat_eq; rw [BitVec.toNat_ofNat, BitVec.toNat_ofNat, Nat.mod_mod])
theorem wb_shr {n k : Nat} (hn : n < 2 ^ 64) (hk : k < 64) : ((lN n).toUInt64 >>> ((nI k).toInt64.toUInt64 &&& Int64.toUInt64 63)).toInt64 = lN (n / 2 ^ k) := by
  rw [wb_cu k hk]
  apply wb_inj
  apply BitVec.eq_of_toNat_eq
  show ((lN n).toUInt64 >>> UInt64.ofNat k).toNat = (BitVec.ofNat 64 _).toNat
  have h1 : (UInt64.ofNat k).toNat = k := by
    show (BitVec.ofNat 64 k).toNat = k
    rw [BitVec.toNat_ofNat, Nat.mod_eq_of_lt (by omega)]
  have h2 : (lN n).toUInt64.toNat = n := wb_tn hn
  rw [UInt64.toNat_shiftRight, h1, h2, Nat.mod_eq_of_lt hk, Nat.shiftRight_eq_div_pow, BitVec.toNat_ofNat, Nat.mod_eq_of_lt (Nat.lt_of_le_of_lt (Nat.div_le_self _ _) hn)]
theorem wb_shl (n : Nat) {k : Nat} (hk : k < 64) : lN n <<< ((nI k).toInt64 &&& 63) = lN (n * 2 ^ k) := by
  rw [wb_c k hk]
  apply wb_inj
  rw [Int64.toBitVec_shiftLeft, wb_tb, wb_tb, wb_tb, wb_sm k hk]
  apply BitVec.eq_of_toNat_eq
  rw [BitVec.shiftLeft_eq', BitVec.toNat_shiftLeft, BitVec.toNat_ofNat, BitVec.toNat_ofNat, BitVec.toNat_ofNat, Nat.mod_eq_of_lt (show k < 2 ^ 64 by omega), Nat.shiftLeft_eq, Nat.mul_mod, Nat.mod_mod, ← Nat.mul_mod]
theorem wb_and {a b : Nat} (ha : a < 2 ^ 64) (hb : b < 2 ^ 64) : lN a &&& lN b = lN (a &&& b) := by
  apply wb_inj
  rw [Int64.toBitVec_and, wb_tb, wb_tb, wb_tb]
  apply BitVec.eq_of_toNat_eq
  rw [BitVec.toNat_and, BitVec.toNat_ofNat, BitVec.toNat_ofNat, BitVec.toNat_ofNat, Nat.mod_eq_of_lt ha, Nat.mod_eq_of_lt hb, Nat.mod_eq_of_lt (Nat.and_lt_two_pow _ hb)]
theorem wb_or {a b : Nat} (ha : a < 2 ^ 64) (hb : b < 2 ^ 64) : lN a ||| lN b = lN (a ||| b) := by
  apply wb_inj
  rw [Int64.toBitVec_or, wb_tb, wb_tb, wb_tb]
  apply BitVec.eq_of_toNat_eq
  rw [BitVec.toNat_or, BitVec.toNat_ofNat, BitVec.toNat_ofNat, BitVec.toNat_ofNat, Nat.mod_eq_of_lt ha, Nat.mod_eq_of_lt hb, Nat.mod_eq_of_lt (Nat.or_lt_two_pow ha hb)]
theorem wb_mask {n k : Nat} (hn : n < 2 ^ 64) (hk : k < 64) : lN n &&& lN (2 ^ k - 1) = lN (n % 2 ^ k) := by
  rw [wb_and hn (by have := wb_lt2 hk; omega), Nat.and_two_pow_sub_one_eq_mod]
theorem wb_a1 {n : Nat} (hn : n < 2 ^ 64) : lN n &&& 1 = lN (n % 2) := wb_mask (k := 1) hn (by decide)
theorem wb_bit {n k : Nat} (hn : n < 2 ^ 64) (hk : k < 64) : ((lN n).toUInt64 >>> ((nI k).toInt64.toUInt64 &&& Int64.toUInt64 63)).toInt64 &&& 1 = lN (n / 2 ^ k % 2) := by
  rw [wb_shr hn hk, wb_a1 (Nat.lt_of_le_of_lt (Nat.div_le_self _ _) hn)]
theorem wb_xor {q k : Nat} (hk : k < 63) (h : 2 ^ k ≤ q) (h2 : q < 2 ^ (k + 1)) : lN q ^^^ lN (2 ^ k) = lN (q - 2 ^ k) := by
  obtain ⟨r, rfl⟩ : ∃ r, q = 2 ^ k + r := ⟨q - 2 ^ k, by omega⟩
  have hr : r < 2 ^ k := by rw [Nat.pow_succ] at h2; omega
  have hx : (2 ^ k + r) ^^^ 2 ^ k = r := by
    apply Nat.eq_of_testBit_eq
    intro i
    rw [Nat.testBit_xor, Nat.testBit_two_pow]
    rcases Nat.lt_trichotomy i k with h | h | h
    · rw [Nat.testBit_two_pow_add_gt h]
      simp [show ¬ k = i by omega]
    · subst h
      rw [Nat.testBit_two_pow_add_eq]
      simp
    · have a1 : 2 ^ (k + 1) ≤ 2 ^ i := Nat.pow_le_pow_right (by decide) h
      rw [Nat.testBit_lt_two_pow (show 2 ^ k + r < 2 ^ i by omega), Nat.testBit_lt_two_pow (show r < 2 ^ i by omega)]
      simp [show ¬ k = i by omega]
  have b1 := wb_lt2 (show k + 1 < 64 by omega)
  have b2 := wb_lt2 (show k < 64 by omega)
  apply wb_inj
  rw [Int64.toBitVec_xor, wb_tb, wb_tb, wb_tb]
  apply BitVec.eq_of_toNat_eq
  rw [BitVec.toNat_xor, BitVec.toNat_ofNat, BitVec.toNat_ofNat, BitVec.toNat_ofNat, Nat.mod_eq_of_lt (by omega : 2 ^ k + r < 2 ^ 64), Nat.mod_eq_of_lt b2, hx, Nat.add_sub_cancel_left, Nat.mod_eq_of_lt (by omega)]
/-! Rows of dots as truth values: the first place that differs; zeros ahead. -/
def cI (c : Bool) : Int32 := if c then 1 else 0
def fI (c : Bool) : Int32 := if c then -1 else 0
theorem fI_eq (c : Bool) : -(cI c) = fI c := by cases c <;> decide
theorem fI_bt (c : Bool) {i : Nat} (hi : i < 32) : bt (fI c) i = c := by
  cases c
  · exact b_0 i
  · exact b_m1 i hi
theorem cI_not (c : Bool) : 1 - cI c = cI (!c) := by cases c <;> decide
theorem cI_ne0 {c : Bool} (h : ¬ cI c = 0) : c = true := by cases c <;> simp_all [cI]
theorem cI_eq0 {c : Bool} (h : cI c = 0) : c = false := by cases c <;> simp_all [cI]
theorem cI_inj {a b : Bool} : cI a = cI b ↔ a = b := by cases a <;> cases b <;> decide
/-- the first place from i on, n further at most, where P is not c -/
def foR (P : Nat → Bool) (c : Bool) : Nat → Nat → Nat
  | 0, i => i
  | n + 1, i => if P i = c then foR P c n (i + 1) else i
def fo (P : Nat → Bool) (fr wd : Nat) (c : Bool) : Nat := if fr < wd then foR P c (wd - fr) fr else wd
section FO
variable {P : Nat → Bool} {c : Bool}
theorem foR_le : ∀ (n i : Nat), i ≤ foR P c n i ∧ foR P c n i ≤ i + n
  | 0, i => ⟨Nat.le_refl i, Nat.le_refl i⟩
  | n + 1, i => by
    have h := foR_le n (i + 1)
    unfold foR
    split <;> omega
theorem foR_eq : ∀ (n i j : Nat), i ≤ j → j < foR P c n i → P j = c
  | 0, i, j, h1, h2 => absurd h2 (Nat.not_lt.mpr h1)
  | n + 1, i, j, h1, h2 => by
    unfold foR at h2
    split at h2
    · rename_i hp
      by_cases e : j = i
      · rw [e]; exact hp
      · exact foR_eq n (i + 1) j (by omega) h2
    · omega
theorem foR_ne : ∀ (n i : Nat), foR P c n i < i + n → P (foR P c n i) ≠ c
  | 0, i, h => absurd h (Nat.lt_irrefl i)
  | n + 1, i, h => by
    unfold foR at h ⊢
    split at h
    · rename_i hp
      rw [if_pos hp]
      exact foR_ne n (i + 1) (by omega)
    · rename_i hp
      rw [if_neg hp]
      exact hp
theorem fo_le {fr wd : Nat} : fo P fr wd c ≤ wd := by
  unfold fo
  split
  · have := (foR_le (P := P) (c := c) (wd - fr) fr).2
    omega
  · exact Nat.le_refl _
theorem fo_ge {fr wd : Nat} (h : fr ≤ wd) : fr ≤ fo P fr wd c := by
  unfold fo
  split
  · exact (foR_le (P := P) (c := c) (wd - fr) fr).1
  · exact h
theorem fo_eq {fr wd j : Nat} (h1 : fr ≤ j) (h2 : j < fo P fr wd c) : P j = c := by
  unfold fo at h2
  split at h2
  · exact foR_eq _ _ j h1 h2
  · omega
theorem fo_ne {fr wd : Nat} (h : fo P fr wd c < wd) : P (fo P fr wd c) ≠ c := by
  unfold fo at h ⊢
  split at h
  · rename_i hf
    rw [if_pos hf]
    exact foR_ne _ _ (by omega)
  · omega
theorem fo_is {fr wd r : Nat} (h1 : fr ≤ r) (h2 : r ≤ wd) (h3 : ∀ j, fr ≤ j → j < r → P j = c) (h4 : r < wd → P r ≠ c) : fo P fr wd c = r := by
  have a1 : fr ≤ fo P fr wd c := fo_ge (Nat.le_trans h1 h2)
  have a2 : fo P fr wd c ≤ wd := fo_le
  rcases Nat.lt_trichotomy (fo P fr wd c) r with h | h | h
  · exact absurd (h3 _ a1 h) (fo_ne (by omega))
  · exact h
  · exact absurd (fo_eq h1 h) (h4 (by omega))
theorem fo_out {fr wd : Nat} (h : wd ≤ fr) : fo P fr wd c = wd := by
  unfold fo
  rw [if_neg (by omega)]
theorem fo_all {fr wd : Nat} (h0 : fr ≤ wd) (h : ∀ j, fr ≤ j → j < wd → P j = c) : fo P fr wd c = wd := fo_is h0 (Nat.le_refl _) h (fun q => absurd q (Nat.lt_irrefl _))
theorem fo_here {fr wd : Nat} (h0 : fr < wd) (h : P fr ≠ c) : fo P fr wd c = fr := fo_is (Nat.le_refl _) (Nat.le_of_lt h0) (fun j h1 h2 => by omega) (fun _ => h)
end FO
/-- zeros ahead of a word's first 1 -/
def lz (w : Int32) : Nat := foR (fun k => bt w (31 - k)) false 32 0
theorem lz_le (w : Int32) : lz w ≤ 32 := by have := (foR_le (P := fun k => bt w (31 - k)) (c := false) 32 0).2; unfold lz; omega
theorem lz_no {w : Int32} {k : Nat} (h : k < lz w) : bt w (31 - k) = false := foR_eq (P := fun k => bt w (31 - k)) 32 0 k (Nat.zero_le k) h
theorem lz_yes {w : Int32} (h : lz w < 32) : bt w (31 - lz w) = true := by
  have := foR_ne (P := fun k => bt w (31 - k)) (c := false) 32 0 (by unfold lz at h; omega)
  simpa [lz] using this
theorem lz_lt {w : Int32} (h : ¬ w = 0) : lz w < 32 := by
  rcases Nat.lt_or_ge (lz w) 32 with h1 | h1
  · exact h1
  · refine absurd (b_ext (fun i hi => ?_)) h
    rw [b_0]
    have := lz_no (w := w) (k := 31 - i) (by omega)
    rwa [show 31 - (31 - i) = i by omega] at this
def sm (n : Nat) (F : Int32) : Int32 := F ||| (F.toUInt32 >>> ((nI n).toUInt32 &&& Int32.toUInt32 31)).toInt32
theorem sm_step {F w : Int32} {n : Nat} (hn : n < 32) (h : ∀ i, bt F i = true ↔ ∃ t, t < n ∧ bt w (i + t) = true) (i : Nat) : bt (sm n F) i = true ↔ ∃ t, t < 2 * n ∧ bt w (i + t) = true := by
  unfold sm
  rw [b_or, b_ushr n hn, Bool.or_eq_true, h i, h (n + i)]
  constructor
  · rintro (⟨t, h1, h2⟩ | ⟨t, h1, h2⟩)
    · exact ⟨t, by omega, h2⟩
    · exact ⟨n + t, by omega, by rw [show i + (n + t) = n + i + t by omega]; exact h2⟩
  · rintro ⟨t, h1, h2⟩
    by_cases ht : t < n
    · exact Or.inl ⟨t, ht, h2⟩
    · exact Or.inr ⟨t - n, by omega, by rw [show n + i + (t - n) = i + t by omega]; exact h2⟩
theorem sm_all (w : Int32) (i : Nat) : bt (sm 16 (sm 8 (sm 4 (sm 2 (sm 1 w))))) i = true ↔ ∃ t, t < 32 ∧ bt w (i + t) = true :=
  sm_step (by decide) (sm_step (by decide) (sm_step (by decide) (sm_step (by decide) (sm_step (by decide) (fun i => ⟨fun h => ⟨0, by decide, h⟩, fun ⟨t, h1, h2⟩ => by rw [show t = 0 by omega] at h2; exact h2⟩))))) i
theorem low_bt : ∀ k, k < 33 → ∀ i, i < 32 → bt (nI (2 ^ k - 1)) i = decide (i < k) := by decide +kernel
theorem sm_low (w : Int32) : sm 16 (sm 8 (sm 4 (sm 2 (sm 1 w)))) = nI (2 ^ (32 - lz w) - 1) := b_ext fun i hi => by
  rw [low_bt _ (by omega) i hi, Bool.eq_iff_iff, sm_all, decide_eq_true_iff]
  have hle := lz_le w
  constructor
  · rintro ⟨t, h1, h2⟩
    have h31 : i + t < 32 := by
      rcases Nat.lt_or_ge (i + t) 32 with q | q
      · exact q
      · rw [b_big q] at h2; cases h2
    rcases Nat.lt_or_ge (31 - (i + t)) (lz w) with q | q
    · have := lz_no q
      rw [show 31 - (31 - (i + t)) = i + t by omega, h2] at this
      cases this
    · omega
  · intro h
    exact ⟨31 - lz w - i, by omega, by rw [show i + (31 - lz w - i) = 31 - lz w by omega]; exact lz_yes (by omega)⟩
def bc1 (x : Int32) : Int32 := x - ((x.toUInt32 >>> ((1 : Int32).toUInt32 &&& Int32.toUInt32 31)).toInt32 &&& 1431655765)
def bc2 (x : Int32) : Int32 := (x &&& 858993459) + ((x.toUInt32 >>> ((2 : Int32).toUInt32 &&& Int32.toUInt32 31)).toInt32 &&& 858993459)
def bc3 (x : Int32) : Int32 := (x + (x.toUInt32 >>> ((4 : Int32).toUInt32 &&& Int32.toUInt32 31)).toInt32) &&& 252645135
def bc4 (x : Int32) : Int32 := x + (x.toUInt32 >>> ((8 : Int32).toUInt32 &&& Int32.toUInt32 31)).toInt32
def bc5 (x : Int32) : Int32 := x + (x.toUInt32 >>> ((16 : Int32).toUInt32 &&& Int32.toUInt32 31)).toInt32
def bcE (x : Int32) : Int32 := bc5 (bc4 (bc3 (bc2 (bc1 x)))) &&& 63
theorem bc_low : ∀ k, k < 33 → bcE (nI (2 ^ k - 1)) = nI k := by decide +kernel
theorem za_ok (w : Int32) : 32 - bcE (sm 16 (sm 8 (sm 4 (sm 2 (sm 1 w))))) = nI (lz w) := by
  have hle := lz_le w
  rw [sm_low, bc_low _ (by omega)]
  have := pk_sub (a := 32) (b := 32 - lz w) (by omega)
  rw [show 32 - (32 - lz w) = lz w by omega] at this
  exact this
/-- the dots of a row of words, from word rw on -/
def dotW (D : Nat → Int32) (rw x : Nat) : Bool := bt (D (rw + x / 32)) (31 - x % 32)
/-- firstOther's word at hand: the dots of word q of the row, from fr on, that are not c; none were before -/
def FOI (D : Nat → Int32) (rw fr : Nat) (c : Bool) (q : Nat) (b : Int32) : Prop := (∀ i, i < 32 → bt b (31 - i) = (decide (fr ≤ 32 * q + i) && (dotW D rw (32 * q + i) != c))) ∧ (∀ j, fr ≤ j → j < 32 * q → dotW D rw j = c)
theorem bne_xor (a b : Bool) : (a ^^ b) = (a != b) := by cases a <;> cases b <;> rfl
def msk0 (n : Nat) : Int32 := ((-1 : Int32).toUInt32 >>> ((nI n).toUInt32 &&& Int32.toUInt32 31)).toInt32
theorem msk0_bt {n i : Nat} (hn : n < 32) : bt (msk0 n) i = decide (n + i < 32) := by
  unfold msk0
  rw [b_ushr n hn]
  rcases Nat.lt_or_ge (n + i) 32 with h | h
  · rw [b_m1 _ h, decide_eq_true h]
  · rw [b_big h, decide_eq_false (by omega)]
theorem foi_0 {D : Nat → Int32} {rw fr : Nat} {c : Bool} : FOI D rw fr c (fr / 32) ((D (rw + fr / 32) ^^^ fI c) &&& msk0 (fr % 32)) := by
  refine ⟨fun i hi => ?_, fun j h1 h2 => absurd h1 (by omega)⟩
  rw [b_and, b_xor, fI_bt c (by omega), msk0_bt (by omega), bne_xor]
  unfold dotW
  rw [show (32 * (fr / 32) + i) / 32 = fr / 32 by omega, show (32 * (fr / 32) + i) % 32 = i by omega, Bool.and_comm]
  congr 1
  exact decide_eq_decide.mpr (by omega)
theorem foi_zero {D : Nat → Int32} {rw fr q : Nat} {c : Bool} (h : FOI D rw fr c q 0) (j : Nat) (h1 : fr ≤ j) (h2 : j < 32 * (q + 1)) : dotW D rw j = c := by
  rcases Nat.lt_or_ge j (32 * q) with h3 | h3
  · exact h.2 j h1 h3
  · have := h.1 (j - 32 * q) (by omega)
    rw [b_0, show 32 * q + (j - 32 * q) = j by omega, decide_eq_true h1] at this
    simpa using this.symm
theorem foi_next {D : Nat → Int32} {rw fr q : Nat} {c : Bool} (hq : fr / 32 ≤ q) (h : FOI D rw fr c q 0) : FOI D rw fr c (q + 1) (D (rw + (q + 1)) ^^^ fI c) := by
  refine ⟨fun i hi => ?_, fun j h1 h2 => foi_zero h j h1 h2⟩
  rw [b_xor, fI_bt c (by omega), bne_xor, decide_eq_true (show fr ≤ 32 * (q + 1) + i by omega)]
  unfold dotW
  rw [show (32 * (q + 1) + i) / 32 = q + 1 by omega, show (32 * (q + 1) + i) % 32 = i by omega]
  rfl
/-- the answer, where a word has one -/
theorem foi_yes {D : Nat → Int32} {rw fr wd q : Nat} {c : Bool} {b : Int32} (hf : fr < wd) (hq : fr / 32 ≤ q) (h : FOI D rw fr c q b) (hb : ¬ b = 0) : fo (dotW D rw) fr wd c = if wd ≤ 32 * q + lz b then wd else 32 * q + lz b := by
  have hl := lz_lt hb
  have hy := h.1 (lz b) hl
  rw [lz_yes hl] at hy
  have hy2 := (Bool.and_eq_true _ _ ▸ hy.symm : decide (fr ≤ 32 * q + lz b) = true ∧ (dotW D rw (32 * q + lz b) != c) = true)
  have hge : fr ≤ 32 * q + lz b := of_decide_eq_true hy2.1
  have hne : dotW D rw (32 * q + lz b) ≠ c := bne_iff_ne.mp hy2.2
  have hno : ∀ j, fr ≤ j → j < 32 * q + lz b → dotW D rw j = c := fun j h1 h2 => by
    rcases Nat.lt_or_ge j (32 * q) with h3 | h3
    · exact h.2 j h1 h3
    · have h4 := h.1 (j - 32 * q) (by omega)
      rw [lz_no (w := b) (k := j - 32 * q) (by omega), show 32 * q + (j - 32 * q) = j by omega, decide_eq_true h1] at h4
      simpa using h4.symm
  split
  · exact fo_all (by omega) (fun j h1 h2 => hno j h1 (by omega))
  · exact fo_is hge (by omega) hno (fun _ => hne)
theorem foi_none {D : Nat → Int32} {rw fr wd q : Nat} {c : Bool} (hf : fr < wd) (hw : (wd - 1) / 32 ≤ q) (h : FOI D rw fr c q 0) : fo (dotW D rw) fr wd c = wd := fo_all (by omega) (fun j h1 h2 => foi_zero h j h1 (by omega))
/-! Contracts of methods of java.lang.Math whose bytecode is run (no row of natives has their names). -/
theorem Met.ofWF {l : Launch} {y : MethodName} {ws ws' : List Cond} {rm : Room} {Pc : Array Value → State → Prop} {Qc : Array Value → State → Outcome → State → Prop} {mc ms : Nat} {free : Addr → Prop} {cc : ByteArray} {maxL : Nat} {ret : Option FieldType}
    (hy : plainFor y = true) (hw : ws = Cond.code y cc maxL ret :: ws')
    (body : ∀ p e s m args below meth c s₁, BodyLoose p l y (headSpec ws rm) cc maxL ret e s m args below meth c s₁ → c.maxLocals = maxL → Pc args s →
      W p l e (headSpec ws rm).room s m args below meth c s.heap [] 0 0 (MQ below Qc args s mc ms free) (entryFrame m args maxL)) : Met l y ws rm Pc Qc mc ms free := by
  refine MetFree.of_bodySF (code := cc) (maxLocals := maxL) (ret := ret) hy ?_ ?_
  · intro args s m h hn
    obtain ⟨meth, c, h1, h2, h3, h4, h5, h6, -, -⟩ := Cond.code_spec hn (atoms_spec (ws := ws) h _ (by rw [hw]; exact List.mem_cons_self))
    exact ⟨meth, c, h1, h2, h3, h4, h5, h6⟩
  · intro p e s m args below meth c s₁ B hml hP _
    have hh0 : s₁.heap = s.heap := by rw [B.state]; rfl
    obtain ⟨t, a1, o, b1, b2, b3⟩ := body p e s m args below meth c s₁ B hml hP s₁ hh0 (Stand.of_body B)
    exact ⟨t, o, a1, b1, b2, ⟨b3.1, b3.2⟩⟩
theorem ct_ofF {d : Nat} {y : MethodName} {cc : ByteArray} {maxL : Nat} {ret : Option FieldType} {k n : Nat} {As : List Value} {S : Hp} {Q : Option Value → Hp → Prop} (hy : plainFor y = true) (hlen : (lg_sl As).length ≤ maxL)
    (body : ∀ x : JX, x_n x = maxL → CB x y.cls cc → CM x d k n ret S Q → (x_meth x).name = y.name → J x 0 0 S (lv_args 0 As) 0 []) : Ct d y cc maxL ret k n As S Q := by
  intro l v sz
  refine Met.ofWF (cc := cc) (maxL := maxL) (ret := ret) hy rfl ?_
  intro p e s m args below meth c s₁ B hml hv
  obtain ⟨rfl, rfl, hP, hD0, hG⟩ := hv
  have hts := atoms_spec (ws := Cond.code y cc maxL ret :: TBL) B.pre
  have K := body (p, l, e, rmD d k n, s, m, As.toArray, below, meth, c, v, (fun q => q ∈ hL S ∨ s.heap.size ≤ q), maxL, MQ below (QW v s.heap.size S Q) As.toArray s k n (fun q => q ∈ hL S ∨ s.heap.size ≤ q)) rfl ⟨B.exec, B.bytes, hml, findClass_of_methodNamed B.named, fun w h => hts w (List.mem_cons_of_mem _ h), fun q h => Or.inr h, hG⟩ ⟨rfl, rfl, rfl, B.returns, B.notSynchronized⟩ (name_of_methodNamed B.named B.method).1
  have hl := lv_entry As (n := maxL) hlen
  rw [lg_entry_eq]
  refine K s.heap [] _ hP ⟨hD0.1, fun k q hk => ?_⟩ va_S.rf hl
  have := List.mem_of_getElem? hk
  unfold pl va_pl at this
  obtain ⟨a, ha, rfl⟩ := List.mem_map.mp this
  exact Or.inl ha
