/-! Bits on both sides: putBits and bits. -/
def cBitF (f i : Nat) : Bool := i == 5 && (f == 601 || f == 603 || f == 608 || f == 609)
def mBitF (f i : Nat) : Bool := i == 133 && (f == 1242 || f == 1233 || f == 1264 || f == 1265)
def WB (b p : Nat) (c m : Mm) : Prop := b < 8 ∧ p < 2 ^ b ∧ gI c 609 5 = nI b ∧ gI m 1264 133 = nI b ∧ gI m 1265 133 = nI p ∧ (gI c 608 5).toBitVec.toNat % 2 ^ b = p
def WX (z : Nat) (c m : Mm) : Prop := (∃ s y, WR z s y c m) ∧ ∃ b p, WB b p c m
/-- the reference's bits at hand -/
def sHB (T : Mm) (h n : Nat) : Mm := uI (uI T 1265 133 (nI h)) 1264 133 (nI n)
theorem uI_same (T : Mm) (f i : Nat) (v w : Int32) : uI (uI T f i v) f i w = uI T f i w := by
  refine Prod.ext (funext fun g => funext fun j => ?_) rfl
  show (if g = f ∧ j = i then w else if g = f ∧ j = i then v else gI T g j) = if g = f ∧ j = i then w else gI T g j
  split <;> rfl
theorem uI_comm (T : Mm) {f i g j : Nat} (v w : Int32) (h : f ≠ g) : uI (uI T f i v) g j w = uI (uI T g j w) f i v := by
  refine Prod.ext (funext fun x => funext fun k => ?_) rfl
  show (if x = g ∧ k = j then w else if x = f ∧ k = i then v else gI T x k) = if x = f ∧ k = i then v else if x = g ∧ k = j then w else gI T x k
  by_cases e1 : x = g ∧ k = j
  · rw [if_pos e1, if_pos e1, if_neg (fun q => h (q.1.symm.trans e1.1))]
  · rw [if_neg e1, if_neg e1]
theorem sHB_sHB (T : Mm) (h n h' n' : Nat) : sHB (sHB T h n) h' n' = sHB T h' n' := by
  unfold sHB
  rw [uI_comm (uI T 1265 133 (nI h)) (nI n) (nI h') (by decide), uI_same, uI_same]
theorem sHB_h (T : Mm) (h n : Nat) : gI (sHB T h n) 1265 133 = nI h := by
  unfold sHB; rw [gI_uI, if_neg (by decide), gI_uI, if_pos ⟨rfl, rfl⟩]
theorem sHB_n (T : Mm) (h n : Nat) : gI (sHB T h n) 1264 133 = nI n := by
  unfold sHB; rw [gI_uI, if_pos ⟨rfl, rfl⟩]
theorem uI_id (T : Mm) (f i : Nat) : uI T f i (gI T f i) = T := by
  refine Prod.ext (funext fun g => funext fun j => ?_) rfl
  show (if g = f ∧ j = i then gI T f i else gI T g j) = gI T g j
  split
  · rename_i h; rw [h.1, h.2]
  · rfl
theorem sHB_id (T : Mm) {h n : Nat} (e1 : gI T 1265 133 = nI h) (e2 : gI T 1264 133 = nI n) : sHB T h n = T := by
  unfold sHB
  rw [← e1, uI_id, ← e2, uI_id]
theorem sHB_fr (T : Mm) (h n : Nat) : Fr mBitF mOutA T (sHB T h n) := (Fr.refl.uI _ rfl).uI _ rfl
theorem am1 (x : Int32) : x + (-1) = x - 1 := (Int32.sub_eq_add_neg x 1).symm
theorem shl1 {p : Nat} (hp : p < 2 ^ 20) : nI p <<< ((1 : Int32) &&& 31) = nI (p * 2) := pk_shlN (n := p) _ 1 (by decide) (by omega)
theorem bit_at {q k : Nat} (hq : q < 2 ^ 20) (hk : k < 20) : (nI q >>> (nI k &&& 31)) &&& 1 = nI (q / 2 ^ k % 2) := by
  have e : nI q >>> (nI k &&& 31) = nI (q / 2 ^ k) := pk_shrN (n := q) (by omega) _ k (by
    have := s_l k (by omega); exact this)
  have hlt : q / 2 ^ k < 2 ^ 32 := Nat.lt_of_le_of_lt (Nat.div_le_self _ _) (by omega)
  rw [e, show (1 : Int32) = nI 1 from rfl, pk_andN hlt 1 (by decide)]
/-- a bit of the reference's, no byte by it -/
theorem bits_a {F q r p n : Nat} {T : Mm} (hq : q < 2 ^ 20) (hp : p < 2 ^ 20) (hr : 1 ≤ r) (hr2 : r ≤ 20) (hn : n + 1 < 8) : f_X12_bits_l4 (F + 1) (nI q) (nI r - 1) (sHB T p n) = f_X12_bits_l4 F (nI q) (nI (r - 1) - 1) (sHB T (p * 2 + q / 2 ^ (r - 1) % 2) (n + 1)) := by
  show f_X12_bits_b4 (f_X12_bits_l4 F) _ _ _ = _
  unfold f_X12_bits_b4
  have er : nI r - 1 = nI (r - 1) := pk_sub (b := 1) hr
  rw [er, if_neg (nI_pos (by omega)), lb_eq, lb_eq, sHB_h, shl1 hp, bit_at hq (by omega), or_low _ (Nat.mod_lt _ (by decide))]
  have e2 : ∀ w : Int32, gI (uI (sHB T p n) 1265 133 w) 1264 133 + 1 = nI (n + 1) := fun w => by rw [gI_uI, if_neg (by decide), sHB_n]; exact nI_add n 1
  rw [e2]
  have e3 : uI (uI (sHB T p n) 1265 133 (nI (p * 2 + q / 2 ^ (r - 1) % 2))) 1264 133 (nI (n + 1)) = sHB T (p * 2 + q / 2 ^ (r - 1) % 2) (n + 1) := sHB_sHB T p n _ _
  rw [e3, sHB_n, if_neg (fun e => by rw [show (8 : Int32) = nI 8 from rfl, nI_eq (by omega) (by omega)] at e; omega), am1]
/-- and one that fills a byte -/
theorem bits_b {F q r p : Nat} {T : Mm} (hq : q < 2 ^ 20) (hp : p < 2 ^ 20) (hr : 1 ≤ r) (hr2 : r ≤ 20) : f_X12_bits_l4 (F + 1) (nI q) (nI r - 1) (sHB T p 7) = bd (f_X12_outByte (nI (p * 2 + q / 2 ^ (r - 1) % 2)) (sHB T (p * 2 + q / 2 ^ (r - 1) % 2) 8)) (fun _ T3 => f_X12_bits_l4 F (nI q) (nI (r - 1) - 1) (sHB T3 0 0)) := by
  show f_X12_bits_b4 (f_X12_bits_l4 F) _ _ _ = _
  unfold f_X12_bits_b4
  have er : nI r - 1 = nI (r - 1) := pk_sub (b := 1) hr
  rw [er, if_neg (nI_pos (by omega)), lb_eq, lb_eq, sHB_h, shl1 hp, bit_at hq (by omega), or_low _ (Nat.mod_lt _ (by decide))]
  have e2 : ∀ w : Int32, gI (uI (sHB T p 7) 1265 133 w) 1264 133 + 1 = nI 8 := fun w => by rw [gI_uI, if_neg (by decide), sHB_n]; exact nI_add 7 1
  rw [e2]
  have e3 : uI (uI (sHB T p 7) 1265 133 (nI (p * 2 + q / 2 ^ (r - 1) % 2))) 1264 133 (nI 8) = sHB T (p * 2 + q / 2 ^ (r - 1) % 2) 8 := sHB_sHB T p 7 _ _
  rw [e3, sHB_n, if_pos (by decide), sHB_h, am1]
  refine congrArg _ (funext fun _ => funext fun T3 => ?_)
  rw [lb_eq, lb_eq]
  have : uI (uI T3 1264 133 0) 1265 133 0 = sHB T3 0 0 := by
    rw [uI_comm T3 0 0 (by decide)]; rfl
  rw [this]
theorem dm2 (q r j : Nat) (hj : j + 1 ≤ r) : q / 2 ^ (r - j) % 2 ^ j * 2 + q / 2 ^ (r - j - 1) % 2 = q / 2 ^ (r - (j + 1)) % 2 ^ (j + 1) := by
  have e1 : q / 2 ^ (r - j) = q / 2 ^ (r - (j + 1)) / 2 := by
    rw [Nat.div_div_eq_div_mul, ← Nat.pow_succ]
    congr 2
    omega
  rw [e1, show r - j - 1 = r - (j + 1) by omega]
  generalize q / 2 ^ (r - (j + 1)) = z
  rw [Nat.pow_succ, Nat.mul_comm (2 ^ j) 2, Nat.mod_mul]
  omega
/-- j bits without a byte -/
theorem bits_as {q r p n : Nat} {T : Mm} (hq : q < 2 ^ 20) (hp : p < 2 ^ n) (hr2 : r ≤ 20) : ∀ (j F : Nat), j ≤ r → n + j < 8 → f_X12_bits_l4 (F + j) (nI q) (nI r - 1) (sHB T p n) = f_X12_bits_l4 F (nI q) (nI (r - j) - 1) (sHB T (p * 2 ^ j + q / 2 ^ (r - j) % 2 ^ j) (n + j)) := by
  intro j
  induction j with
  | zero => intro F _ _; simp [Nat.mod_one]
  | succ j ih =>
    intro F h1 h2
    have hb : p * 2 ^ j + q / 2 ^ (r - j) % 2 ^ j < 2 ^ 20 := by
      have h3 : (p + 1) * 2 ^ j ≤ 2 ^ n * 2 ^ j := Nat.mul_le_mul_right _ hp
      have h4 : q / 2 ^ (r - j) % 2 ^ j < 2 ^ j := Nat.mod_lt _ (Nat.two_pow_pos j)
      have h5 : 2 ^ n * 2 ^ j ≤ 2 ^ 7 := by rw [← Nat.pow_add]; exact Nat.pow_le_pow_right (by decide) (by omega)
      rw [Nat.add_mul] at h3
      omega
    rw [show F + (j + 1) = (F + 1) + j by omega, ih (F + 1) (by omega) (by omega), bits_a hq hb (by omega) (by omega) (by omega)]
    rw [show r - j - 1 = r - (j + 1) by omega, show n + j + 1 = n + (j + 1) by omega]
    congr 2
    have := dm2 q r j h1
    rw [show r - j - 1 = r - (j + 1) by omega] at this
    rw [← this, Nat.pow_succ]
    generalize 2 ^ j = z
    rw [Nat.add_mul, Nat.mul_assoc, Nat.add_assoc]
theorem tb_bt (x : Int32) (i : Nat) : x.toBitVec.toNat.testBit i = bt x i := rfl
theorem i8_eq {a b : Int32} (h : ∀ i, i < 8 → bt a i = bt b i) : a.toInt8 = b.toInt8 := by
  refine Int8.toBitVec_inj.mp (BitVec.eq_of_getLsbD_eq fun i hi => ?_)
  rw [Int32.toBitVec_toInt8, Int32.toBitVec_toInt8, BitVec.getLsbD_signExtend, BitVec.getLsbD_signExtend]
  have := h i hi
  unfold bt at this
  rw [if_pos (show i < 32 by omega), if_pos (show i < 32 by omega), this]
theorem wor {w : Int32} {q n b : Nat} (hq : q < 2 ^ n) (hn : n ≤ 13) (hb : b ≤ 7) : ((w <<< (nI n &&& 31)) ||| nI q).toBitVec.toNat % 2 ^ (b + n) = (w.toBitVec.toNat % 2 ^ b) * 2 ^ n + q := by
  refine Nat.eq_of_testBit_eq fun i => ?_
  rw [Nat.testBit_mod_two_pow, tb_bt, Nat.mul_comm, Nat.testBit_two_pow_mul_add _ hq, Nat.testBit_mod_two_pow, tb_bt]
  by_cases hi : i < b + n
  · have hi32 : i < 32 := by omega
    rw [decide_eq_true hi, Bool.true_and, b_or, b_shl n (by omega) w hi32]
    have hqb : bt (nI q) i = q.testBit i := by
      rw [← tb_bt]
      have : (nI q).toBitVec.toNat = q := by
        show (BitVec.ofNat 32 q).toNat = q
        rw [BitVec.toNat_ofNat, Nat.mod_eq_of_lt (Nat.lt_of_lt_of_le hq (Nat.pow_le_pow_right (by decide) (by omega)))]
      rw [this]
    rw [hqb]
    by_cases h1 : i < n
    · rw [if_pos h1, decide_eq_false (by omega)]; simp
    · rw [if_neg h1, decide_eq_true (by omega : n ≤ i), decide_eq_true (by omega : i - n < b)]
      rw [Nat.testBit_lt_two_pow (Nat.lt_of_lt_of_le hq (Nat.pow_le_pow_right (by decide) (by omega)))]
      simp
  · rw [decide_eq_false hi, if_neg (by omega), decide_eq_false (by omega)]; simp
theorem nI_bt {v i : Nat} (hi : i < 32) : bt (nI v) i = v.testBit i := by
  rw [← tb_bt]
  show (BitVec.ofNat 32 v).toNat.testBit i = _
  rw [BitVec.toNat_ofNat, Nat.testBit_mod_two_pow, decide_eq_true hi, Bool.true_and]
/-- the byte that comes, on both sides -/
theorem byte_eq {w : Int32} {q r p b : Nat} (hb : b < 8) (ht : 8 ≤ b + r) (ht2 : b + r ≤ 20) (hw : w.toBitVec.toNat % 2 ^ (b + r) = p * 2 ^ r + q % 2 ^ r) : ((w.toUInt32 >>> ((nI (b + r - 8)).toUInt32 &&& Int32.toUInt32 31)).toInt32).toInt8 = (nI ((p * 2 ^ (7 - b) + q / 2 ^ (r - (7 - b)) % 2 ^ (7 - b)) * 2 + q / 2 ^ (r - (7 - b) - 1) % 2)).toInt8 := by
  refine i8_eq fun i hi => ?_
  rw [b_ushr _ (by omega), nI_bt (by omega)]
  have e1 : bt w (b + r - 8 + i) = (p * 2 ^ r + q % 2 ^ r).testBit (b + r - 8 + i) := by
    rw [← hw, Nat.testBit_mod_two_pow, decide_eq_true (by omega), Bool.true_and]; rfl
  rw [e1]
  have e2 : (p * 2 ^ (7 - b) + q / 2 ^ (r - (7 - b)) % 2 ^ (7 - b)) * 2 + q / 2 ^ (r - (7 - b) - 1) % 2 = p * 2 ^ (8 - b) + q / 2 ^ (r - (8 - b)) % 2 ^ (8 - b) := by
    have h := dm2 q r (7 - b) (by omega)
    rw [show 7 - b + 1 = 8 - b by omega] at h
    rw [← h, show 8 - b = (7 - b) + 1 by omega, Nat.pow_succ]
    generalize 2 ^ (7 - b) = z
    rw [Nat.add_mul, Nat.mul_assoc, Nat.add_assoc]
  have hq2 : q % 2 ^ r < 2 ^ r := Nat.mod_lt _ (Nat.two_pow_pos r)
  have hq3 : q / 2 ^ (r - (8 - b)) % 2 ^ (8 - b) < 2 ^ (8 - b) := Nat.mod_lt _ (Nat.two_pow_pos _)
  rw [e2, Nat.mul_comm p, Nat.mul_comm p, Nat.testBit_two_pow_mul_add _ hq2, Nat.testBit_two_pow_mul_add _ hq3]
  by_cases h1 : i < 8 - b
  · rw [if_pos (by omega), if_pos h1, Nat.testBit_mod_two_pow, Nat.testBit_mod_two_pow, Nat.testBit_div_two_pow, decide_eq_true (by omega : b + r - 8 + i < r), decide_eq_true h1]
    rw [show b + r - 8 + i = r - (8 - b) + i by omega]
    try rw [Nat.add_comm]
  · rw [if_neg (by omega), if_neg h1]
    congr 1
    omega
theorem bits_end {F q p n : Nat} {T : Mm} : f_X12_bits_l4 (F + 1) (nI q) (nI 0 - 1) (sHB T p n) = some ((), sHB T p n) := by
  show f_X12_bits_b4 (f_X12_bits_l4 F) _ _ _ = _
  unfold f_X12_bits_b4
  rw [if_pos (by decide)]
theorem bits_loop {z : Nat} {q : Nat} (hq : q < 2 ^ 20) : ∀ (r N F b p : Nat) (c m : Mm) (w : Int32), r < N → b < 8 → p < 2 ^ b → b + r ≤ 20 → gI c 608 5 = w → gI c 609 5 = nI (b + r) → w.toBitVec.toNat % 2 ^ (b + r) = p * 2 ^ r + q % 2 ^ r → (∃ s y, WR z s y c m) → P2 (f_X6_putBits_l22 N c) (f_X12_bits_l4 (F + r + 1) (nI q) (nI r - 1) (sHB m p b)) (fun _ c' _ m' => WX z c' m' ∧ Fr cBitF cOutA c c' ∧ Fr mBitF mOutA m m') := by
  intro r
  induction r using Nat.strongRecOn with
  | ind r ih =>
  intro N F b p c m w hN hb hp ht h608 h609 hw hWR
  obtain ⟨N, rfl⟩ : ∃ k, N = k + 1 := ⟨N - 1, by omega⟩
  show P2 (f_X6_putBits_b22 (f_X6_putBits_l22 N) c) _ _
  unfold f_X6_putBits_b22
  rw [h609]
  rcases Nat.lt_or_ge (b + r) 8 with h8 | h8
  · rw [show (8 : Int32) = nI 8 from rfl, if_pos (nI_lt h8 (by omega)), show F + r + 1 = (F + 1) + r by omega, bits_as hq hp (by omega) r (F + 1) (Nat.le_refl _) h8, Nat.sub_self, bits_end]
    obtain ⟨s, y, hWR⟩ := hWR
    refine P2_ret ⟨⟨⟨s, y, hWR.fr (PF := fun _ _ => false) (PA := fun _ => false) (QF := fun f i => i == 133 && (f == 1264 || f == 1265)) (QA := fun _ => false) Fr.refl ((Fr.refl.uI _ rfl).uI _ rfl) rfl rfl rfl rfl rfl rfl⟩, b + r, _, h8, ?_, h609, sHB_n _ _ _, sHB_h _ _ _, ?_⟩, Fr.refl, sHB_fr _ _ _⟩
    · rw [Nat.pow_zero, Nat.div_one]
      have h3 : (p + 1) * 2 ^ r ≤ 2 ^ b * 2 ^ r := Nat.mul_le_mul_right _ hp
      have h4 : q % 2 ^ r < 2 ^ r := Nat.mod_lt _ (Nat.two_pow_pos r)
      rw [Nat.pow_add]
      rw [Nat.add_mul] at h3
      omega
    · rw [h608, hw, Nat.pow_zero, Nat.div_one]
  · rw [show (8 : Int32) = nI 8 from rfl, if_neg (nI_nlt h8 (by omega)), pk_sub h8, lb_eq]
    have hj : 7 - b ≤ r := by omega
    rw [show F + r + 1 = (F + (r - (8 - b)) + 1 + 1) + (7 - b) by omega, bits_as hq hp (by omega) (7 - b) _ hj (by omega), show b + (7 - b) = 7 by omega]
    have hpb : p * 2 ^ (7 - b) + q / 2 ^ (r - (7 - b)) % 2 ^ (7 - b) < 2 ^ 20 := by
      have h3 : (p + 1) * 2 ^ (7 - b) ≤ 2 ^ b * 2 ^ (7 - b) := Nat.mul_le_mul_right _ hp
      have h4 : q / 2 ^ (r - (7 - b)) % 2 ^ (7 - b) < 2 ^ (7 - b) := Nat.mod_lt _ (Nat.two_pow_pos _)
      rw [← Nat.pow_add, show b + (7 - b) = 7 by omega, Nat.add_mul] at h3
      omega
    rw [bits_b hq hpb (by omega) (by omega)]
    have e609 : gI (uI c 609 5 (nI (b + r - 8))) 609 5 = nI (b + r - 8) := by rw [gI_uI, if_pos ⟨rfl, rfl⟩]
    have e608 : gI (uI c 609 5 (nI (b + r - 8))) 608 5 = w := by rw [gI_uI, if_neg (by decide)]; exact h608
    rw [e609, e608]
    obtain ⟨s, y, hWR⟩ := hWR
    have hWR1 : WR z s y (uI c 609 5 (nI (b + r - 8))) (sHB m ((p * 2 ^ (7 - b) + q / 2 ^ (r - (7 - b)) % 2 ^ (7 - b)) * 2 + q / 2 ^ (r - (7 - b) - 1) % 2) 8) := hWR.fr (PF := fun f i => i == 5 && f == 609) (PA := fun _ => false) (QF := fun f i => i == 133 && (f == 1264 || f == 1265)) (QA := fun _ => false) (Fr.refl.uI _ rfl) ((Fr.refl.uI _ rfl).uI _ rfl) rfl rfl rfl rfl rfl rfl
    refine P2_bd (P2_byte hWR1 (byte_eq hb h8 ht hw)) ?_
    rintro _ c2 _ m2 ⟨hW2, f1, f2⟩
    have g608 : gI c2 608 5 = w := (f1.i rfl).trans e608
    have g609 : gI c2 609 5 = nI (0 + (r - (8 - b))) := by rw [(f1.i rfl).trans e609]; congr 1; omega
    have hw2 : w.toBitVec.toNat % 2 ^ (0 + (r - (8 - b))) = 0 * 2 ^ (r - (8 - b)) + q % 2 ^ (r - (8 - b)) := by
      rw [Nat.zero_add, Nat.zero_mul, Nat.zero_add]
      have h1 : 2 ^ (b + r) = 2 ^ (r - (8 - b)) * 2 ^ 8 := by rw [← Nat.pow_add]; congr 1; omega
      have h2 : 2 ^ r = 2 ^ (r - (8 - b)) * 2 ^ (8 - b) := by rw [← Nat.pow_add]; congr 1; omega
      have h3 : w.toBitVec.toNat % 2 ^ (b + r) % 2 ^ (r - (8 - b)) = (p * 2 ^ r + q % 2 ^ r) % 2 ^ (r - (8 - b)) := by rw [hw]
      rw [h1, Nat.mod_mul_right_mod, h2] at h3
      rw [h3, Nat.mul_comm p, Nat.mul_assoc, Nat.mul_add_mod, Nat.mod_mul_right_mod]
    rw [show r - (7 - b) - 1 = r - (8 - b) by omega]
    refine P2_mono (ih (r - (8 - b)) (by omega) N F 0 0 c2 m2 w (by omega) (by omega) (by decide) (by omega) g608 g609 hw2 hW2) ?_
    rintro _ c3 _ m3 ⟨hX, f3, f4⟩
    refine ⟨hX, Fr.trans ((Fr.refl.uI _ rfl : Fr cBitF cOutA c (uI c 609 5 (nI (b + r - 8))))) (Fr.trans (f1.weak (fun f i e => ?_) (fun a e => e)) f3), Fr.trans (sHB_fr m _ _) (Fr.trans (f2.weak (fun f i e => ?_) (fun a e => e)) f4)⟩
    · simp only [cBitF, cOutF] at *; simp_all
    · simp only [mBitF, mOutF] at *; simp_all
