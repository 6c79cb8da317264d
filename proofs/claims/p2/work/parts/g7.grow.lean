/-! The rows of a sent glyph, on both sides. -/
def gbit (F : Nat → Nat) (q j : Nat) : Bool := (F (q + j / 8)).testBit (7 - j % 8)
def rcq (F : Nat → Nat) (q : Nat) : Nat → Int32
  | 0 => 0
  | i + 1 => (rcq F q i) ||| ((nI (F (q + i))) <<< (((24 : Int32) - ((8 : Int32) * nI i)) &&& 31))
def nv (F : Nat → Nat) (q : Nat) : Nat → Nat
  | 0 => 0
  | i + 1 => nv F q i * 256 + F (q + i)
section G7
variable {c c' c0 c1 c2 c3 m m' m0 m1 m2 m3 T : Mm} {d w b A o M o' n p r q a i s f k u h rb t : Nat} {F : Nat → Nat} {ov ov' ng sg : Bool} {g L : Nat → Int32} {Gc Gm : Gty} {PF QF : Nat → Nat → Bool} {PA QA : Nat → Bool}
theorem tb_00 {v k : Nat} (hv : v < 256) (hk : 8 ≤ k) : v.testBit k = false := Nat.testBit_lt_two_pow (Nat.lt_of_lt_of_le hv (show 256 ≤ 2 ^ k from Nat.pow_le_pow_right (n := 2) (by decide) hk))
theorem rc_bit (hF : ∀ i, F i < 256) : ∀ i, i ≤ 4 → ∀ j, j < 32 → bt (rcq F q i) (31 - j) = (decide (j < 8 * i) && gbit F q j) := by
  intro i
  induction i with
  | zero => intro _ j hj; rw [show rcq F q 0 = 0 from rfl, b_0, decide_eq_false (by omega), Bool.false_and]
  | succ i ih =>
    intro hi j hj
    show bt ((rcq F q i) ||| ((nI (F (q + i))) <<< (((24 : Int32) - ((8 : Int32) * nI i)) &&& 31))) (31 - j) = _
    rw [b_or, ih (by omega) j hj, show (8 : Int32) * nI i = nI (8 * i) from pk_mul 8 i, show (24 : Int32) - nI (8 * i) = nI (24 - 8 * i) from pk_sub (a := 24) (by omega), b_shl _ (by omega) _ (by omega)]
    by_cases q1 : j < 8 * i
    · rw [decide_eq_true q1, decide_eq_true (show j < 8 * (i + 1) by omega), decide_eq_true (show 24 - 8 * i ≤ 31 - j by omega), Bool.true_and, Bool.true_and, nI_bt (by omega), tb_00 (hF _) (by omega), Bool.or_false]
    · by_cases q2 : j < 8 * (i + 1)
      · rw [decide_eq_false q1, decide_eq_true q2, decide_eq_true (show 24 - 8 * i ≤ 31 - j by omega), Bool.false_and, Bool.false_or, Bool.true_and, Bool.true_and, nI_bt (by omega)]
        unfold gbit
        rw [show j / 8 = i by omega, show 31 - j - (24 - 8 * i) = 7 - j % 8 by omega]
      · rw [decide_eq_false q1, decide_eq_false q2, decide_eq_false (show ¬ 24 - 8 * i ≤ 31 - j by omega)]; rfl
theorem nv_lt (hF : ∀ i, F i < 256) : ∀ i, nv F q i < 256 ^ i := by
  intro i
  induction i with
  | zero => show 0 < 1; omega
  | succ i ih =>
    have := hF (q + i)
    show nv F q i * 256 + F (q + i) < 256 ^ (i + 1)
    rw [Nat.pow_succ]
    omega
theorem nv_bit (hF : ∀ i, F i < 256) : ∀ i j, j < 8 * i → (nv F q i).testBit (8 * i - 1 - j) = gbit F q j := by
  intro i
  induction i with
  | zero => intro j hj; omega
  | succ i ih =>
    intro j hj
    show (nv F q i * 256 + F (q + i)).testBit (8 * (i + 1) - 1 - j) = _
    rw [show nv F q i * 256 + F (q + i) = 2 ^ 8 * nv F q i + F (q + i) by rw [Nat.mul_comm], Nat.testBit_two_pow_mul_add _ (hF (q + i))]
    by_cases q1 : j < 8 * i
    · rw [if_neg (by omega), show 8 * (i + 1) - 1 - j - 8 = 8 * i - 1 - j by omega]; exact ih j q1
    · rw [if_pos (by omega)]
      unfold gbit
      rw [show j / 8 = i by omega, show 8 * (i + 1) - 1 - j = 7 - j % 8 by omega]
theorem l_sshr {N k i : Nat} (hN : N < 2 ^ 62) (hk : k < 32) (hi : i < 32) : bt (((lN N) >>> ((nI k).toInt64 &&& 63)).toInt32) i = N.testBit (k + i) := by
  unfold bt
  rw [Int64.toBitVec_toInt32, BitVec.getLsbD_signExtend, decide_eq_true (by omega : i < 32), Bool.true_and, if_pos (by omega : i < 64), Int64.toBitVec_shiftRight, BitVec.sshiftRight_eq', sm63 k (by omega), BitVec.getLsbD_sshiftRight]
  have h0 : (lN N).toBitVec = BitVec.ofNat 64 N := rfl
  rw [h0, if_pos (by omega), BitVec.getLsbD_ofNat, decide_eq_true (by omega : k + i < 64), Bool.true_and, decide_eq_false (by omega : ¬ 64 ≤ i)]
  simp
/-- a row on the class's side, on the reference's -/
def rowC (F : Nat → Nat) (p rb w r : Nat) : Int32 := (rcq F (p + (6 + r * rb)) rb) &&& ((-1 : Int32) <<< (((32 : Int32) - nI w) &&& 31))
def rowM (F : Nat → Nat) (p rb w r : Nat) : Int32 := ((lN (nv F (p + (6 + r * rb)) rb)) >>> (((((8 : Int32) * nI rb) - nI w) : Int32).toInt64 &&& 63)).toInt32
theorem row_eq (hF : ∀ i, F i < 256) (hw1 : 1 ≤ w) (hw : w ≤ 32) (hrb : rb = (w + 7) / 8) {j : Nat} (hj : j < w) : bt (rowC F p rb w r) (31 - j) = bt (rowM F p rb w r) (w - 1 - j) := by
  have m1 : ∀ i, i < 32 → bt (-1) i = true := by decide +kernel
  have hlt := nv_lt (q := p + (6 + r * rb)) hF rb
  have hle : (256 : Nat) ^ rb ≤ 256 ^ 4 := Nat.pow_le_pow_right (by decide) (by omega)
  unfold rowC rowM
  rw [b_and, rc_bit hF rb (by omega) j (by omega), show (32 : Int32) - nI w = nI (32 - w) from pk_sub (a := 32) hw, b_shl _ (by omega) _ (by omega), decide_eq_true (show j < 8 * rb by omega), decide_eq_true (show 32 - w ≤ 31 - j by omega), m1 _ (by omega), Bool.true_and, Bool.true_and, Bool.and_true, show (8 : Int32) * nI rb = nI (8 * rb) from pk_mul 8 rb, pk_sub (by omega), l_sshr (Nat.lt_of_lt_of_le hlt (Nat.le_trans hle (by decide))) (by omega) (by omega), show 8 * rb - w + (w - 1 - j) = 8 * rb - 1 - j by omega, nv_bit hF rb j (by omega)]
theorem c_l146 {K : Nat → Int32 → Int32 → Int32 → Int32 → Int32 → Mm → Option (Unit × Mm)} (hs : s < 400) (hr : r < 32) (h4 : DT T m d A o M o' n F p a) (hin : 6 + r * rb + rb ≤ a) : ∀ (N i : Nat), rb - i < N → i ≤ rb → f_X2_sendGlyph_l146 K N (125 + d) (nI w) (nI h) (nI rb) (nI s) (nI r) (rcq F (p + (6 + r * rb)) i) (nI i) T = K (125 + d) (nI w) (nI h) (nI rb) (nI s) (nI (r + 1)) (uA T 34 (32 * s + r) (rowC F p rb w r)) := by
  have n1 := h4.1.n1
  have hps := h4.2.2.2.1
  intro N
  induction N with
  | zero => intro i h; omega
  | succ N ih =>
    intro i h1 h2
    show f_X2_sendGlyph_b146 K (f_X2_sendGlyph_l146 K N) (125 + d) (nI w) (nI h) (nI rb) (nI s) (nI r) (rcq F (p + (6 + r * rb)) i) (nI i) T = _
    unfold f_X2_sendGlyph_b146
    by_cases q : rb ≤ i
    · have : i = rb := by omega
      subst this
      rw [if_pos (Int32.le_refl _), show nI s * 32 = nI (s * 32) from pk_mul s 32, nI_add, lb_eq, if_neg (show ¬ (15808 : Int32) ≤ nI (s * 32 + r) from nI_ge (b := 15808) (by omega) (by omega)), ix_in (j := s * 32 + r) (nI_pos (by omega)) (nI_clamp (by omega)) (by omega), lb_eq, show nI r + 1 = nI (r + 1) from nI_add r 1, show s * 32 + r = 32 * s + r by omega]
      rfl
    · rw [if_neg (nI_ge (by omega) (by omega)), pk_mul, show (6 : Int32) + nI (r * rb) = nI (6 + r * rb) from nI_add 6 _, nI_add, c_data1 h4 (by omega), bd_eq, lb_eq, show nI i + 1 = nI (i + 1) from nI_add i 1, show p + (6 + r * rb + i) = p + (6 + r * rb) + i by omega]
      exact ih (i + 1) (by omega) (by omega)
theorem m_l297 {K : Int32 → Int32 → Int32 → Int32 → Int32 → Mm → Option (Unit × Mm)} (hd : d ≤ 3) (hs : s < 400) (hr : r < 32) (hrb : rb ≤ 4) (h4 : DT c T d A o M o' n F p a) (hin : 6 + r * rb + rb ≤ a) : ∀ (N i : Nat), rb - i < N → i ≤ rb → f_X12_glyphData_l297 K N (nI w) (nI h) (nI rb) (nI s) (nI r) (lN (nv F (p + (6 + r * rb)) i)) (nI i) T = K (nI w) (nI h) (nI rb) (nI s) (nI (r + 1)) (uA T 142 (32 * s + r) (rowM F p rb w r)) := by
  have n1 := h4.1.n1
  have hps := h4.2.2.2.1
  intro N
  induction N with
  | zero => intro i h; omega
  | succ N ih =>
    intro i h1 h2
    show f_X12_glyphData_b297 K (f_X12_glyphData_l297 K N) (nI w) (nI h) (nI rb) (nI s) (nI r) (lN (nv F (p + (6 + r * rb)) i)) (nI i) T = _
    unfold f_X12_glyphData_b297
    by_cases q : rb ≤ i
    · have : i = rb := by omega
      subst this
      rw [if_pos (Int32.le_refl _), show (32 : Int32) * nI s = nI (32 * s) from pk_mul 32 s, nI_add, ix_in (j := 32 * s + r) (nI_pos (by omega)) (nI_clamp (by omega)) (by omega), lb_eq, show nI r + 1 = nI (r + 1) from nI_add r 1]
      rfl
    · have hlt := nv_lt (q := p + (6 + r * rb)) h4.1.g i
      have hle : (256 : Nat) ^ i ≤ 256 ^ 4 := Nat.pow_le_pow_right (by decide) (by omega)
      have h34 : (256 : Nat) ^ 4 = 2 ^ 32 := by decide
      rw [if_neg (nI_ge (by omega) (by omega)), pk_mul, show (6 : Int32) + nI (rb * r) = nI (6 + rb * r) from nI_add 6 _, nI_add, Nat.mul_comm rb r, m_data1 h4 hd (by omega), bd_eq, lb_eq, show nI i + 1 = nI (i + 1) from nI_add i 1, show p + (6 + r * rb + i) = p + (6 + r * rb) + i by omega, l_byte (by omega) (h4.1.g _)]
      exact ih (i + 1) (by omega) (by omega)
theorem rw_in6 {r h rb s : Nat} (hr : r < h) (hs : 6 + h * rb ≤ s) : 6 + r * rb + rb ≤ s := by
  have : (r + 1) * rb ≤ h * rb := Nat.mul_le_mul_right rb hr
  rw [Nat.add_mul, Nat.one_mul] at this
  omega
theorem c_l133g (hs : s < 400) (h4 : DT c m d A o M o' n F p a) (hin : 6 + h * rb ≤ a) (hrb : rb ≤ 4) (hh : h ≤ 32) : ∀ (N r : Nat) (T : Mm), h - r < N → r ≤ h → Fr nF (fun a => a == 34) c T → (∀ j, gA T 34 j = if 32 * s ≤ j ∧ j < 32 * s + r then rowC F p rb w (j - 32 * s) else gA c 34 j) → ∃ T', f_X2_sendGlyph_l133 N (125 + d) (nI w) (nI h) (nI rb) (nI s) (nI r) T = some ((), T') ∧ Fr nF (fun a => a == 34) c T' ∧ ∀ j, gA T' 34 j = if 32 * s ≤ j ∧ j < 32 * s + h then rowC F p rb w (j - 32 * s) else gA c 34 j := by
  intro N
  induction N with
  | zero => intro r T h; omega
  | succ N ih =>
    intro r T h1 h2 h3 h5
    show ∃ T', f_X2_sendGlyph_b133 (f_X2_sendGlyph_l133 N) (125 + d) (nI w) (nI h) (nI rb) (nI s) (nI r) T = _ ∧ _
    unfold f_X2_sendGlyph_b133
    by_cases q : h ≤ r
    · have : r = h := by omega
      subst this
      rw [if_pos (Int32.le_refl _)]
      exact ⟨T, rfl, h3, h5⟩
    · have d4 : DT T m d A o M o' n F p a := h4.fr h3 (Fr.refl (PF := nF) (PA := noA)) (fun _ => rfl) ⟨rfl, rfl⟩ ⟨rfl, rfl, rfl⟩ ⟨rfl, rfl⟩
      have e := c_l146 (K := f_X2_sendGlyph_l133 N) (w := w) (h := h) (r := r) (rb := rb) hs (by omega) d4 (rw_in6 (by omega) hin) FU 0 (FU_gt (by omega)) (by omega)
      have e' : f_X2_sendGlyph_l146 (f_X2_sendGlyph_l133 N) FU (125 + d) (nI w) (nI h) (nI rb) (nI s) (nI r) 0 0 T = _ := e
      rw [if_neg (nI_ge (by omega) (by omega)), e']
      refine ih (r + 1) _ (by omega) (by omega) (h3.uA _ _ (by rfl)) (fun j => ?_)
      rw [gA_one, h5]
      by_cases z : j = 32 * s + r
      · rw [if_pos z, if_pos (by omega)]; congr 1; omega
      · rw [if_neg z]
        by_cases z2 : 32 * s ≤ j ∧ j < 32 * s + r
        · rw [if_pos z2, if_pos (by omega)]
        · rw [if_neg z2, if_neg (by omega)]
theorem m_l284 (hd : d ≤ 3) (hs : s < 400) (h4 : DT c m d A o M o' n F p a) (hin : 6 + h * rb ≤ a) (hrb : rb ≤ 4) (hh : h ≤ 32) : ∀ (N r : Nat) (T : Mm), h - r < N → r ≤ h → Fr nF (fun a => a == 142) m T → (∀ j, gA T 142 j = if 32 * s ≤ j ∧ j < 32 * s + r then rowM F p rb w (j - 32 * s) else gA m 142 j) → ∃ T', f_X12_glyphData_l284 N (nI w) (nI h) (nI rb) (nI s) (nI r) T = some ((), T') ∧ Fr nF (fun a => a == 142) m T' ∧ ∀ j, gA T' 142 j = if 32 * s ≤ j ∧ j < 32 * s + h then rowM F p rb w (j - 32 * s) else gA m 142 j := by
  intro N
  induction N with
  | zero => intro r T h; omega
  | succ N ih =>
    intro r T h1 h2 h3 h5
    show ∃ T', f_X12_glyphData_b284 (f_X12_glyphData_l284 N) (nI w) (nI h) (nI rb) (nI s) (nI r) T = _ ∧ _
    unfold f_X12_glyphData_b284
    by_cases q : h ≤ r
    · have : r = h := by omega
      subst this
      rw [if_pos (Int32.le_refl _)]
      exact ⟨T, rfl, h3, h5⟩
    · have d4 : DT c T d A o M o' n F p a := h4.fr (Fr.refl (PF := nF) (PA := noA)) h3 (fun _ => rfl) ⟨rfl, rfl⟩ ⟨rfl, rfl, rfl⟩ ⟨rfl, rfl⟩
      have e := m_l297 (K := f_X12_glyphData_l284 N) (w := w) (h := h) (r := r) (rb := rb) hd hs (by omega) hrb d4 (rw_in6 (by omega) hin) FU 0 (FU_gt (by omega)) (by omega)
      have e' : f_X12_glyphData_l297 (f_X12_glyphData_l284 N) FU (nI w) (nI h) (nI rb) (nI s) (nI r) 0 0 T = _ := e
      rw [if_neg (nI_ge (by omega) (by omega)), e']
      refine ih (r + 1) _ (by omega) (by omega) (h3.uA _ _ (by rfl)) (fun j => ?_)
      rw [gA_one, h5]
      by_cases z : j = 32 * s + r
      · rw [if_pos z, if_pos (by omega)]; congr 1; omega
      · rw [if_neg z]
        by_cases z2 : 32 * s ≤ j ∧ j < 32 * s + r
        · rw [if_pos z2, if_pos (by omega)]
        · rw [if_neg z2, if_neg (by omega)]
end G7
