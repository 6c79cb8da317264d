/-! Whole bit strings and numbers on both sides. -/
theorem P2_bits {z : Nat} {q n : Nat} {c m : Mm} (hn : n ≤ 13) (hq : q < 2 ^ n) (hX : WX z c m) : P2 (f_X6_putBits (nI q) (nI n) c) (f_X12_bits (nI n) (nI q) m) (fun _ c' _ m' => WX z c' m' ∧ Fr cBitF cOutA c c' ∧ Fr mBitF mOutA m m') := by
  obtain ⟨⟨s, y, hWR⟩, b, p, hb, hp, h1, h2, h3, h4⟩ := hX
  have hq20 : q < 2 ^ 20 := Nat.lt_of_lt_of_le hq (Nat.pow_le_pow_right (by decide) (by omega))
  unfold f_X6_putBits f_X12_bits
  rw [lb_eq, lb_eq, lb_eq, gI_uI, if_neg (by decide), h1, nI_add]
  have em : m = sHB m p b := (sHB_id m h3 h2).symm
  rw [em]
  have hF : FU = (FU - n - 1) + n + 1 := by have := FU_gt (k := n) (by omega); omega
  rw [show f_X12_bits_l4 FU = f_X12_bits_l4 ((FU - n - 1) + n + 1) from congrArg _ hF]
  refine P2_mono (bits_loop hq20 n FU (FU - n - 1) b p _ m _ (FU_gt (by omega)) hb hp (by omega) ?_ ?_ (by
    rw [wor hq hn (by omega), h4, Nat.mod_eq_of_lt hq]) ⟨s, y, hWR.fr (PF := fun f i => i == 5 && (f == 608 || f == 609)) (PA := fun _ => false) (QF := fun _ _ => false) (QA := fun _ => false) ((Fr.refl.uI _ rfl).uI _ rfl) Fr.refl rfl rfl rfl rfl rfl rfl⟩) ?_
  · rw [gI_uI, if_neg (by decide), gI_uI, if_pos ⟨rfl, rfl⟩]
  · rw [gI_uI, if_pos ⟨rfl, rfl⟩]
  · rintro _ c3 _ m3 ⟨hX, f3, f4⟩
    refine ⟨hX, Fr.trans ((Fr.refl.uI _ rfl).uI _ rfl) f3, ?_⟩
    rw [← em]; exact f4
theorem ushr_i (x : Int32) {i : Nat} (hi : i < 4) : (8 : Int32) * nI i = nI (8 * i) := pk_mul 8 i
theorem num_step {x : Int32} {k i n : Nat} {T : Mm} (h : i < k) (hk : k ≤ 4) : f_X6_putNumber_l2 (n + 1) x (nI k) (nI i) T = bd (f_X6_putByte ((x.toUInt32 >>> ((nI (8 * i)).toUInt32 &&& Int32.toUInt32 31)).toInt32) T) (fun _ T1 => f_X6_putNumber_l2 n x (nI k) (nI (i + 1)) T1) := by
  show f_X6_putNumber_b2 (f_X6_putNumber_l2 n) _ _ _ _ = _
  unfold f_X6_putNumber_b2
  rw [if_neg (nI_ge h (by omega)), ushr_i x (by omega), nI_1]
theorem num_end {x : Int32} {k n : Nat} {T : Mm} : f_X6_putNumber_l2 (n + 1) x (nI k) (nI k) T = some ((), T) := by
  show f_X6_putNumber_b2 (f_X6_putNumber_l2 n) _ _ _ _ = _
  unfold f_X6_putNumber_b2
  rw [if_pos (Int32.le_refl _)]
theorem onum_step {x : Int64} {k i n : Nat} {T : Mm} (h : i < k) (hk : k ≤ 4) : f_X12_outNumber_l3 (n + 1) (nI k) x (nI i) T = bd (f_X12_outByte (((x >>> ((nI (8 * i)).toInt64 &&& 63)).toInt32) &&& 255) T) (fun _ T1 => f_X12_outNumber_l3 n (nI k) x (nI (i + 1)) T1) := by
  show f_X12_outNumber_b3 (f_X12_outNumber_l3 n) _ _ _ _ = _
  unfold f_X12_outNumber_b3
  rw [if_neg (nI_ge h (by omega)), ushr_i 0 (by omega), nI_1]
theorem onum_end {x : Int64} {k n : Nat} {T : Mm} : f_X12_outNumber_l3 (n + 1) (nI k) x (nI k) T = some ((), T) := by
  show f_X12_outNumber_b3 (f_X12_outNumber_l3 n) _ _ _ _ = _
  unfold f_X12_outNumber_b3
  rw [if_pos (Int32.le_refl _)]
theorem sm63 : ∀ k, k < 64 → (((nI k).toInt64 &&& 63).toBitVec.smod 64).toNat = k := by decide +kernel
theorem l255 {N k i : Nat} (hN : N < 2 ^ 31) (hk : k < 32) (hi : i < 8) : bt ((((lN N) >>> ((nI k).toInt64 &&& 63)).toInt32) &&& 255) i = N.testBit (k + i) := by
  rw [b_and, b_255, decide_eq_true hi, Bool.and_true]
  unfold bt
  rw [Int64.toBitVec_toInt32, BitVec.getLsbD_signExtend, decide_eq_true (by omega : i < 32), Bool.true_and, if_pos (by omega : i < 64), Int64.toBitVec_shiftRight, BitVec.sshiftRight_eq', sm63 k (by omega), BitVec.getLsbD_sshiftRight]
  have h0 : (lN N).toBitVec = BitVec.ofNat 64 N := rfl
  rw [h0, if_pos (by omega), BitVec.getLsbD_ofNat, decide_eq_true (by omega : k + i < 64), Bool.true_and, decide_eq_false (by omega : ¬ 64 ≤ i)]
  simp
theorem nbyte {N M k j : Nat} (hM : M < 2 ^ 31) (hk : k < 32) (hj : j < 32) (h : ∀ i, i < 8 → N.testBit (k + i) = M.testBit (j + i)) (hk2 : k ≤ 24) : (((nI N).toUInt32 >>> ((nI k).toUInt32 &&& Int32.toUInt32 31)).toInt32).toInt8 = ((((lN M) >>> ((nI j).toInt64 &&& 63)).toInt32) &&& 255).toInt8 := by
  refine i8_eq fun i hi => ?_
  rw [b_ushr _ hk, l255 hM hj hi, nI_bt (by omega)]
  exact h i hi
/-- a number of 4 bytes on both sides -/
theorem P2_num4 {z : Nat} {N : Nat} {c m : Mm} (hN : N < 2 ^ 31) (h : ∃ s y, WR z s y c m) : P2 (f_X6_putNumber (nI N) 4 c) (f_X12_outNumber 4 (lN N) m) (fun _ c' _ m' => (∃ s y, WR z s y c' m') ∧ Fr cOutF cOutA c c' ∧ Fr mOutF mOutA m m') := by
  unfold f_X6_putNumber f_X12_outNumber
  rw [show FU = 3999999995 + 1 + 1 + 1 + 1 + 1 from rfl, show (4 : Int32) = nI 4 from rfl, show (0 : Int32) = nI 0 from rfl]
  have go : ∀ (i : Nat), i ≤ 4 → ∀ (n n' : Nat) (c m : Mm), (∃ s y, WR z s y c m) → P2 (f_X6_putNumber_l2 (n + i + 1) (nI N) (nI 4) (nI (4 - i)) c) (f_X12_outNumber_l3 (n' + i + 1) (nI 4) (lN N) (nI (4 - i)) m) (fun _ c' _ m' => (∃ s y, WR z s y c' m') ∧ Fr cOutF cOutA c c' ∧ Fr mOutF mOutA m m') := by
    intro i
    induction i with
    | zero => intro _ n n' c m h; rw [num_end, onum_end]; exact P2_ret ⟨h, Fr.refl, Fr.refl⟩
    | succ i ih =>
      intro hi n n' c m ⟨s, y, h⟩
      rw [num_step (i := 4 - (i + 1)) (by omega) (by omega), onum_step (i := 4 - (i + 1)) (by omega) (by omega)]
      refine P2_bd (P2_byte h (nbyte hN (by omega) (by omega) (fun _ _ => rfl) (by omega))) ?_
      rintro _ c2 _ m2 ⟨h2, f1, f2⟩
      rw [show 4 - (i + 1) + 1 = 4 - i by omega, show n + (i + 1) = n + i + 1 by omega, show n' + (i + 1) = n' + i + 1 by omega]
      refine P2_mono (ih (by omega) n n' c2 m2 h2) ?_
      rintro _ c3 _ m3 ⟨h3, f3, f4⟩
      exact ⟨h3, f1.trans f3, f2.trans f4⟩
  exact go 4 (by omega) 3999999995 3999999995 c m h
theorem P2_num4S {z : Nat} {N s : Nat} {y : Bool} {c m : Mm} (hN : N < 2 ^ 31) (h : WR z s y c m) : P2 (f_X6_putNumber (nI N) 4 c) (f_X12_outNumber 4 (lN N) m) (fun _ c' _ m' => (∃ s' y', WR z s' y' c' m' ∧ (y' = false → y = false ∧ s' = s + 4) ∧ (s + 4 ≤ 60000 → y' = y ∧ s' = s + 4)) ∧ Fr cOutF cOutA c c' ∧ Fr mOutF mOutA m m') := by
  unfold f_X6_putNumber f_X12_outNumber
  rw [show FU = 3999999995 + 1 + 1 + 1 + 1 + 1 from rfl, show (4 : Int32) = nI 4 from rfl, show (0 : Int32) = nI 0 from rfl]
  have go : ∀ (i : Nat), i ≤ 4 → ∀ (n n' s : Nat) (y : Bool) (c m : Mm), WR z s y c m → P2 (f_X6_putNumber_l2 (n + i + 1) (nI N) (nI 4) (nI (4 - i)) c) (f_X12_outNumber_l3 (n' + i + 1) (nI 4) (lN N) (nI (4 - i)) m) (fun _ c' _ m' => (∃ s' y', WR z s' y' c' m' ∧ (y' = false → y = false ∧ s' = s + i) ∧ (s + i ≤ 60000 → y' = y ∧ s' = s + i)) ∧ Fr cOutF cOutA c c' ∧ Fr mOutF mOutA m m') := by
    intro i
    induction i with
    | zero => intro _ n n' s y c m h; rw [num_end, onum_end]; exact P2_ret ⟨⟨s, y, h, fun e => ⟨e, rfl⟩, fun _ => ⟨rfl, rfl⟩⟩, Fr.refl, Fr.refl⟩
    | succ i ih =>
      intro hi n n' s y c m h
      rw [num_step (i := 4 - (i + 1)) (by omega) (by omega), onum_step (i := 4 - (i + 1)) (by omega) (by omega)]
      refine P2_bd (P2_byteS h (nbyte hN (by omega) (by omega) (fun _ _ => rfl) (by omega))) ?_
      rintro _ c2 _ m2 ⟨⟨s2, y2, h2, hy, hz⟩, f1, f2⟩
      rw [show 4 - (i + 1) + 1 = 4 - i by omega, show n + (i + 1) = n + i + 1 by omega, show n' + (i + 1) = n' + i + 1 by omega]
      refine P2_mono (ih (by omega) n n' s2 y2 c2 m2 h2) ?_
      rintro _ c3 _ m3 ⟨⟨s3, y3, h3, hy3, hz3⟩, f3, f4⟩
      refine ⟨⟨s3, y3, h3, fun e => ?_, fun e => ?_⟩, f1.trans f3, f2.trans f4⟩
      · obtain ⟨q1, q2⟩ := hy3 e
        obtain ⟨q3, q4⟩ := hy q1
        exact ⟨q3, by omega⟩
      · obtain ⟨q1, q2⟩ := hz (by omega)
        obtain ⟨q3, q4⟩ := hz3 (by omega)
        exact ⟨q3.trans q1, by omega⟩
  exact go 4 (by omega) 3999999995 3999999995 s y c m h
/-- two bytes of the class's number at place k, and the reference's number of two -/
theorem P2_num2 {z : Nat} {N M k : Nat} {c m : Mm} (hk : k ≤ 2) (hM : M < 2 ^ 31) (hb : ∀ i, i < 16 → N.testBit (8 * k + i) = M.testBit i) (h : ∃ s y, WR z s y c m) {n e : Nat} (he : k + 2 ≤ e) (he4 : e ≤ 4) {α β : Type} {Q : α → Mm → β → Mm → Prop} {K : Option (Unit × Mm) → Option (α × Mm)} {L : Unit → Mm → Option (β × Mm)} (hK : ∀ (a : Option (Unit × Mm)) (f : Unit → Mm → Option (Unit × Mm)), K (bd a f) = bd a (fun u T => K (f u T)))
    (hk2 : ∀ c' m', (∃ s y, WR z s y c' m') → Fr cOutF cOutA c c' → Fr mOutF mOutA m m' → P2 (K (f_X6_putNumber_l2 n (nI N) (nI e) (nI (k + 2)) c')) (L () m') Q) : P2 (K (f_X6_putNumber_l2 (n + 1 + 1) (nI N) (nI e) (nI k) c)) (bd (f_X12_outNumber 2 (lN M) m) L) Q := by
  obtain ⟨s, y, h⟩ := h
  unfold f_X12_outNumber
  rw [show FU = 3999999997 + 1 + 1 + 1 from rfl, show (2 : Int32) = nI 2 from rfl, show (0 : Int32) = nI 0 from rfl]
  rw [num_step (by omega) (by omega), onum_step (by omega) (by omega), hK]
  have ass : ∀ {γ δ ε : Type} (a : Option (γ × Mm)) (f : γ → Mm → Option (δ × Mm)) (g : δ → Mm → Option (ε × Mm)), bd (bd a f) g = bd a (fun u T => bd (f u T) g) := by
    intro γ δ ε a f g; cases a <;> rfl
  rw [ass]
  refine P2_bd (P2_byte h (nbyte hM (by omega) (by omega) (fun i hi => by have := hb i (by omega); simpa using this) (by omega))) ?_
  rintro _ c2 _ m2 ⟨⟨s2, y2, h2⟩, f1, f2⟩
  rw [num_step (by omega) (by omega), onum_step (by omega) (by omega), hK, ass]
  refine P2_bd (P2_byte h2 (nbyte hM (by omega) (by omega) (fun i hi => by have := hb (8 + i) (by omega); rw [show 8 * (k + 1) + i = 8 * k + (8 + i) by omega]; exact this) (by omega))) ?_
  rintro _ c3 _ m3 ⟨h3, f3, f4⟩
  rw [onum_end, bd_eq]
  exact hk2 c3 m3 h3 (f1.trans f3) (f2.trans f4)
/-- an ENTRY on both sides -/
theorem P2_entry {z : Nat} {tag sort v : Nat} {c m : Mm} (ht : tag < 65536) (hs : sort < 8) (hv : v < 2 ^ 31) (hT : nI tag ||| (nI sort <<< ((16 : Int32) &&& 31)) = nI (tag + sort * 65536)) (h : ∃ s y, WR z s y c m) : P2 (f_X6_putEntry (nI tag) (nI sort) (nI v) c) (f_X12_entry (nI tag) (nI sort) (nI v) m) (fun _ c' _ m' => (∃ s y, WR z s y c' m') ∧ Fr cOutF cOutA c c' ∧ Fr mOutF mOutA m m') := by
  unfold f_X6_putEntry f_X12_entry
  rw [hT, nI_l (by omega), nI_l (by omega), nI_l hv]
  unfold f_X6_putNumber
  rw [show f_X6_putNumber_l2 FU (nI (tag + sort * 65536)) 4 0 = f_X6_putNumber_l2 (3999999995 + 1 + 1 + 1 + 1 + 1) (nI (tag + sort * 65536)) (nI 4) (nI 0) from rfl]
  refine P2_num2 (K := fun z => bd z _) (k := 0) (by omega) (by omega) (fun i hi => ?_) h (by omega) (by omega) (fun a f => by cases a <;> rfl) ?_
  · have e : tag + sort * 65536 = 2 ^ 16 * sort + tag := by omega
    rw [e, Nat.testBit_two_pow_mul_add _ ht, if_pos (by omega)]
    simp
  intro c2 m2 h2 f1 f2
  refine P2_num2 (K := fun z => bd z _) (k := 0 + 2) (by omega) (by omega) (fun i hi => ?_) h2 (by omega) (by omega) (fun a f => by cases a <;> rfl) ?_
  · have e : tag + sort * 65536 = 2 ^ 16 * sort + tag := by omega
    rw [e, Nat.testBit_two_pow_mul_add _ ht, if_neg (by omega)]
    congr 1
    omega
  intro c3 m3 h3 f3 f4
  rw [num_end, bd_eq]
  refine P2_bd (P2_num4 (N := 1) (by omega) h3) ?_
  rintro _ c4 _ m4 ⟨h4, f5, f6⟩
  refine P2_bd (P2_num4 hv h4) ?_
  rintro _ c5 _ m5 ⟨h5, f7, f8⟩
  exact P2_ret ⟨h5, (f1.trans f3).trans (f5.trans f7), (f2.trans f4).trans (f6.trans f8)⟩
