/-! Bytes of a raster's row, on both sides. -/
/-- a dot of the class's row, of the reference's -/
def rwC (c : Mm) (i : Nat) : Bool := bt (gA c 49 (i / 32)) (31 - i % 32)
def rwM (m : Mm) (i : Nat) : Bool := bt (gA m 134 (60 + i / 8)) (7 - i % 8)
def a49 (a : Nat) : Bool := a == 49
def f55 (f i : Nat) : Bool := i == 133 && f == 1255
def a134 (a : Nat) : Bool := a == 134
section H1
variable {c c' c0 c1 c2 c3 m m' m0 m1 m2 m3 T : Mm} {d w b A o M o' n p r q a i s f k u h rb t v fl : Nat} {F : Nat → Nat} {ov ov' ng sg : Bool} {g L : Nat → Int32} {Gc Gm : Gty} {PF QF : Nat → Nat → Bool} {PA QA : Nat → Bool}
theorem b_xm (x : Int32) {i : Nat} (hi : i < 32) : bt (x ^^^ (-1)) i = !bt x i := by
  have h1 := b_m1 i hi
  unfold bt at h1 ⊢
  rw [Int32.toBitVec_xor, BitVec.getLsbD_xor, h1]
  cases x.toBitVec.getLsbD i <;> rfl
theorem put_bit {W : Int32} {k v j : Nat} (hk : k < 4) (hv : v < 256) (hj : j < 32) : bt ((W &&& (((255 : Int32) <<< (nI (24 - 8 * k) &&& 31)) ^^^ (-1))) ||| ((nI v &&& 255) <<< (nI (24 - 8 * k) &&& 31))) (31 - j) = if j / 8 = k then v.testBit (7 - j % 8) else bt W (31 - j) := by
  rw [b_or, b_and, b_xm _ (by omega), b_shl _ (by omega) _ (by omega), b_shl _ (by omega) _ (by omega), b_255, b_and, b_255]
  by_cases e : j / 8 = k
  · rw [if_pos e, decide_eq_true (show 24 - 8 * k ≤ 31 - j by omega), decide_eq_true (show 31 - j - (24 - 8 * k) < 8 by omega), nI_bt (by omega), show 31 - j - (24 - 8 * k) = 7 - j % 8 by omega]
    simp
  · rw [if_neg e]
    by_cases q : 24 - 8 * k ≤ 31 - j
    · rw [decide_eq_true q, decide_eq_false (show ¬ 31 - j - (24 - 8 * k) < 8 by omega)]; simp
    · rw [decide_eq_false q]; simp
theorem c_put3 {pl cnt : Nat} (hv : v < 256) (hp : pl < 100000000) (hc : cnt < 100000000) : ∀ (N x : Nat) (T : Mm), pl + cnt - x < N → pl ≤ x ∧ x ≤ pl + cnt → Fr nF a49 c T → (∀ i, i < 640 → rwC T i = if pl ≤ i / 8 ∧ i / 8 < x ∧ i / 8 < pl + cnt then v.testBit (7 - i % 8) else rwC c i) → ∃ c', f_X4_put_l3 N 48 (nI pl) (nI v) (nI cnt) (nI x) T = some ((), c') ∧ Fr nF a49 c c' ∧ ∀ i, i < 640 → rwC c' i = if pl ≤ i / 8 ∧ i / 8 < pl + cnt then v.testBit (7 - i % 8) else rwC c i := by
  intro N
  induction N with
  | zero => intro x T h; omega
  | succ N ih =>
    intro x T h1 h2 h3 h4
    show ∃ c', f_X4_put_b3 (f_X4_put_l3 N) 48 (nI pl) (nI v) (nI cnt) (nI x) T = _ ∧ _
    unfold f_X4_put_b3
    rw [nI_add]
    by_cases q1 : pl + cnt ≤ x
    · rw [if_pos (show nI (pl + cnt) ≤ nI x from by
        by_cases z : x < 2 ^ 31
        · exact nI_le q1 z
        · omega)]
      exact ⟨T, rfl, h3, fun i hi => by
        rw [h4 i hi]
        by_cases y : pl ≤ i / 8 ∧ i / 8 < pl + cnt
        · rw [if_pos y, if_pos (by omega)]
        · rw [if_neg y, if_neg (by omega)]⟩
    · rw [if_neg (nI_ge (by omega) (by omega))]
      by_cases q2 : 80 ≤ x
      · rw [if_pos (show (80 : Int32) ≤ nI x from nI_le (a := 80) q2 (by omega))]
        exact ⟨T, rfl, h3, fun i hi => by
          rw [h4 i hi]
          by_cases y : pl ≤ i / 8 ∧ i / 8 < pl + cnt
          · rw [if_pos y, if_pos (by omega)]
          · rw [if_neg y, if_neg (by omega)]⟩
      · rw [if_neg (show ¬ (80 : Int32) ≤ nI x from nI_ge (b := 80) (by omega) (by omega)), show nI x >>> ((2 : Int32) &&& 31) = nI (x / 4) from pk_shrN (n := x) (by omega) _ 2 (by decide), lb_eq, if_neg (nI_pos (by omega)), if_neg (show ¬ (20 : Int32) ≤ nI (x / 4) from nI_ge (b := 20) (by omega) (by omega)), show nI x &&& 3 = nI (x % 4) from pk_andN (by omega) 2 (by decide), show (8 : Int32) * nI (x % 4) = nI (8 * (x % 4)) from pk_mul 8 _, show (24 : Int32) - nI (8 * (x % 4)) = nI (24 - 8 * (x % 4)) from pk_sub (a := 24) (by omega), lb_eq, ix_in (j := x / 4) (nI_pos (by omega)) (nI_clamp (by omega)) (by omega), ix_in (j := x / 4) (nI_pos (by omega)) (nI_clamp (by omega)) (by omega), lb_eq, show nI x + 1 = nI (x + 1) from nI_add x 1]
        refine ih (x + 1) _ (by omega) (by omega) (h3.uA _ _ (by rfl)) (fun i hi => ?_)
        have e4 := h4 i hi
        unfold rwC at e4 ⊢
        rw [gA_one]
        by_cases z : i / 32 = x / 4
        · rw [if_pos z, put_bit (by omega) hv (by omega)]
          by_cases y : i % 32 / 8 = x % 4
          · rw [if_pos y, if_pos (by omega), show i % 32 % 8 = i % 8 by omega]
          · rw [if_neg y, show gA T (48 + 1) (x / 4) = gA T 49 (i / 32) by rw [z], e4]
            by_cases y2 : pl ≤ i / 8 ∧ i / 8 < x ∧ i / 8 < pl + cnt
            · rw [if_pos y2, if_pos (by omega)]
            · rw [if_neg y2, if_neg (by omega)]
        · rw [if_neg z, e4]
          by_cases y2 : pl ≤ i / 8 ∧ i / 8 < x ∧ i / 8 < pl + cnt
          · rw [if_pos y2, if_pos (by omega)]
          · rw [if_neg y2, if_neg (by omega)]
/-- bytes put on the class's side -/
theorem c_put {pl cnt : Nat} (hv : v < 256) (hp : pl < 100000000) (hc : cnt < 100000000) : ∃ c', f_X4_put 48 (nI pl) (nI v) (nI cnt) c = some ((), c') ∧ Fr nF a49 c c' ∧ ∀ i, i < 640 → rwC c' i = if pl ≤ i / 8 ∧ i / 8 < pl + cnt then v.testBit (7 - i % 8) else rwC c i := by
  unfold f_X4_put
  exact c_put3 hv hp hc FU pl c (FU_gt (by omega)) (by omega) Fr.refl (fun i hi => by rw [if_neg (by omega)])
theorem m_fill1 (hv : v < 256) (hf : fl < 100000000) (e : gI m 1255 133 = nI fl) : ∃ m', f_X12_fill (nI v) m = some ((), m') ∧ Fr f55 a134 m m' ∧ gI m' 1255 133 = nI (fl + 1) ∧ ∀ j, gA m' 134 j = if j = 60 + fl ∧ fl < 80 then nI v else gA m 134 j := by
  unfold f_X12_fill
  rw [e]
  by_cases q : 80 ≤ fl
  · rw [if_pos (show (80 : Int32) ≤ nI fl from nI_le (a := 80) q (by omega)), lb_eq]
    refine ⟨_, rfl, Fr.refl.uI _ (by rfl), ?_, fun j => ?_⟩
    · rw [gI_uI, if_pos ⟨rfl, rfl⟩]; exact nI_add fl 1
    · rw [gA_uI, if_neg (by omega)]
  · rw [if_neg (show ¬ (80 : Int32) ≤ nI fl from nI_ge (b := 80) (by omega) (by omega)), show (60 : Int32) + nI fl = nI (60 + fl) from nI_add 60 fl, ix_in (j := 60 + fl) (nI_pos (by omega)) (nI_clamp (by omega)) (by omega), lb_eq, lb_eq]
    refine ⟨_, rfl, (Fr.refl.uA _ _ (by rfl)).uI _ (by rfl), ?_, fun j => ?_⟩
    · rw [gI_uI, if_pos ⟨rfl, rfl⟩]
      show gI m 1255 133 + 1 = _
      rw [e]; exact nI_add fl 1
    · rw [gA_uI, gA_one]
      by_cases z : j = 60 + fl
      · rw [if_pos z, if_pos ⟨z, by omega⟩]
      · rw [if_neg z, if_neg (fun y => z y.1)]
/-- the rows of both sides: alike up to a byte, white behind it on the class's side (z), or alike all over -/
def UR (z : Bool) (fl : Nat) (c m : Mm) : Prop := ∀ i, i < 640 → ((z = false ∨ i / 8 < fl) → rwC c i = rwM m i) ∧ (z = true → fl ≤ i / 8 → rwC c i = false)
/-- some bytes of one value, put and filled -/
theorem UR.step {z : Bool} {cnt : Nat} (h : UR z fl c m) (hv : v < 256) (hc : ∀ i, i < 640 → rwC c' i = if fl ≤ i / 8 ∧ i / 8 < fl + cnt then v.testBit (7 - i % 8) else rwC c i) (hm : ∀ j, j < 80 → gA m' 134 (60 + j) = if fl ≤ j ∧ j < fl + cnt then nI v else gA m 134 (60 + j)) : UR z (fl + cnt) c' m' := fun i hi => by
  obtain ⟨h1, h2⟩ := h i hi
  rw [hc i hi]
  have hj := hm (i / 8) (by omega)
  unfold rwM at h1 ⊢
  rw [hj]
  by_cases q : fl ≤ i / 8 ∧ i / 8 < fl + cnt
  · rw [if_pos q, if_pos q, nI_bt (by omega)]
    exact ⟨fun _ => rfl, fun _ y => by omega⟩
  · rw [if_neg q, if_neg q]
    refine ⟨fun y => h1 ?_, fun y y2 => h2 y (by omega)⟩
    rcases y with y | y
    · exact Or.inl y
    · exact Or.inr (by omega)
/-- bytes beyond the row change nothing -/
theorem UR.big {z : Bool} (h : UR z fl c m) (hf : 80 ≤ fl) (fl' : Nat) (hf' : 80 ≤ fl') : UR z fl' c m := fun i hi => ⟨fun _ => (h i hi).1 (Or.inr (by omega)), fun _ y => by omega⟩
theorem UR.skip {fl' : Nat} (h : UR false fl c m) : UR false fl' c m := fun i hi => ⟨fun _ => (h i hi).1 (Or.inl rfl), fun y => by cases y⟩
end H1
