/-! A row read goes to the page. -/
theorem P2_readRow {c m : Mm} {a rw w nb q : Nat} {ra : Int32} {bs B : Nat → Bool} (L : LC c m a rw w nb ra bs B) (hq : q ≤ nb) (cq : gI c 318 129 = nI q) (mq : gJ m 1278 133 = lN q) (hw : gJ c 309 129 = lN w) (hz : ∀ x, x < 640 → dotW (gA c a) rw x = false) : P2 (f_X3_readRow a (nI rw) ra c) (f_X12_readRow_ m) (RQ c m a rw w nb) := by
  have hnb := L.sc.2.1
  unfold f_X3_readRow f_X12_readRow_
  rw [hw, lN_i, lb_eq, lb_eq, lb_eq, lb_eq]
  refine P2_rloop L FU q 0 0 true false (fun _ => false) c _ (FU_gt (by omega)) (by omega) (LI_mk (hq := hq) (cq := cq) (mq := mq) (m1 := ?_) (m2 := ?_) (m3 := ?_) (ha := by omega) (hf := fun _ => rfl) (dc := hz) (dm := fun x hx => by omega) (dz := fun _ _ _ => rfl) (out := fun _ _ => rfl) (fc := Fr.refl) (fm := ?_))
  · rw [gI_uI, if_neg (by decide), gI_uI, if_neg (by decide), gI_uI, if_pos ⟨rfl, rfl⟩]; rfl
  · rw [gI_uI, if_neg (by decide), gI_uI, if_pos ⟨rfl, rfl⟩]; rfl
  · rw [gI_uI, if_pos ⟨rfl, rfl⟩]; rfl
  · exact ((Fr.refl.uI 0 (by rfl)).uI 1 (by rfl)).uI 0 (by rfl)
theorem b128 : ∀ n, n < 8 → ∀ b, b < 8 → bt ((128 : Int32) >>> (nI n &&& 31)) b = decide (b + n = 7) := by decide +kernel
def mCpA (b : Nat) : Bool := b == 157 || b == 167
/-- the row read goes to the page and becomes the row before -/
theorem m_copy {w y : Nat} {inv : Bool} {N : Nat → Bool} (hw : w ≤ 640) (hy : y < 800) {a4 a7 a9 : Int32} {a5 a10 : Int64} {k707 : Int32 → Int32 → Int64 → Int32 → Int32 → Int32 → Int64 → Mm → Option (Int32 × Mm)} : ∀ n i m, i ≤ w → w - i < n → (gB m 171 262 = 0 ↔ inv = false) → (∀ x, x < w → gA m 168 x = cI (N x)) → (∀ x, x < i → gA m 167 x = cI (N x)) → (∀ x, x < 640 → bt (gA m 157 (80 * y + x / 8)) (7 - x % 8) = if x < i then xor (N x) inv else false) → ∃ m', f_X12_directory_l742 k707 n (nI w) a4 a5 a7 (nI y) a9 a10 (nI i) m = k707 (nI w) a4 a5 a7 (nI (y + 1)) a9 (a10 + 1) m' ∧ Fr (fun _ _ => false) mCpA m m' ∧ (∀ x, x < w → gA m' 167 x = cI (N x)) ∧ (∀ x, x < 640 → bt (gA m' 157 (80 * y + x / 8)) (7 - x % 8) = if x < w then xor (N x) inv else false) ∧ ∀ j, j < 80 * y ∨ 80 * y + 80 ≤ j → gA m' 157 j = gA m 157 j := by
  intro n
  induction n with
  | zero => intro i m _ h; omega
  | succ n ih =>
    intro i m hi hn hph hN h167 h157
    have ev : f_X12_directory_l742 k707 (n + 1) (nI w) a4 a5 a7 (nI y) a9 a10 (nI i) m = f_X12_directory_b742 k707 (f_X12_directory_l742 k707 n) (nI w) a4 a5 a7 (nI y) a9 a10 (nI i) m := rfl
    rw [ev]
    unfold f_X12_directory_b742
    rcases Nat.lt_or_ge i w with hlt | hge
    · rw [if_neg (nI_ge hlt (by omega)), ix_in (j := i) (nI_pos (by omega)) (nI_clamp (by omega)) (by omega), ix_in (j := i) (nI_pos (by omega)) (nI_clamp (by omega)) (by omega), hN i hlt, lb_eq, ix_in (j := i) (nI_pos (by omega)) (nI_clamp (by omega)) (by omega)]
      have f1 : Fr (fun _ _ => false) mCpA m (uA m 167 i (cI (N i))) := Fr.refl.uA i _ (by rfl)
      have e787 : (if lg_cmp (gB (uA m 167 i (cI (N i))) 171 262) 0 = 0 then f_X12_directory_787 (f_X12_directory_l742 k707 n) (nI w) a4 a5 a7 (nI y) a9 a10 (nI i) 1 (gA (uA m 167 i (cI (N i))) 168 i) (uA m 167 i (cI (N i))) else f_X12_directory_787 (f_X12_directory_l742 k707 n) (nI w) a4 a5 a7 (nI y) a9 a10 (nI i) 0 (gA (uA m 167 i (cI (N i))) 168 i) (uA m 167 i (cI (N i)))) = f_X12_directory_787 (f_X12_directory_l742 k707 n) (nI w) a4 a5 a7 (nI y) a9 a10 (nI i) (cI (!inv)) (cI (N i)) (uA m 167 i (cI (N i))) := by
        rw [show gA (uA m 167 i (cI (N i))) 168 i = cI (N i) from by rw [gA_uA, if_neg (by omega)]; exact hN i hlt, show gB (uA m 167 i (cI (N i))) 171 262 = gB m 171 262 from rfl]
        cases inv
        · rw [if_pos (c_eq.mpr (hph.mpr rfl))]; rfl
        · rw [if_neg (fun z => by have := hph.mp (c_eq.mp z); cases this)]; rfl
      rw [e787]
      have nxt : ∀ m1, Fr (fun _ _ => false) mCpA m m1 → gA m1 167 = gA (uA m 167 i (cI (N i))) 167 → (∀ x, x < 640 → bt (gA m1 157 (80 * y + x / 8)) (7 - x % 8) = if x < i + 1 then xor (N x) inv else false) → (∀ j, j < 80 * y ∨ 80 * y + 80 ≤ j → gA m1 157 j = gA m 157 j) → ∃ m', f_X12_directory_l742 k707 n (nI w) a4 a5 a7 (nI y) a9 a10 (nI i + 1) m1 = k707 (nI w) a4 a5 a7 (nI (y + 1)) a9 (a10 + 1) m' ∧ Fr (fun _ _ => false) mCpA m m' ∧ (∀ x, x < w → gA m' 167 x = cI (N x)) ∧ (∀ x, x < 640 → bt (gA m' 157 (80 * y + x / 8)) (7 - x % 8) = if x < w then xor (N x) inv else false) ∧ ∀ j, j < 80 * y ∨ 80 * y + 80 ≤ j → gA m' 157 j = gA m 157 j := by
        intro m1 f g1 g2 g3
        rw [nI_1]
        obtain ⟨m', r1, r2, r3, r4, r5⟩ := ih (i + 1) m1 (by omega) (by omega) (by rw [f.b rfl]; exact hph) (fun x hx => by rw [f.a rfl]; exact hN x hx) (fun x hx => by
          rw [g1, gA_uA]
          by_cases z : x = i
          · subst z; rw [if_pos ⟨rfl, rfl⟩]
          · rw [if_neg (fun y => z y.2)]; exact h167 x (by omega)) g2
        exact ⟨m', r1, f.trans r2, r3, r4, fun j hj => by rw [r5 j hj, g3 j hj]⟩
      unfold f_X12_directory_787
      by_cases hb : N i = !inv
      · have e80 : (80 : Int32) * nI y + nI i / 8 = nI (80 * y + i / 8) := by rw [show (80 : Int32) * nI y = nI (80 * y) from pk_mul 80 y, div8 (by omega), nI_add]
        rw [if_pos (by rw [hb]), e80, ix_in (j := 80 * y + i / 8) (nI_pos (by omega)) (nI_clamp (by omega)) (by omega), ix_in (j := 80 * y + i / 8) (nI_pos (by omega)) (nI_clamp (by omega)) (by omega), rem8 (by omega), lb_eq]
        refine nxt _ (f1.uA _ _ (by rfl)) rfl (fun x hx => ?_) (fun j hj => ?_)
        · rw [gA_uA]
          by_cases z : 80 * y + x / 8 = 80 * y + i / 8
          · rw [if_pos ⟨rfl, z⟩, i8_bt _ (by omega), i8_bt _ (by omega), b_or, b128 _ (by omega) _ (by omega), show gA (uA m 167 i (cI (N i))) 157 (80 * y + i / 8) = gA m 157 (80 * y + x / 8) from by rw [gA_uA, if_neg (by omega), z], h157 x hx]
            by_cases z2 : x = i
            · subst z2
              rw [decide_eq_true (by omega), Bool.or_true, if_pos (by omega), hb]
              cases inv <;> rfl
            · rw [decide_eq_false (by omega), Bool.or_false]
              by_cases z3 : x < i
              · rw [if_pos z3, if_pos (by omega)]
              · rw [if_neg z3, if_neg (by omega)]
          · rw [if_neg (fun y => z y.2), gA_uA, if_neg (by omega), h157 x hx]
            by_cases z3 : x < i
            · rw [if_pos z3, if_pos (by omega)]
            · rw [if_neg z3, if_neg (by omega)]
        · rw [gA_uA, if_neg (by omega), gA_uA, if_neg (by omega)]
      · rw [if_neg (fun z => hb (cI_inj.mp z))]
        refine nxt _ f1 rfl (fun x hx => ?_) (fun j hj => ?_)
        · rw [gA_uA, if_neg (by omega), h157 x hx]
          by_cases z : x = i
          · subst z
            rw [if_neg (by omega), if_pos (by omega)]
            revert hb; cases N x <;> cases inv <;> simp
          · by_cases z3 : x < i
            · rw [if_pos z3, if_pos (by omega)]
            · rw [if_neg z3, if_neg (by omega)]
        · rw [gA_uA, if_neg (by omega)]
    · have : i = w := by omega
      subst this
      rw [if_pos (nI_le (Nat.le_refl _) (by omega)), lb_eq, nI_1]
      exact ⟨m, rfl, Fr.refl, h167, h157, fun _ _ => rfl⟩
