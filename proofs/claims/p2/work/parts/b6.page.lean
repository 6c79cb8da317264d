/-! The page as it comes; the environment kept and brought back on the reference's side. -/
section B6
variable {c c' c0 m m' T : Mm} {g : Nat → Int32}
theorem m_save {a : Nat} (ha : a < 5) : ∃ m', f_X12_save (nI a) m = some ((), m') ∧ Fr nF (fun b => b == 135) m m' ∧ ∀ j, gA m' 135 j = if 192 * a ≤ j ∧ j < 192 * a + 192 then gA m 134 (j - 192 * a) else gA m 135 j := by
  have go : ∀ (N k : Nat) (T : Mm), 192 - k < N → k ≤ 192 → Fr nF (fun b => b == 135) m T → (∀ j, gA T 135 j = if 192 * a ≤ j ∧ j < 192 * a + k then gA m 134 (j - 192 * a) else gA m 135 j) → ∃ m', f_X12_save_l2 N (nI a) (nI k) T = some ((), m') ∧ Fr nF (fun b => b == 135) m m' ∧ ∀ j, gA m' 135 j = if 192 * a ≤ j ∧ j < 192 * a + 192 then gA m 134 (j - 192 * a) else gA m 135 j := by
    intro N
    induction N with
    | zero => intro k T h; omega
    | succ N ih =>
      intro k T g1 g2 g3 g4
      show ∃ m', f_X12_save_b2 (f_X12_save_l2 N) (nI a) (nI k) T = _ ∧ _
      unfold f_X12_save_b2
      by_cases q : k = 192
      · subst q
        rw [if_pos (by decide)]
        exact ⟨T, rfl, g3, g4⟩
      · rw [if_neg (show ¬ (192 : Int32) ≤ nI k from nI_ge (b := 192) (by omega) (by omega)), ix_in (j := k) (nI_pos (by omega)) (nI_clamp (by omega)) (by omega), show nI a * (192 : Int32) = nI (a * 192) from pk_mul a 192, nI_add, ix_in (j := a * 192 + k) (nI_pos (by omega)) (nI_clamp (by omega)) (by omega), lb_eq, show nI k + 1 = nI (k + 1) from nI_add k 1, g3.a (show (134 == 135) = false from rfl)]
        refine ih (k + 1) _ (by omega) (by omega) (g3.uA _ _ (by rfl)) (fun j => ?_)
        rw [gA_wr]
        by_cases z : j = a * 192 + k
        · rw [z, wr_s, if_pos (by omega)]
          congr 1
          omega
        · rw [wr_o _ z, g4 j]
          by_cases y : 192 * a ≤ j ∧ j < 192 * a + k
          · rw [if_pos y, if_pos (by omega)]
          · rw [if_neg y, if_neg (by omega)]
  unfold f_X12_save
  exact go FU 0 m (FU_gt (by omega)) (by omega) Fr.refl (fun j => by rw [if_neg (by omega)])
theorem m_back {a : Nat} (ha : a < 5) : ∃ m', f_X12_back (nI a) m = some ((), m') ∧ Fr nF meA m m' ∧ ∀ j, j < 192 → gA m' 134 j = gA m 135 (192 * a + j) := by
  have go : ∀ (N k : Nat) (T : Mm), 192 - k < N → k ≤ 192 → Fr nF meA m T → (∀ j, j < k → gA T 134 j = gA m 135 (192 * a + j)) → ∃ m', f_X12_back_l2 N (nI a) (nI k) T = some ((), m') ∧ Fr nF meA m m' ∧ ∀ j, j < 192 → gA m' 134 j = gA m 135 (192 * a + j) := by
    intro N
    induction N with
    | zero => intro k T h; omega
    | succ N ih =>
      intro k T g1 g2 g3 g4
      show ∃ m', f_X12_back_b2 (f_X12_back_l2 N) (nI a) (nI k) T = _ ∧ _
      unfold f_X12_back_b2
      by_cases q : k = 192
      · subst q
        rw [if_pos (by decide)]
        exact ⟨T, rfl, g3, g4⟩
      · rw [if_neg (show ¬ (192 : Int32) ≤ nI k from nI_ge (b := 192) (by omega) (by omega)), show nI a * (192 : Int32) = nI (a * 192) from pk_mul a 192, nI_add, ix_in (j := a * 192 + k) (nI_pos (by omega)) (nI_clamp (by omega)) (by omega), ix_in (j := k) (nI_pos (by omega)) (nI_clamp (by omega)) (by omega), lb_eq, show nI k + 1 = nI (k + 1) from nI_add k 1, g3.a (show meA 135 = false from rfl)]
        refine ih (k + 1) _ (by omega) (by omega) (g3.uA _ _ (by rfl)) (fun j hj => ?_)
        rw [gA_wr]
        by_cases z : j = k
        · rw [z, wr_s, show a * 192 + k = 192 * a + k by omega]
        · rw [wr_o _ z]; exact g4 j (by omega)
  unfold f_X12_back
  exact go FU 0 m (FU_gt (by omega)) (by omega) Fr.refl (fun j hj => by omega)
/-! a word turned -/
theorem one_at : ∀ k, k < 32 → ∀ i, i < 32 → bt ((1 : Int32) <<< (((31 : Int32) - nI k) &&& 31)) i = decide (i = 31 - k) := by decide +kernel
def pgA (v : Nat) (a : Nat) : Bool := a == v
theorem c_turnW {v col : Nat} {b : Int} {bits : Int32} (hv : LN v = 16000) (hc : col < 640) (b1 : -1000 ≤ b) (b2 : b ≤ 1000) (hin : ∀ i : Nat, i < 32 → bt bits (31 - i) = true → 0 ≤ b - i ∧ b - i < 800) : ∃ c', f_X0_turnWord v (nI col) (iz b) bits c = some ((), c') ∧ Fr nF (pgA v) c c' ∧ ∀ X Y : Nat, X < 640 → Y < 800 → dotW (gA c' v) (20 * Y) X = (dotW (gA c v) (20 * Y) X || (decide (X = col) && (inR (b - 31) 32 Y && bt bits (31 - (b - Y).toNat)))) := by
  have go : ∀ (N i : Nat) (left : Int32) (T : Mm), 32 - i < N → i ≤ 32 → (∀ k, k < 32 → bt left (31 - k) = (decide (i + k < 32) && bt bits (31 - (i + k)))) → Fr nF (pgA v) c T → (∀ X Y : Nat, X < 640 → Y < 800 → dotW (gA T v) (20 * Y) X = (dotW (gA c v) (20 * Y) X || (decide (X = col) && (inR (b - i + 1) i Y && bt bits (31 - (b - Y).toNat))))) → ∃ c', f_X0_turnWord_l6 N v (nI col) (iz b) left (nI i) T = some ((), c') ∧ Fr nF (pgA v) c c' ∧ ∀ X Y : Nat, X < 640 → Y < 800 → dotW (gA c' v) (20 * Y) X = (dotW (gA c v) (20 * Y) X || (decide (X = col) && (inR (b - 31) 32 Y && bt bits (31 - (b - Y).toNat)))) := by
    intro N
    induction N with
    | zero => intro i left T h; omega
    | succ N ih =>
      intro i left T g1 g2 g3 g4 g5
      show ∃ c', f_X0_turnWord_b6 (f_X0_turnWord_l6 N) v (nI col) (iz b) left (nI i) T = _ ∧ _
      unfold f_X0_turnWord_b6
      by_cases q : i = 32
      · subst q
        rw [if_pos (by decide)]
        exact ⟨T, rfl, g4, fun X Y hX hY => by rw [g5 X Y hX hY, show b - ((32 : Nat) : Int) + 1 = b - 31 by omega]; rfl⟩
      rw [if_neg (show ¬ (32 : Int32) ≤ nI i from nI_ge (b := 32) (by omega) (by omega))]
      by_cases z : left = 0
      · rw [if_pos z]
        refine ⟨T, rfl, g4, fun X Y hX hY => ?_⟩
        rw [g5 X Y hX hY]
        congr 1
        congr 1
        by_cases y : b - i + 1 ≤ Y ∧ (Y : Int) < b - i + 1 + i
        · rw [inR_t.mpr y, inR_t.mpr (show b - 31 ≤ (Y : Int) ∧ (Y : Int) < b - 31 + 32 by omega)]
        · rw [inR_f.mpr y, Bool.false_and]
          by_cases y2 : b - 31 ≤ (Y : Int) ∧ (Y : Int) < b - 31 + 32
          · obtain ⟨k, hk⟩ : ∃ k : Nat, b - Y = ((i + k : Nat) : Int) := ⟨(b - Y).toNat - i, by omega⟩
            have := g3 k (by omega)
            rw [z, b_0, decide_eq_true (by omega), Bool.true_and] at this
            rw [inR_t.mpr y2, hk, show (((i + k : Nat) : Int)).toNat = i + k from rfl, ← this]; rfl
          · rw [inR_f.mpr y2, Bool.false_and]
      · have hb := g3 0 (by omega)
        rw [Nat.add_zero, decide_eq_true (by omega), Bool.true_and, Nat.sub_zero] at hb
        have sh : ∀ k, k < 32 → bt (left <<< ((1 : Int32) &&& 31)) (31 - k) = (decide (i + 1 + k < 32) && bt bits (31 - (i + 1 + k))) := fun k hk => by
          rw [show ((1 : Int32) &&& 31) = (nI 1 &&& 31) from rfl, b_shl 1 (by omega) _ (by omega)]
          by_cases y : k = 31
          · rw [y, decide_eq_false (by omega), decide_eq_false (by omega), Bool.false_and, Bool.false_and]
          · rw [decide_eq_true (by omega), Bool.true_and, show 31 - k - 1 = 31 - (k + 1) by omega, g3 (k + 1) (by omega), show i + (k + 1) = i + 1 + k by omega]
        have nx : nI i + 1 = nI (i + 1) := nI_add i 1
        have e1 : ((iz b - nI i) * 20 + (nI col >>> ((5 : Int32) &&& 31))) = iz ((b - i) * 20 + ((col / 32 : Nat) : Int)) := by
          rw [pk_shrN (n := col) (by omega) _ 5 (by decide), nI_iz i, iz_sub, show (20 : Int32) = iz 20 from rfl, iz_mul, nI_iz, iz_add]
        rw [if_neg z, e1, lb_eq]
        have grow : ∀ Y : Nat, inR (b - ((i + 1 : Nat) : Int) + 1) ((i + 1 : Nat) : Int) Y = (inR (b - i + 1) i Y || decide ((Y : Int) = b - i)) := fun Y => by
          rw [Bool.eq_iff_iff, Bool.or_eq_true, inR_t, inR_t, decide_eq_true_eq]; omega
        by_cases y : (0 : Int32) ≤ left
        · have f31 : bt left 31 = false := by rw [sgn, decide_eq_false (Int32.not_lt.mpr y)]
          rw [f31] at hb
          rw [if_pos y, lb_eq, nx]
          refine ih (i + 1) _ T (by omega) (by omega) sh g4 (fun X Y hX hY => ?_)
          rw [g5 X Y hX hY, grow]
          congr 1
          congr 1
          by_cases w : (Y : Int) = b - i
          · rw [decide_eq_true w, show (b - (Y : Int)).toNat = i by omega, ← hb, Bool.and_false, Bool.and_false]
          · rw [decide_eq_false w, Bool.or_false]
        · have f31 : bt left 31 = true := by
            rw [sgn]
            exact decide_eq_true (by
              by_cases w : left < 0
              · exact w
              · exact absurd (Int32.not_lt.mp w) y)
          rw [f31] at hb
          obtain ⟨h1, h2⟩ := hin i (by omega) hb.symm
          obtain ⟨r, hr⟩ : ∃ r : Nat, b - i = r := ⟨(b - i).toNat, by omega⟩
          have ea : iz ((b - i) * 20 + ((col / 32 : Nat) : Int)) = nI (r * 20 + col / 32) := by
            rw [hr, nI_iz]; congr 1
          have ec : nI col &&& 31 = nI (col % 32) := pk_andN (by omega) 5 (by decide)
          rw [if_neg y, ea, if_neg (nI_pos (by omega)), onat, hv, if_neg (nI_ge (by omega) (by omega)), ix_in (j := r * 20 + col / 32) (nI_pos (by omega)) (nI_clamp (by omega)) (by omega), ix_in (j := r * 20 + col / 32) (nI_pos (by omega)) (nI_clamp (by omega)) (by omega), lb_eq, lb_eq, nx, ec]
          refine ih (i + 1) _ _ (by omega) (by omega) sh (g4.uA _ _ (by simp [pgA])) (fun X Y hX hY => ?_)
          rw [grow]
          have dX : ∀ D : Nat → Int32, dotW D (20 * Y) X = bt (D (20 * Y + X / 32)) (31 - X % 32) := fun D => rfl
          have old := g5 X Y hX hY
          rw [dX, gA_wr]
          by_cases w : Y = r ∧ X / 32 = col / 32
          · rw [show 20 * Y + X / 32 = r * 20 + col / 32 by omega, wr_s, b_or, one_at _ (by omega) _ (by omega)]
            rw [dX, show 20 * Y + X / 32 = r * 20 + col / 32 by omega] at old
            rw [old]
            by_cases u : X = col
            · rw [decide_eq_true u, decide_eq_true (show (31 - X % 32 = 31 - col % 32) by rw [u]), decide_eq_true (show (Y : Int) = b - i by omega), show (b - (Y : Int)).toNat = i by omega, ← hb]
              cases dotW (gA c v) (20 * Y) X <;> cases inR (b - i + 1) i Y <;> rfl
            · rw [decide_eq_false u, decide_eq_false (show ¬ (31 - X % 32 = 31 - col % 32) by omega)]
              cases dotW (gA c v) (20 * Y) X <;> rfl
          · rw [wr_o _ (by omega), ← dX, old]
            congr 1
            by_cases u : X = col
            · have : ¬ (Y : Int) = b - i := fun e => w ⟨by omega, by rw [u]⟩
              rw [decide_eq_false this, Bool.or_false]
            · rw [decide_eq_false u, Bool.false_and, Bool.false_and]
  unfold f_X0_turnWord
  exact go FU 0 bits c (FU_gt (by omega)) (by omega) (fun k hk => by rw [Nat.zero_add, decide_eq_true hk, Bool.true_and]) Fr.refl (fun X Y hX hY => by
    have : inR (b - ((0 : Nat) : Int) + 1) ((0 : Nat) : Int) Y = false := inR_f.mpr (by omega)
    rw [this, Bool.false_and, Bool.and_false, Bool.or_false])
end B6
