/-! White pages, turned dots, lists of a directory. -/
def mWhF (f i : Nat) : Bool := i == 133 && f == 1235
theorem m_white (m : Mm) : ∃ m', f_X12_white m = some ((), m') ∧ (∀ j, j < 64000 → gA m' 157 j = 0) ∧ gI m' 1235 133 = 0 ∧ Fr mWhF (fun b => b == 157) m m' := by
  have go : ∀ n i T, i ≤ 64000 → 64000 - i < n → Fr mWhF (fun b => b == 157) m T → (∀ j, j < i → gA T 157 j = 0) → ∃ m', f_X12_white_l2 n (nI i) T = some ((), m') ∧ (∀ j, j < 64000 → gA m' 157 j = 0) ∧ gI m' 1235 133 = 0 ∧ Fr mWhF (fun b => b == 157) m m' := by
    intro n
    induction n with
    | zero => intro i T _ h; omega
    | succ n ih =>
      intro i T hi hn f hb
      have ev : f_X12_white_l2 (n + 1) (nI i) T = f_X12_white_b2 (f_X12_white_l2 n) (nI i) T := rfl
      rw [ev]
      unfold f_X12_white_b2
      rcases Nat.lt_or_ge i 64000 with hlt | hge
      · rw [if_neg (show ¬ (64000 : Int32) ≤ nI i from nI_ge (b := 64000) hlt (by omega)), ix_in (j := i) (nI_pos (by omega)) (nI_clamp (by omega)) (by omega), lb_eq, nI_1]
        refine ih (i + 1) _ (by omega) (by omega) (f.uA i _ (by rfl)) (fun j hj => ?_)
        rw [gA_uA]
        by_cases z : j = i
        · rw [if_pos ⟨rfl, z⟩]; rfl
        · rw [if_neg (fun y => z y.2)]; exact hb j (by omega)
      · have : i = 64000 := by omega
        subst this
        rw [if_pos (by decide), lb_eq]
        exact ⟨_, rfl, hb, by rw [gI_uI, if_pos ⟨rfl, rfl⟩], f.uI _ (by rfl)⟩
  exact go FU 0 m (by omega) (FU_gt (by omega)) Fr.refl (fun j hj => by omega)
theorem c_fill {a : Nat} (hN : LN a = 16000) (c : Mm) : ∃ c', f_J7_fill_53178 a 0 c = some ((), c') ∧ (∀ j, j < 16000 → gA c' a j = 0) ∧ Fr (fun _ _ => false) (fun b => b == a) c c' := by
  have go : ∀ n i T, i ≤ 16000 → 16000 - i < n → Fr (fun _ _ => false) (fun b => b == a) c T → (∀ j, j < i → gA T a j = 0) → ∃ c', f_J7_fill_53178_l5 n a 0 (nI i) (nI 16000) T = some ((), c') ∧ (∀ j, j < 16000 → gA c' a j = 0) ∧ Fr (fun _ _ => false) (fun b => b == a) c c' := by
    intro n
    induction n with
    | zero => intro i T _ h; omega
    | succ n ih =>
      intro i T hi hn f hb
      have ev : f_J7_fill_53178_l5 (n + 1) a 0 (nI i) (nI 16000) T = f_J7_fill_53178_b5 (f_J7_fill_53178_l5 n) a 0 (nI i) (nI 16000) T := rfl
      rw [ev]
      unfold f_J7_fill_53178_b5
      rcases Nat.lt_or_ge i 16000 with hlt | hge
      · rw [if_neg (nI_ge hlt (by omega)), ix_in (j := i) (nI_pos (by omega)) (nI_clamp (by omega)) (by omega), lb_eq, nI_1]
        refine ih (i + 1) _ (by omega) (by omega) (f.uA i _ (by simp)) (fun j hj => ?_)
        rw [gA_uA]
        by_cases z : j = i
        · rw [if_pos ⟨rfl, z⟩]
        · rw [if_neg (fun y => z y.2)]; exact hb j (by omega)
      · have : i = 16000 := by omega
        subst this
        rw [if_pos (by decide)]
        exact ⟨_, rfl, hb, f⟩
  unfold f_J7_fill_53178
  rw [hN, onat, lb_eq]
  exact go FU 0 c (by omega) (FU_gt (by omega)) Fr.refl (fun j hj => by omega)
/-- the mask of a row's first t dots in word w -/
theorem f_mask0 {w t : Nat} {T : Mm} (hw : w < 20) (ht : t ≤ 640) : ∃ v, f_X11_maskOf (nI w) 0 (nI t) T = some (v, T) ∧ ∀ i, i < 32 → bt v (31 - i) = decide (w * 32 + i < t) := by
  rcases Nat.lt_or_ge (w * 32) t with h | h
  · refine ⟨mskW w 0 t, f_maskOf (fr := 0) (by omega) (by omega) h (by omega), fun i hi => ?_⟩
    rw [mskW_bt (by omega) h hi, decide_eq_true (Nat.zero_le _), Bool.true_and]
  · have e1 : nI w <<< ((5 : Int32) &&& 31) = nI (w * 32) := pk_shlN (n := w) _ 5 (by decide) (by omega)
    refine ⟨0, ?_, fun i hi => ?_⟩
    · unfold f_X11_maskOf
      have m0 : (if (0 : Int32) - nI (w * 32) < 0 then 0 else (0 : Int32) - nI (w * 32)) = 0 := by
        have := max_sub (a := 0) (b := w * 32) (by omega) (by omega)
        rw [show (0 : Nat) - w * 32 = 0 by omega] at this
        exact this
      rw [e1, f_max, bd_eq, m0, f_min, bd_eq, if_neg]
      have hle : ¬ (0 : Int32) < nI t - nI (w * 32) := by
        rcases Nat.eq_or_lt_of_le h with e | e
        · rw [e, Int32.sub_self]; decide
        · intro y
          have := pk_sneg (a := t) (b := w * 32) (by omega) e
          exact absurd (Int32.lt_trans y this) (by decide)
      split
      · exact fun y => by
          rename_i g
          exact hle (Int32.lt_trans (by decide : (0 : Int32) < 32) g)
      · exact hle
    · rw [decide_eq_false (by omega)]
      have : ∀ k, k < 32 → bt (0 : Int32) k = false := by decide
      exact this _ (by omega)
/-- black and white change places in the first h rows -/
theorem c_invert {a w h : Nat} {c : Mm} (ha : ¬ (a = 309 ∨ a = 310)) (hN : LN a = 16000) (hw : w ≤ 640) (hh : h ≤ 800) (e1 : gJ c 309 129 = lN w) (e2 : gJ c 310 129 = lN h) : ∃ c', f_X3_invert a c = some ((), c') ∧ (∀ v, v < 800 → ∀ x, x < 640 → dotW (gA c' a) (20 * v) x = xor (dotW (gA c a) (20 * v) x) (decide (v < h) && decide (x < w))) ∧ Fr (fun _ _ => false) (fun b => b == a) c c' := by
  -- words done: j
  have step : ∀ (D D' : Nat → Int32) (j : Nat) (v : Int32), j < 16000 → (∀ i, i < 32 → bt v (31 - i) = decide (j % 20 * 32 + i < w)) → (∀ i, D' i = if i = j then D j ^^^ v else D i) → ∀ y x, y < 800 → x < 640 → dotW D' (20 * y) x = xor (dotW D (20 * y) x) (decide (20 * y + x / 32 = j) && decide (x < w)) := by
    intro D D' j v hj hv hD y x hy hx
    unfold dotW
    rw [hD]
    by_cases z : 20 * y + x / 32 = j
    · rw [if_pos z, decide_eq_true z, Bool.true_and]
      have : bt (D j ^^^ v) (31 - x % 32) = xor (bt (D j) (31 - x % 32)) (bt v (31 - x % 32)) := by unfold bt; rw [Int32.toBitVec_xor, BitVec.getLsbD_xor]
      rw [this, hv _ (by omega), z, show j % 20 * 32 + x % 32 = x by omega]
    · rw [if_neg z, decide_eq_false z, Bool.false_and, Bool.xor_false]
  have inner : ∀ n i y T k2, y < h → i ≤ 20 → 20 - i < n → Fr (fun _ _ => false) (fun b => b == a) c T → (∀ u, u < 800 → ∀ x, x < 640 → dotW (gA T a) (20 * u) x = xor (dotW (gA c a) (20 * u) x) (decide (20 * u + x / 32 < 20 * y + i) && decide (x < w))) → ∃ c', f_X3_invert_l21 k2 n a (nI y) (nI i) T = k2 a (nI (y + 1)) c' ∧ (∀ u, u < 800 → ∀ x, x < 640 → dotW (gA c' a) (20 * u) x = xor (dotW (gA c a) (20 * u) x) (decide (20 * u + x / 32 < 20 * (y + 1)) && decide (x < w))) ∧ Fr (fun _ _ => false) (fun b => b == a) c c' := by
    intro n
    induction n with
    | zero => intro i y T k2 _ _ h; omega
    | succ n ih =>
      intro i y T k2 hy hi hn f hb
      have ev : f_X3_invert_l21 k2 (n + 1) a (nI y) (nI i) T = f_X3_invert_b21 k2 (f_X3_invert_l21 k2 n) a (nI y) (nI i) T := rfl
      rw [ev]
      unfold f_X3_invert_b21
      rcases Nat.lt_or_ge i 20 with hlt | hge
      · obtain ⟨v, ev, hv⟩ := f_mask0 (T := T) hlt hw
        rw [if_neg (show ¬ (20 : Int32) ≤ nI i from nI_ge (b := 20) hlt (by omega)), show nI y * 20 = nI (y * 20) from pk_mul y 20, nI_add, lb_eq, hN, onat, if_neg (nI_ge (by omega) (by omega)), ix_in (j := y * 20 + i) (nI_pos (by omega)) (nI_clamp (by omega)) (by omega), f.j rfl, e1, lN_i, ev, bd_eq, ix_in (j := y * 20 + i) (nI_pos (by omega)) (nI_clamp (by omega)) (by omega), lb_eq, nI_1]
        refine ih (i + 1) y _ k2 hy (by omega) (by omega) (f.uA _ _ (by simp)) (fun u hu x hx => ?_)
        rw [step (gA T a) _ (y * 20 + i) v (by omega) (fun i' hi' => by rw [hv i' hi', show (y * 20 + i) % 20 = i by omega]) (fun j => by rw [gA_uA]; simp) u x hu hx, hb u hu x hx, Bool.xor_assoc]
        congr 1
        rw [show y * 20 = 20 * y from Nat.mul_comm _ _, ← Nat.add_assoc]
        by_cases q1 : 20 * u + x / 32 < 20 * y + i
        · rw [decide_eq_true q1, decide_eq_false (show ¬ 20 * u + x / 32 = 20 * y + i by omega), decide_eq_true (show 20 * u + x / 32 < 20 * y + i + 1 by omega)]; simp
        · rw [decide_eq_false q1]
          by_cases q2 : 20 * u + x / 32 = 20 * y + i
          · rw [decide_eq_true q2, decide_eq_true (show 20 * u + x / 32 < 20 * y + i + 1 by omega)]; simp
          · rw [decide_eq_false q2, decide_eq_false (show ¬ 20 * u + x / 32 < 20 * y + i + 1 by omega)]; simp
      · have : i = 20 := by omega
        subst this
        rw [if_pos (by decide), nI_1]
        exact ⟨T, rfl, fun u hu x hx => by rw [hb u hu x hx, show 20 * y + 20 = 20 * (y + 1) by omega], f⟩
  have outer : ∀ n y T, y ≤ h → h - y < n → Fr (fun _ _ => false) (fun b => b == a) c T → (∀ u, u < 800 → ∀ x, x < 640 → dotW (gA T a) (20 * u) x = xor (dotW (gA c a) (20 * u) x) (decide (20 * u + x / 32 < 20 * y) && decide (x < w))) → ∃ c', f_X3_invert_l2 n a (nI y) T = some ((), c') ∧ (∀ u, u < 800 → ∀ x, x < 640 → dotW (gA c' a) (20 * u) x = xor (dotW (gA c a) (20 * u) x) (decide (20 * u + x / 32 < 20 * h) && decide (x < w))) ∧ Fr (fun _ _ => false) (fun b => b == a) c c' := by
    intro n
    induction n with
    | zero => intro y T _ h; omega
    | succ n ih =>
      intro y T hy hn f hb
      have ev : f_X3_invert_l2 (n + 1) a (nI y) T = f_X3_invert_b2 (f_X3_invert_l2 n) a (nI y) T := rfl
      rw [ev]
      unfold f_X3_invert_b2
      rw [f.j rfl, e2, nI_l (by omega)]
      rcases Nat.lt_or_ge y h with hlt | hge
      · rw [if_neg (by rw [c_ge, pk_lLE (by omega) (by omega)]; omega), if_neg (show ¬ (800 : Int32) ≤ nI y from nI_ge (b := 800) (by omega) (by omega))]
        obtain ⟨c', r1, r2, r3⟩ := inner FU 0 y T (f_X3_invert_l2 n) hlt (by omega) (FU_gt (by omega)) f hb
        rw [show (0 : Int32) = nI 0 from rfl, r1]
        exact ih (y + 1) c' (by omega) (by omega) r3 r2
      · have : y = h := by omega
        subst this
        rw [if_pos (by rw [c_ge, pk_lLE (by omega) (by omega)]; omega)]
        exact ⟨T, rfl, hb, f⟩
  obtain ⟨c', r1, r2, r3⟩ := outer FU 0 c (by omega) (FU_gt (by omega)) Fr.refl (fun u hu x hx => by rw [decide_eq_false (by omega), Bool.false_and, Bool.xor_false])
  refine ⟨c', r1, fun v hv x hx => ?_, r3⟩
  rw [r2 v hv x hx]
  congr 2
  exact decide_eq_decide.mpr (by omega)
