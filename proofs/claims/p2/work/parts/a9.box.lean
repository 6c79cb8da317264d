/-! Boxes of dots: laid one by one, painted row by row. -/
def a163 (a : Nat) : Bool := a == 163
def a26 (a : Nat) : Bool := a == 26
section A9
variable {c c' c0 c1 m m' m0 T T' : Mm} {g L : Nat → Int32} {ox oy : Nat} {S V : Int → Int → Bool}
theorem f_fill {a : Nat} {v : Int32} (hN : LN a < 2 ^ 26) : f_J7_fill_53178 a v T = some ((), vA T a (fun j => if j < LN a then v else gA T a j)) := by
  have go : ∀ n i h, i ≤ LN a → LN a - i < n → (∀ j, h j = if j < i then v else gA T a j) → f_J7_fill_53178_l5 n a v (nI i) (nI (LN a)) (vA T a h) = some ((), vA T a (fun j => if j < LN a then v else gA T a j)) := by
    intro n
    induction n with
    | zero => intro i h _ h2; omega
    | succ n ih =>
      intro i h h1 h2 h3
      show f_J7_fill_53178_b5 (f_J7_fill_53178_l5 n) a v (nI i) (nI (LN a)) (vA T a h) = _
      unfold f_J7_fill_53178_b5
      by_cases q : LN a ≤ i
      · rw [if_pos (nI_le q (by omega))]
        congr 3
        funext j
        rw [h3 j, show i = LN a by omega]
      · rw [if_neg (nI_ge (by omega) (by omega)), ix_in (j := i) (nI_pos (by omega)) (nI_clamp (by omega)) (by omega), lb_eq, uA_vA, show nI i + 1 = nI (i + 1) from nI_add i 1]
        refine ih (i + 1) _ (by omega) (by omega) (fun j => ?_)
        by_cases e : j = i
        · rw [if_pos e, if_pos (by omega)]
        · rw [if_neg e, h3 j]
          by_cases e2 : j < i
          · rw [if_pos e2, if_pos (by omega)]
          · rw [if_neg e2, if_neg (by omega)]
  unfold f_J7_fill_53178
  rw [lb_eq, onat]
  have := go FU 0 (gA T a) (by omega) (FU_gt (by omega)) (fun j => by rw [if_neg (by omega)])
  rw [vA_id] at this
  exact this
theorem m_use (em : gA m 134 = g) : ∃ m', f_X12_useAtHand m = some ((), m') ∧ Fr nF a163 m m' ∧ ∀ k, k < 20 → gA m' 163 k = g (29 + k) := by
  have go : ∀ n i T, i ≤ 20 → 20 - i < n → Fr nF a163 m T → (∀ k, k < i → gA T 163 k = g (29 + k)) → ∃ m', f_X12_useAtHand_l2 n (nI i) T = some ((), m') ∧ Fr nF a163 m m' ∧ ∀ k, k < 20 → gA m' 163 k = g (29 + k) := by
    intro n
    induction n with
    | zero => intro i T _ h; omega
    | succ n ih =>
      intro i T h1 h2 h3 h4
      show ∃ m', f_X12_useAtHand_b2 (f_X12_useAtHand_l2 n) (nI i) T = _ ∧ _
      unfold f_X12_useAtHand_b2
      by_cases q : i = 20
      · subst q
        rw [if_pos (by decide)]
        exact ⟨T, rfl, h3, h4⟩
      · rw [if_neg (show ¬ (20 : Int32) ≤ nI i from nI_ge (b := 20) (by omega) (by omega)), show (29 : Int32) + nI i = nI (29 + i) from nI_add 29 i, ix_in (j := 29 + i) (nI_pos (by omega)) (nI_clamp (by omega)) (by omega), ix_in (j := i) (nI_pos (by omega)) (nI_clamp (by omega)) (by omega), lb_eq, show nI i + 1 = nI (i + 1) from nI_add i 1, h3.a (show a163 134 = false from rfl), em]
        refine ih (i + 1) _ (by omega) (by omega) (h3.uA _ _ rfl) (fun k hk => ?_)
        rw [gA_wr]
        by_cases e : k = i
        · rw [e, wr_s]
        · rw [wr_o _ e]; exact h4 k (by omega)
  unfold f_X12_useAtHand
  exact go FU 0 m (by omega) (FU_gt (by omega)) Fr.refl (fun k hk => by omega)
/-- the class's rows of a box -/
theorem c_rows {t fx tx fy ty : Nat} {so po : Bool} (hty : ty ≤ 800) : ∀ (n y : Nat) (T : Mm), ty - y < n → fy ≤ y → y ≤ ty → IK T t L ox oy so po fx tx → gI T 9 24 = nI ty → Fr nF a25 c0 T → (∀ X Y, X < 800 → Y < 800 → dotW (gA T 25) (25 * Y) X = if (fy ≤ Y ∧ Y < y) ∧ fx ≤ X ∧ X < tx then pnt (dotW (gA c0 26) 0 X) (pd L ((X : Int) - ox) ((Y : Int) - oy)) so po (dotW (gA c0 25) (25 * Y) X) else dotW (gA c0 25) (25 * Y) X) → ∃ c', f_X9_markBox_l51 n (nI y) T = some ((), c') ∧ Fr nF a25 c0 c' ∧ (∀ X Y, X < 800 → Y < 800 → dotW (gA c' 25) (25 * Y) X = if (fy ≤ Y ∧ Y < ty) ∧ fx ≤ X ∧ X < tx then pnt (dotW (gA c0 26) 0 X) (pd L ((X : Int) - ox) ((Y : Int) - oy)) so po (dotW (gA c0 25) (25 * Y) X) else dotW (gA c0 25) (25 * Y) X) := by
  intro n
  induction n with
  | zero => intro y T h; omega
  | succ n ih =>
    intro y T h1 h2 h3 h4 h9 h5 h6
    show ∃ c', f_X9_markBox_b51 (f_X9_markBox_l51 n) (nI y) T = _ ∧ _
    unfold f_X9_markBox_b51
    rw [h9]
    by_cases q : ty ≤ y
    · have : y = ty := by omega
      subst this
      rw [if_pos (nI_le q (by omega))]
      exact ⟨T, rfl, h5, h6⟩
    · obtain ⟨c2, e1, e2, e3⟩ := c_prow h4 (y := y) (by omega)
      have tk : a25 (t + 1) = false := by
        have hk := h4.k
        by_cases e : t = 24
        · rw [e] at hk; exact absurd hk (by decide)
        · simp [a25]; omega
      rw [if_neg (nI_ge (by omega) (by omega)), e1, bd_eq, show nI y + 1 = nI (y + 1) from nI_add y 1]
      refine ih (y + 1) c2 (by omega) (by omega) (by omega) (h4.fr e2 tk) ((e2.i rfl).trans h9) (h5.trans e2) (fun X Y hX hY => ?_)
      rw [e3 X Y hX hY, h5.a (show a25 26 = false from rfl)]
      by_cases z : Y = y
      · subst z
        rw [h6 X Y hX hY, if_neg (show ¬ ((fy ≤ Y ∧ Y < Y) ∧ fx ≤ X ∧ X < tx) by omega)]
        by_cases k : fx ≤ X ∧ X < tx
        · rw [if_pos ⟨rfl, k⟩, if_pos ⟨by omega, k⟩]
        · rw [if_neg (fun v => k v.2), if_neg (fun v => k v.2)]
      · rw [if_neg (fun v => z v.1), h6 X Y hX hY]
        by_cases k : (fy ≤ Y ∧ Y < y) ∧ fx ≤ X ∧ X < tx
        · rw [if_pos k, if_pos ⟨by omega, k.2⟩]
        · rw [if_neg k, if_neg (fun v => k ⟨by omega, v.2⟩)]
/-! lines of dots on the reference's side -/
def inR (a n : Int) (X : Int) : Bool := decide (a ≤ X) && decide (X < a + n)
theorem inR_t {a n X : Int} : inR a n X = true ↔ a ≤ X ∧ X < a + n := by unfold inR; rw [Bool.and_eq_true, decide_eq_true_eq, decide_eq_true_eq]
theorem inR_f {a n X : Int} : inR a n X = false ↔ ¬ (a ≤ X ∧ X < a + n) := by
  rw [← inR_t]; cases inR a n X <;> simp
theorem LV.line {w : Nat} {x0 yy : Int} {V0 : Int → Int → Bool} {R : Nat → Nat → Mm → Option (Unit × Mm)} {K : Mm → Option (Unit × Mm)} (hx1 : -500000 ≤ x0) (hx2 : x0 ≤ 500000) (hw : w ≤ 100000) (hy1 : -1000000 ≤ yy) (hy2 : yy ≤ 1000000) (hR : ∀ n i T, Fr nF a157 m0 T → i < w → R (n + 1) i T = bd (f_X12_lay_ (iz (x0 + i)) (iz yy) (cI (S (x0 + i) yy)) T) (fun _ T' => R n (i + 1) T')) (hE : ∀ n T, Fr nF a157 m0 T → R (n + 1) w T = K T) (hV : ∀ i : Nat, i < w → V0 (x0 + i) yy = false) : ∀ (n i : Nat) (T : Mm), w - i < n → i ≤ w → LV m0 T g L ox oy S (fun a b => V0 a b || (inR x0 i a && decide (b = yy))) → ∃ T', R n i T = K T' ∧ LV m0 T' g L ox oy S (fun a b => V0 a b || (inR x0 w a && decide (b = yy))) := by
  intro n
  induction n with
  | zero => intro i T h; omega
  | succ n ih =>
    intro i T h1 h2 h3
    by_cases q : i = w
    · subst q
      exact ⟨T, hE n T h3.f, h3⟩
    · have hv : (V0 (x0 + i) yy || (inR x0 i (x0 + i) && decide (yy = yy))) = false := by
        rw [hV i (by omega), show inR x0 i (x0 + i) = false from inR_f.mpr (by omega)]; rfl
      obtain ⟨T', e1, e2⟩ := h3.step (x := x0 + i) (y := yy) hv (by omega) (by omega) hy1 hy2
      rw [hR n i T h3.f (by omega), e1, bd_eq]
      refine ih (i + 1) T' (by omega) (by omega) (e2.congr (fun x y hx hy => ?_))
      have : inR x0 ((i + 1 : Nat) : Int) x = (inR x0 i x || decide ((x : Int) = x0 + i)) := by
        rw [Bool.eq_iff_iff, Bool.or_eq_true, inR_t, inR_t, decide_eq_true_eq]; omega
      rw [this]
      cases V0 x y <;> cases inR x0 i x <;> cases decide ((x : Int) = x0 + i) <;> cases decide ((y : Int) = yy) <;> rfl
/-- rows of lines -/
theorem LV.block {w h : Nat} {x0 y0 : Int} {R2 : Nat → Nat → Mm → Option (Unit × Mm)} {K : Mm → Option (Unit × Mm)} (hR : ∀ n r T, r < h → LV m0 T g L ox oy S (fun a b => inR x0 w a && inR y0 r b) → ∃ T', R2 (n + 1) r T = R2 n (r + 1) T' ∧ LV m0 T' g L ox oy S (fun a b => (inR x0 w a && inR y0 r b) || (inR x0 w a && decide (b = y0 + r)))) (hE : ∀ n T, Fr nF a157 m0 T → R2 (n + 1) h T = K T) : ∀ (n r : Nat) (T : Mm), h - r < n → r ≤ h → LV m0 T g L ox oy S (fun a b => inR x0 w a && inR y0 r b) → ∃ T', R2 n r T = K T' ∧ LV m0 T' g L ox oy S (fun a b => inR x0 w a && inR y0 h b) := by
  intro n
  induction n with
  | zero => intro r T h; omega
  | succ n ih =>
    intro r T h1 h2 h3
    by_cases q : r = h
    · subst q
      exact ⟨T, hE n T h3.f, h3⟩
    · obtain ⟨T', e1, e2⟩ := hR n r T (by omega) h3
      rw [e1]
      refine ih (r + 1) T' (by omega) (by omega) (e2.congr (fun x y hx hy => ?_))
      have : inR y0 ((r + 1 : Nat) : Int) y = (inR y0 r y || decide ((y : Int) = y0 + r)) := by
        rw [Bool.eq_iff_iff, Bool.or_eq_true, inR_t, inR_t, decide_eq_true_eq]; omega
      rw [this]
      cases inR x0 w x <;> cases inR y0 r y <;> cases decide ((y : Int) = y0 + r) <;> rfl
theorem inR_0 {a X : Int} : inR a ((0 : Nat) : Int) X = false := inR_f.mpr (by omega)
/-- the reference's rectangle -/
theorem m_rect {x y w h : Nat} (hx : x ≤ 800) (hy : y ≤ 800) (hw : w ≤ 40000) (hh : h ≤ 40000) (q : PQ m g L ox oy) : ∃ m', f_X12_rectangle_l168 FU (nI w) (nI h) (nI x) (nI y) (nI 0) m = some ((), m') ∧ LV m m' g L ox oy (fun _ _ => true) (fun a b => inR x w a && inR y h b) := by
  have hW := lgW_le g
  have hH := lgH_le g
  -- a row, to the page's end
  have row : ∀ (k168 : Int32 → Int32 → Int32 → Int32 → Int32 → Mm → Option (Unit × Mm)) (j : Nat) (T : Mm), j < h → y + j < lgH g → LV m T g L ox oy (fun _ _ => true) (fun a b => inR x w a && inR y j b) → ∃ T', f_X12_rectangle_l189 k168 FU (nI w) (nI h) (nI x) (nI y) (nI j) (nI 0) T = k168 (nI w) (nI h) (nI x) (nI y) (nI (j + 1)) T' ∧ LV m T' g L ox oy (fun _ _ => true) (fun a b => (inR x w a && inR y j b) || (inR x w a && decide (b = (y : Int) + j))) := by
    intro k168 j T hj hyj hT
    obtain ⟨u, hu⟩ : ∃ u : Nat, u = if w ≤ lgW g - x then w else lgW g - x := ⟨_, rfl⟩
    have u1 : u ≤ w := by rw [hu]; split <;> omega
    have u2 : u < w → lgW g ≤ x + u := by rw [hu]; split <;> omega
    have u3 : ∀ i, i < u → x + i < lgW g := by rw [hu]; split <;> (intro i _; omega)
    have := LV.line (m0 := m) (g := g) (L := L) (ox := ox) (oy := oy) (S := fun _ _ => true) (w := u) (x0 := (x : Int)) (yy := (y : Int) + j) (V0 := fun a b => inR x w a && inR y j b) (R := fun n i T => f_X12_rectangle_l189 k168 n (nI w) (nI h) (nI x) (nI y) (nI j) (nI i) T) (K := fun T => k168 (nI w) (nI h) (nI x) (nI y) (nI (j + 1)) T) (by omega) (by omega) (by omega) (by omega) (by omega) ?_ ?_ ?_ FU 0 T (FU_gt (by omega)) (by omega) (hT.congr (fun a b _ _ => by rw [inR_0]; simp))
    · obtain ⟨T', e1, e2⟩ := this
      refine ⟨T', e1, e2.congr (fun a b ha hb => ?_)⟩
      congr 2
      rw [Bool.eq_iff_iff, inR_t, inR_t]
      constructor
      · intro z
        by_cases p : u < w
        · have := u2 p; omega
        · omega
      · intro z; omega
    · intro n i T hf hi
      have hpq := q.fr hf
      show f_X12_rectangle_b189 k168 (f_X12_rectangle_l189 k168 n) (nI w) (nI h) (nI x) (nI y) (nI j) (nI i) T = _
      unfold f_X12_rectangle_b189
      have := u3 i hi
      rw [if_neg (nI_ge (by omega) (by omega)), m_wide, bd_eq, hpq.e, nI_add, if_neg (nI_ge (by omega) (by omega)), nI_add, nI_iz (x + i), nI_iz (y + j), show ((x + i : Nat) : Int) = (x : Int) + i by omega, show ((y + j : Nat) : Int) = (y : Int) + j by omega, show nI i + 1 = nI (i + 1) from nI_add i 1]
      rfl
    · intro n T hf
      have hpq := q.fr hf
      show f_X12_rectangle_b189 k168 (f_X12_rectangle_l189 k168 n) (nI w) (nI h) (nI x) (nI y) (nI j) (nI u) T = _
      unfold f_X12_rectangle_b189
      by_cases p : w ≤ u
      · rw [if_pos (nI_le p (by omega)), show nI j + 1 = nI (j + 1) from nI_add j 1]
      · have := u2 (by omega)
        rw [if_neg (nI_ge (by omega) (by omega)), m_wide, bd_eq, hpq.e, nI_add, if_pos (nI_le this (by omega)), show nI j + 1 = nI (j + 1) from nI_add j 1]
    · intro i hi
      rw [Bool.and_eq_false_iff]
      exact Or.inr (inR_f.mpr (by omega))
  obtain ⟨v, hv⟩ : ∃ v : Nat, v = if h ≤ lgH g - y then h else lgH g - y := ⟨_, rfl⟩
  have v1 : v ≤ h := by rw [hv]; split <;> omega
  have v2 : v < h → lgH g ≤ y + v := by rw [hv]; split <;> omega
  have v3 : ∀ i, i < v → y + i < lgH g := by rw [hv]; split <;> (intro i _; omega)
  have := LV.block (m0 := m) (g := g) (L := L) (ox := ox) (oy := oy) (S := fun _ _ => true) (w := w) (h := v) (x0 := (x : Int)) (y0 := (y : Int)) (R2 := fun n r T => f_X12_rectangle_l168 n (nI w) (nI h) (nI x) (nI y) (nI r) T) (K := fun T => some ((), T)) ?_ ?_ FU 0 m (FU_gt (by omega)) (by omega) ((LV.refl q).congr (fun a b _ _ => by rw [inR_0, Bool.and_false]))
  · obtain ⟨T', e1, e2⟩ := this
    refine ⟨T', e1, e2.congr (fun a b ha hb => ?_)⟩
    congr 1
    rw [Bool.eq_iff_iff, inR_t, inR_t]
    constructor
    · intro z
      by_cases p : v < h
      · have := v2 p; omega
      · omega
    · intro z; omega
  · intro n r T hr hT
    have hpq := hT.q
    have h3 := v3 r hr
    obtain ⟨T', e1, e2⟩ := row (f_X12_rectangle_l168 n) r T (by omega) h3 hT
    refine ⟨T', ?_, e2⟩
    show f_X12_rectangle_b168 (f_X12_rectangle_l168 n) (nI w) (nI h) (nI x) (nI y) (nI r) T = _
    unfold f_X12_rectangle_b168
    rw [if_neg (nI_ge (by omega) (by omega)), m_high, bd_eq, hpq.e, nI_add, if_neg (nI_ge (by omega) (by omega))]
    exact e1
  · intro n T hf
    have hpq := q.fr hf
    show f_X12_rectangle_b168 (f_X12_rectangle_l168 n) (nI w) (nI h) (nI x) (nI y) (nI v) T = _
    unfold f_X12_rectangle_b168
    by_cases p : h ≤ v
    · rw [if_pos (nI_le p (by omega))]
    · have := v2 (by omega)
      rw [if_neg (nI_ge (by omega) (by omega)), m_high, bd_eq, hpq.e, nI_add, if_pos (nI_le this (by omega))]
/-! a word in the class's line -/
theorem c_word {x : Int} {b : Int32} (x1 : -10000 ≤ x) (x2 : x ≤ 10000) : ∃ c', f_X0_layWord (iz x) b c = some ((), c') ∧ Fr nF a26 c c' ∧ ∀ X : Nat, X < 800 → x ≤ X → (X : Int) < x + 32 → dotW (gA c' 26) 0 X = bt b (31 - ((X : Int) - x).toNat) := by
  obtain ⟨s, hs, hs2⟩ : ∃ s : Nat, x % 32 = (s : Int) ∧ s < 32 := ⟨(x % 32).toNat, by omega, by omega⟩
  have dw : ∀ (D : Nat → Int32) (X : Nat), dotW D 0 X = bt (D (X / 32)) (31 - X % 32) := fun D X => by unfold dotW; rw [Nat.zero_add]
  -- the second word
  have w2 : ∀ (T : Mm), Fr nF a26 c T → (∀ X : Nat, X < 800 → x ≤ X → (X : Int) < x + 32 → ((X / 32 : Nat) : Int) = x / 32 → dotW (gA T 26) 0 X = bt b (31 - ((X : Int) - x).toNat)) → ∃ c', f_X0_layWord_38 b (iz (x / 32)) (nI s) T = some ((), c') ∧ Fr nF a26 c c' ∧ ∀ X : Nat, X < 800 → x ≤ X → (X : Int) < x + 32 → dotW (gA c' 26) 0 X = bt b (31 - ((X : Int) - x).toNat) := by
    intro T f h
    unfold f_X0_layWord_38
    rw [show (1 : Int32) = iz 1 from rfl, iz_add]
    have no : (x / 32 + 1 < 0 ∨ 25 ≤ x / 32 + 1) → ∃ c', some ((), T) = some ((), c') ∧ Fr nF a26 c c' ∧ ∀ X : Nat, X < 800 → x ≤ X → (X : Int) < x + 32 → dotW (gA c' 26) 0 X = bt b (31 - ((X : Int) - x).toNat) := fun z => ⟨T, rfl, f, fun X h1 h2 h3 => h X h1 h2 h3 (by omega)⟩
    by_cases q : x / 32 + 1 < 0
    · rw [if_pos ((iz_nn (by omega) (by omega)).mpr q)]; exact no (Or.inl q)
    rw [if_neg (fun y => q ((iz_nn (by omega) (by omega)).mp y))]
    by_cases q2 : 25 ≤ x / 32 + 1
    · rw [if_pos (show (25 : Int32) ≤ iz (x / 32 + 1) from (iz_le (a := 25) (by omega) (by omega) (by omega) (by omega)).mpr q2)]; exact no (Or.inr q2)
    rw [if_neg (show ¬ (25 : Int32) ≤ iz (x / 32 + 1) from fun y => q2 ((iz_le (a := 25) (by omega) (by omega) (by omega) (by omega)).mp y))]
    obtain ⟨p, hp⟩ : ∃ p : Nat, x / 32 + 1 = p := ⟨(x / 32 + 1).toNat, by omega⟩
    rw [hp, ← nI_iz, ix_in (j := p) (nI_pos (by omega)) (nI_clamp (by omega)) (by omega), ix_in (j := p) (nI_pos (by omega)) (nI_clamp (by omega)) (by omega)]
    have fin : ∀ v : Int32, (∀ X : Nat, X / 32 = p → (X : Int) < x + 32 → bt v (31 - X % 32) = bt b (31 - ((X : Int) - x).toNat)) → ∃ c', (lb (uA T 26 p v) fun T6 => some ((), T6)) = some ((), c') ∧ Fr nF a26 c c' ∧ ∀ X : Nat, X < 800 → x ≤ X → (X : Int) < x + 32 → dotW (gA c' 26) 0 X = bt b (31 - ((X : Int) - x).toNat) := fun v hv => by
      refine ⟨_, rfl, f.uA _ _ rfl, fun X h1 h2 h3 => ?_⟩
      rw [dw, gA_wr]
      by_cases e : X / 32 = p
      · rw [e, wr_s]; exact hv X e h3
      · rw [wr_o _ e, ← dw]
        exact h X h1 h2 h3 (by omega)
    by_cases z : s = 0
    · subst z
      rw [if_pos (by rfl)]
      exact fin 0 (fun X h1 h2 => by omega)
    · rw [if_neg (nI_ne0 (by omega) (by omega)), show (32 : Int32) - nI s = nI (32 - s) from pk_sub (a := 32) (by omega)]
      refine fin _ (fun X h1 h2 => ?_)
      rw [b_shl (32 - s) (by omega) _ (by omega), decide_eq_true (by omega), Bool.true_and]
      congr 1
      omega
  unfold f_X0_layWord
  rw [show (32 : Int32) = nI 32 from rfl, f_fdiv (by omega) (by omega) (by omega) (by omega), bd_eq, f_fmod (by omega) (by omega) (by omega) (by omega), bd_eq, show ((32 : Nat) : Int) = 32 from rfl, hs, ← nI_iz s]
  by_cases q : x / 32 < 0
  · rw [if_pos ((iz_nn (by omega) (by omega)).mpr q)]
    exact w2 c Fr.refl (fun X _ _ _ h => by omega)
  rw [if_neg (fun y => q ((iz_nn (by omega) (by omega)).mp y))]
  by_cases q2 : 25 ≤ x / 32
  · rw [if_pos (show (25 : Int32) ≤ iz (x / 32) from (iz_le (a := 25) (by omega) (by omega) (by omega) (by omega)).mpr q2)]
    exact w2 c Fr.refl (fun X _ _ _ h => by omega)
  rw [if_neg (show ¬ (25 : Int32) ≤ iz (x / 32) from fun y => q2 ((iz_le (a := 25) (by omega) (by omega) (by omega) (by omega)).mp y))]
  obtain ⟨p, hp⟩ : ∃ p : Nat, x / 32 = p := ⟨(x / 32).toNat, by omega⟩
  have w2' := w2
  rw [hp, ← nI_iz] at w2' ⊢
  rw [ix_in (j := p) (nI_pos (by omega)) (nI_clamp (by omega)) (by omega), lb_eq]
  refine w2' _ (Fr.refl.uA _ _ rfl) (fun X h1 h2 h3 h4 => ?_)
  rw [dw, gA_wr, show X / 32 = p by omega, wr_s, b_ushr s (by omega)]
  congr 1
  omega
end A9
