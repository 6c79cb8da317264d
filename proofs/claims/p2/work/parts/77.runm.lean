/-! The reference's run lengths. -/
theorem uJ_same (T : Mm) (f i : Nat) (v w : Int64) : uJ (uJ T f i v) f i w = uJ T f i w := by
  refine Prod.ext rfl (Prod.ext (funext fun g => funext fun j => ?_) rfl)
  show (if g = f ∧ j = i then w else if g = f ∧ j = i then v else gJ T g j) = if g = f ∧ j = i then w else gJ T g j
  split <;> rfl
theorem uJ_id (T : Mm) (f i : Nat) : uJ T f i (gJ T f i) = T := by
  refine Prod.ext rfl (Prod.ext (funext fun g => funext fun j => ?_) rfl)
  show (if g = f ∧ j = i then gJ T f i else gJ T g j) = gJ T g j
  split
  · rename_i e; rw [e.1, e.2]
  · rfl
/-- the reference looks its codes through for one of n bits -/
theorem m_look {m : Mm} (hT : Tab m) (cc n v : Nat) (hc : cc < 2) (hn : n ≤ 13) (hv : v < 2 ^ 13) (k4 : Int32 → Int32 → Int32 → Mm → Option (Int32 × Mm)) : ∀ f i, i ≤ 74 → 74 - i < f → (∀ k, k < i → ¬ (rb (74 * cc + k) = n ∧ rc (74 * cc + k) = v)) → ((∃ k, k < 74 ∧ rb (74 * cc + k) = n ∧ rc (74 * cc + k) = v ∧ f_X12_oneRun_l34 k4 f (nI cc) (nI v) (nI n) (nI i) m = some (nI k, m)) ∨ (∀ k, k < 74 → ¬ (rb (74 * cc + k) = n ∧ rc (74 * cc + k) = v)) ∧ f_X12_oneRun_l34 k4 f (nI cc) (nI v) (nI n) (nI i) m = k4 (nI cc) (nI v) (nI (n + 1)) m) := by
  intro f
  induction f with
  | zero => intro i _ h; omega
  | succ f ih =>
    intro i hi hf hb
    have ev : f_X12_oneRun_l34 k4 (f + 1) (nI cc) (nI v) (nI n) (nI i) m = f_X12_oneRun_b34 k4 (f_X12_oneRun_l34 k4 f) (nI cc) (nI v) (nI n) (nI i) m := rfl
    rw [ev]
    unfold f_X12_oneRun_b34
    rcases Nat.lt_or_ge i 74 with hlt | hge
    · have e1 : (74 : Int32) * nI cc + nI i = nI (74 * cc + i) := by rw [show (74 : Int32) * nI cc = nI (74 * cc) from pk_mul 74 cc, nI_add]
      have er := run_tab (74 * cc + i) (by omega)
      have hrc := er.2.2.2
      have hrb := er.2.2.1
      have hp : 2 ^ rb (74 * cc + i) ≤ 2 ^ 13 := Nat.pow_le_pow_right (by decide) hrb
      rw [if_neg (show ¬ (74 : Int32) ≤ nI i from nI_ge (b := 74) hlt (by omega)), e1, ix_in (j := 74 * cc + i) (nI_pos (by omega)) (nI_clamp (by omega)) (by omega), ix_in (j := 74 * cc + i) (nI_pos (by omega)) (nI_clamp (by omega)) (by omega), (hT _ (by omega : 74 * cc + i < 148)).1, (hT _ (by omega : 74 * cc + i < 148)).2, nI_1]
      by_cases q1 : rb (74 * cc + i) = n
      · rw [if_pos (by rw [q1])]
        by_cases q2 : rc (74 * cc + i) = v
        · rw [if_pos (by rw [q2])]
          exact Or.inl ⟨i, hlt, q1, q2, rfl⟩
        · rw [if_neg (fun y => q2 ((nI_eq (by omega) (by omega)).mp y))]
          refine ih (i + 1) (by omega) (by omega) (fun k hk => ?_)
          rcases Nat.eq_or_lt_of_le (Nat.le_of_lt_succ hk) with rfl | h3
          · exact fun z => q2 z.2
          · exact hb k h3
      · rw [if_neg (fun y => q1 ((nI_eq (by omega) (by omega)).mp y))]
        refine ih (i + 1) (by omega) (by omega) (fun k hk => ?_)
        rcases Nat.eq_or_lt_of_le (Nat.le_of_lt_succ hk) with rfl | h3
        · exact fun z => q1 z.1
        · exact hb k h3
    · have : i = 74 := by omega
      subst this
      rw [if_pos (by decide), nI_1]
      exact Or.inr ⟨fun k hk => hb k hk, rfl⟩
theorem m_one {m : Mm} {nb q : Nat} {bs : Nat → Bool} (h : StM m nb bs) (hT : Tab m) (hq : gJ m 1278 133 = lN q) (hq2 : q < 2 ^ 27) (col : Bool) : ∃ x, f_X12_oneRun (cI col) m = some (rrv (oneR bs nb col q), uJ m 1278 133 x) ∧ (∀ k q1, oneR bs nb col q = some (k, q1) → x = lN q1) := by
  have hc := bN_lt col
  have go : ∀ f i, i ≤ 13 → 13 - i + 1 < f → q + i ≤ nb → (∀ k, hit bs q col k → i < rb (74 * bN col + k)) → ∃ x, f_X12_oneRun_l4 f (nI (bN col)) (nI (pkb bs q i)) (nI (i + 1)) (uJ m 1278 133 (lN (q + i))) = some (rrv (oneR bs nb col q), uJ m 1278 133 x) ∧ (∀ k q1, oneR bs nb col q = some (k, q1) → x = lN q1) := by
    intro f
    induction f with
    | zero => intro i _ h; omega
    | succ f ih =>
      intro i hi hf hqi hno
      have ev : f_X12_oneRun_l4 (f + 1) (nI (bN col)) (nI (pkb bs q i)) (nI (i + 1)) (uJ m 1278 133 (lN (q + i))) = f_X12_oneRun_b4 (f_X12_oneRun_l4 f) (nI (bN col)) (nI (pkb bs q i)) (nI (i + 1)) (uJ m 1278 133 (lN (q + i))) := rfl
      rw [ev]
      unfold f_X12_oneRun_b4
      rcases Nat.lt_or_ge i 13 with hlt | hge
      · rw [if_neg (show ¬ (13 : Int32) < nI (i + 1) from nI_nlt (a := 13) (b := i + 1) (by omega) (by omega)), m_bit (q := q + i) (nb := nb) (bs := bs) (by exact h) (by rw [gJ_uJ, if_pos ⟨rfl, rfl⟩]) (by omega), uJ_same]
        by_cases z : q + i < nb
        · have e0 : ¬ cI (bs (q + i)) = 2 := by cases bs (q + i) <;> decide
          have hp := pkb_lt bs q i
          have hp2 : 2 ^ i ≤ 2 ^ 12 := Nat.pow_le_pow_right (by decide) (by omega)
          have e1 : nI (pkb bs q i) * 2 + cI (bs (q + i)) = nI (pkb bs q (i + 1)) := by
            rw [show nI (pkb bs q i) * 2 = nI (pkb bs q i * 2) from pk_mul _ 2, cI_bN, nI_add]; rfl
          have hb2 := pkb_lt bs q (i + 1)
          have hp3 : 2 ^ (i + 1) ≤ 2 ^ 13 := Nat.pow_le_pow_right (by decide) (by omega)
          rw [if_pos z, bd_eq, if_neg e0, e1, lb_eq, show (0 : Int32) = nI 0 from rfl]
          rcases m_look (m := uJ m 1278 133 (lN (q + i + 1))) hT (bN col) (i + 1) (pkb bs q (i + 1)) hc (by omega) (by omega) (f_X12_oneRun_l4 f) FU 0 (by omega) (FU_gt (by omega)) (fun k hk => by omega) with ⟨k, hk, r1, r2, e⟩ | ⟨hn, e⟩
          · have hh : hit bs q col k := ⟨hk, by rw [r1, r2]⟩
            rw [e, oneR_some hh (by omega)]
            refine ⟨lN (q + i + 1), rfl, fun k' q1 e' => ?_⟩
            have := ((Prod.mk.injEq _ _ _ _).mp (Option.some.inj e')).2
            rw [← this, r1]; rfl
          · rw [e]
            refine ih (i + 1) (by omega) (by omega) (by omega) (fun k hk => ?_)
            have := hno k hk
            rcases Nat.eq_or_lt_of_le this with e2 | h3
            · exact absurd ⟨e2.symm, by rw [← hk.2, ← e2]⟩ (hn k hk.1)
            · exact h3
        · rw [if_neg z, bd_eq, if_pos rfl, oneR_none (fun k hk => by have := hno k hk; omega)]
          exact ⟨_, rfl, fun k q1 e => by cases e⟩
      · have : i = 13 := by omega
        subst this
        rw [if_pos (by decide), oneR_none (fun k hk => by have := hno k hk; have := (run_tab (74 * bN col + k) (by have := hk.1; omega)).2.2.1; omega)]
        exact ⟨_, rfl, fun k q1 e => by cases e⟩
  unfold f_X12_oneRun
  by_cases z : q ≤ nb
  · obtain ⟨x, e, h2⟩ := go FU 0 (by omega) (FU_gt (by omega)) (by omega) (fun k hk => run_1 _ (by have := hk.1; omega))
    rw [show q + 0 = q from rfl, ← hq, uJ_id] at e
    rw [cI_bN]
    exact ⟨x, e, h2⟩
  · show ∃ x, f_X12_oneRun_b4 (f_X12_oneRun_l4 3999999999) _ _ _ _ = _ ∧ _
    unfold f_X12_oneRun_b4
    rw [if_neg (by decide), m_bit h hq (by omega), if_neg (by omega), bd_eq, if_pos rfl, oneR_none (fun k hk => by omega)]
    exact ⟨gJ m 1278 133, by rw [uJ_id]; rfl, fun k q1 e => by cases e⟩
theorem m_readRun {m : Mm} {nb q : Nat} {bs : Nat → Bool} (h : StM m nb bs) (hT : Tab m) (hq : gJ m 1278 133 = lN q) (hq2 : q < 2 ^ 26) (col : Bool) : ∃ x, f_X12_readRun (cI col) m = some (rrv (runR bs nb col q), uJ m 1278 133 x) ∧ (∀ n q2, runR bs nb col q = some (n, q2) → x = lN q2) := by
  obtain ⟨x1, e1, f1⟩ := m_one h hT hq (by omega) col
  unfold f_X12_readRun
  show ∃ x, f_X12_readRun_b4 (f_X12_readRun_l4 3999999999) _ _ _ _ = _ ∧ _
  unfold f_X12_readRun_b4
  rw [e1, bd_eq]
  unfold runR
  cases ho : oneR bs nb col q with
  | none => exact ⟨x1, by rw [if_pos rfl]; rfl, fun n q2 e => by cases e⟩
  | some kq =>
    obtain ⟨k, qq⟩ := kq
    have hl := oneR_lt ho
    have := f1 k qq ho
    subst this
    show ∃ x, (if nI k = -1 then _ else _) = _ ∧ _
    have hm1 : ∀ k, k < 74 → ¬ nI k = -1 := fun k hk e => by
      have h1 : ¬ nI k < 0 := nI_pos (by omega)
      rw [e] at h1; exact h1 (by decide)
    rw [if_neg (hm1 k hl.1)]
    have h30 : ∀ (a : Nat) (b : Nat) (k4 : Int32 → Int32 → Int32 → Mm → Option (Int32 × Mm)) (T : Mm), a < 74 → f_X12_readRun_30 k4 (cI col) (nI b) (nI a) T = if 64 ≤ a then k4 (cI col) (nI ((a - 63) * 64)) 1 T else some (nI (b + a), T) := by
      intro a b k4 T ha
      unfold f_X12_readRun_30
      by_cases g : 64 ≤ a
      · rw [if_pos (show (64 : Int32) ≤ nI a from nI_le g (by omega)), if_pos g, show nI a - 63 = nI (a - 63) from pk_sub (b := 63) (by omega), show (64 : Int32) * nI (a - 63) = nI (64 * (a - 63)) from pk_mul 64 _, lb_eq, Nat.mul_comm]
      · rw [if_neg (show ¬ (64 : Int32) ≤ nI a from nI_ge (b := 64) (by omega) (by omega)), if_neg g, nI_add]
    rw [show rrv (some (k, qq)) = nI k from rfl, show (0 : Int32) = nI 0 from rfl, h30 k 0 _ _ hl.1, if_pos rfl, ite_self]
    by_cases g : 64 ≤ k
    · have g2 : ¬ k < 64 := by omega
      simp only [if_pos g, if_neg g2]
      show ∃ x, f_X12_readRun_b4 (f_X12_readRun_l4 3999999998) _ _ _ _ = _ ∧ _
      obtain ⟨x2, e2, f2⟩ := m_one (m := uJ m 1278 133 (lN qq)) (nb := nb) (bs := bs) (q := qq) h hT (by rw [gJ_uJ, if_pos ⟨rfl, rfl⟩]) (by have := h.2.1; omega) col
      unfold f_X12_readRun_b4
      rw [e2, bd_eq, uJ_same]
      cases hp : oneR bs nb col qq with
      | none => exact ⟨x2, by rw [show rrv none = -1 from rfl, if_pos rfl], fun n q2 e => by cases e⟩
      | some kq2 =>
        obtain ⟨k2, qq2⟩ := kq2
        have := f2 k2 qq2 hp
        subst this
        have hl2 := oneR_lt hp
        show ∃ x, (if nI k2 = -1 then _ else _) = _ ∧ _
        rw [show rrv (some (k2, qq2)) = nI k2 from rfl, if_neg (hm1 k2 hl2.1), if_neg (show ¬ (1 : Int32) = 0 by decide), h30 k2 _ _ _ hl2.1]
        by_cases g3 : 64 ≤ k2
        · have g4 : ¬ k2 < 64 := by omega
          rw [if_neg (show ¬ nI k2 < 64 from nI_nlt (b := 64) g3 (by omega))]
          simp only [if_neg g4]
          exact ⟨_, rfl, fun n q2 e => by cases e⟩
        · have g4 : k2 < 64 := by omega
          rw [if_pos (show nI k2 < 64 from nI_lt (b := 64) g4 (by omega)), if_neg g3]
          simp only [if_pos g4]
          refine ⟨_, rfl, fun n q3 e => ?_⟩
          have := (Prod.mk.injEq _ _ _ _).mp (Option.some.inj e); rw [this.2]
    · have g2 : k < 64 := by omega
      simp only [if_neg g, if_pos g2, Nat.zero_add]
      refine ⟨_, rfl, fun n q3 e => ?_⟩
      have := (Prod.mk.injEq _ _ _ _).mp (Option.some.inj e); rw [this.2]
