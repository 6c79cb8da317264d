/-! A row in the fax code, written on both sides. -/
def rb (j : Nat) : Nat := (st_RUN_BITS.getD j 0).toNatClampNeg
def rc (j : Nat) : Nat := (st_RUN_CODES.getD j 0).toNatClampNeg
theorem run_tab : ∀ j, j < 148 → st_RUN_BITS.getD j 0 = nI (rb j) ∧ st_RUN_CODES.getD j 0 = nI (rc j) ∧ rb j ≤ 13 ∧ rc j < 2 ^ rb j := by decide +kernel
/-- the reference's codes -/
def Tab (m : Mm) : Prop := ∀ j, j < 148 → gA m 165 j = nI (rb j) ∧ gA m 166 j = nI (rc j)
theorem Tab.fr {m m' : Mm} {PF : Nat → Nat → Bool} {PA : Nat → Bool} (h : Tab m) (f : Fr PF PA m m') (e1 : PA 165 = false) (e2 : PA 166 = false) : Tab m' := by
  unfold Tab; rw [f.a e1, f.a e2]; exact h
theorem P2_code {z : Nat} {j : Nat} {c m : Mm} (hj : j < 148) (hX : WX z c m) (hT : Tab m) : P2 (f_X6_putBits (st_RUN_CODES.getD j 0) (st_RUN_BITS.getD j 0) c) (f_X12_bits (gA m 165 j) (gA m 166 j) m) (fun _ c' _ m' => WX z c' m' ∧ Fr cBitF cOutA c c' ∧ Fr mBitF mOutA m m') := by
  obtain ⟨e1, e2, e3, e4⟩ := run_tab j hj
  rw [e1, e2, (hT j hj).1, (hT j hj).2]
  exact P2_bits e3 e4 hX
theorem rem64 {len : Nat} (h : len < 2 ^ 20) : nI len - nI len / 64 * 64 = nI (len % 64) := pk_rem (d := 64) (by omega) (by decide) (by decide)
theorem div64 {len : Nat} (h : len < 2 ^ 20) : nI len / 64 = nI (len / 64) := pk_div (d := 64) (by omega) (by decide) (by decide)
theorem P2_run {z : Nat} {len : Nat} {col : Bool} {c m : Mm} (hl : len ≤ 640) (hX : WX z c m) (hT : Tab m) : P2 (f_X6_putRun (nI len) (cI col) c) (f_X12_writeRun (cI col) (nI len) m) (fun _ c' _ m' => WX z c' m' ∧ Fr cBitF cOutA c c' ∧ Fr mBitF mOutA m m') := by
  obtain ⟨k, hk, hcl⟩ : ∃ k : Nat, k ≤ 74 ∧ (74 : Int32) * cI col = nI k ∧ (f_X6_putRun (nI len) (cI col) c = f_X6_putRun_10 (nI len) (nI k) c) := by
    cases col
    · exact ⟨0, by omega, by decide, by unfold f_X6_putRun; rw [if_pos (by decide)]; rfl⟩
    · exact ⟨74, by omega, by decide, by unfold f_X6_putRun; rw [if_neg (by decide)]; rfl⟩
  rw [hcl.2]
  have tail : ∀ c m, WX z c m → Tab m → P2 (f_X6_putRun_64 (nI len) (nI k) c) (f_X12_writeRun_44 (cI col) (nI len) m) (fun _ c' _ m' => WX z c' m' ∧ Fr cBitF cOutA c c' ∧ Fr mBitF mOutA m m') := by
    intro c m hX hT
    unfold f_X6_putRun_64 f_X12_writeRun_44
    rw [hcl.1, rem64 (by omega), nI_add, lb_eq, if_neg (nI_pos (by omega)), show (148 : Int32) = nI 148 from rfl, if_neg (nI_ge (by omega) (by omega)), if_neg (nI_ge (by omega) (by omega))]
    rw [ix_in (j := k + len % 64) (nI_pos (by omega)) (nI_clamp (by omega)) (by omega), ix_in (j := k + len % 64) (nI_pos (by omega)) (nI_clamp (by omega)) (by omega), ix_in (j := k + len % 64) (nI_pos (by omega)) (nI_clamp (by omega)) (by omega), ix_in (j := k + len % 64) (nI_pos (by omega)) (nI_clamp (by omega)) (by omega)]
    refine P2_bd (P2_code (by omega) hX hT) ?_
    rintro _ c2 _ m2 h2
    exact P2_ret h2
  unfold f_X6_putRun_10 f_X12_writeRun
  rcases Nat.lt_or_ge len 64 with h64 | h64
  · rw [show (64 : Int32) = nI 64 from rfl, if_pos (nI_lt h64 (by omega)), if_pos (nI_lt h64 (by omega))]
    exact tail c m hX hT
  · have e1 : nI k + 64 - 1 + nI len / 64 = nI (k + 63 + len / 64) := by
      rw [div64 (by omega), show nI k + 64 = nI (k + 64) from nI_add k 64, show nI (k + 64) - 1 = nI (k + 63) from pk_sub (a := k + 64) (b := 1) (by omega), nI_add]
    have e2 : (74 : Int32) * cI col + 63 + nI len / 64 = nI (k + 63 + len / 64) := by
      rw [hcl.1, div64 (by omega), show nI k + 63 = nI (k + 63) from nI_add k 63, nI_add]
    rw [e1, e2, show (64 : Int32) = nI 64 from rfl, if_neg (nI_nlt h64 (by omega)), if_neg (nI_nlt h64 (by omega)), lb_eq, show (148 : Int32) = nI 148 from rfl, if_neg (nI_ge (by omega) (by omega)), if_neg (nI_ge (by omega) (by omega))]
    rw [ix_in (j := k + 63 + len / 64) (nI_pos (by omega)) (nI_clamp (by omega)) (by omega), ix_in (j := k + 63 + len / 64) (nI_pos (by omega)) (nI_clamp (by omega)) (by omega), ix_in (j := k + 63 + len / 64) (nI_pos (by omega)) (nI_clamp (by omega)) (by omega), ix_in (j := k + 63 + len / 64) (nI_pos (by omega)) (nI_clamp (by omega)) (by omega)]
    refine P2_bd (P2_code (by omega) hX hT) ?_
    rintro _ c2 _ m2 ⟨h2, f1, f2⟩
    refine P2_mono (tail c2 m2 h2 (hT.fr f2 rfl rfl)) ?_
    rintro _ c3 _ m3 ⟨h3, f3, f4⟩
    exact ⟨h3, f1.trans f3, f2.trans f4⟩
/-- the row at hand and the row before, in the reference -/
def RwN (m : Mm) (w : Nat) (N B : Nat → Bool) : Prop := gI m 1260 133 = nI w ∧ (∀ k, k < w → gA m 168 k = cI (N k)) ∧ (∀ k, k < w → gA m 167 k = cI (B k))
theorem m_change {m : Mm} {w a : Nat} {N B : Nat → Bool} {col : Bool} (h : RwN m w N B) (hw : w ≤ 640) (ha : a ≤ w) : f_X12_change (nI a) (cI col) m = some (nI (fo N a w col), m) := by
  unfold f_X12_change
  have go : ∀ (n a : Nat), a ≤ w → w - a < n → f_X12_change_l2 n (cI col) (nI a) m = some (nI (fo N a w col), m) := by
    intro n
    induction n with
    | zero => intro a _ h; omega
    | succ n ih =>
      intro a ha hn
      show f_X12_change_b2 (f_X12_change_l2 n) _ _ _ = _
      unfold f_X12_change_b2
      rw [h.1]
      rcases Nat.lt_or_ge a w with hlt | hge
      · rw [if_neg (nI_ge hlt (by omega)), ix_in (j := a) (nI_pos (by omega)) (nI_clamp (by omega)) (by omega), h.2.1 a hlt]
        by_cases e : N a = col
        · rw [if_pos (by rw [e]), nI_1, ih (a + 1) (by omega) (by omega)]
          congr 3
          refine fo_is (by have := fo_ge (P := N) (c := col) (fr := a + 1) (wd := w) (by omega); omega) fo_le (fun j h1 h2 => ?_) (fun h => fo_ne h) |>.symm
          rcases Nat.eq_or_lt_of_le h1 with rfl | h3
          · exact e
          · exact fo_eq (by omega) h2
        · rw [if_neg (fun q => e (cI_inj.mp q)), fo_here hlt e]
      · rw [if_pos (nI_le hge (by omega)), fo_out hge]; congr 3; omega
  exact go FU a ha (FU_gt (by omega))
def lf (B : Nat → Bool) (k : Nat) : Bool := if k = 0 then false else B (k - 1)
theorem fo_skip {P : Nat → Bool} {c : Bool} {k w : Nat} (h : k < w) (e : P k = c) : fo P k w c = fo P (k + 1) w c := by
  refine fo_is (by have := fo_ge (P := P) (c := c) (fr := k + 1) (wd := w) (by omega); omega) fo_le (fun j h1 h2 => ?_) (fun h => fo_ne h)
  rcases Nat.eq_or_lt_of_le h1 with rfl | h3
  · exact e
  · exact fo_eq (by omega) h2
theorem fch_lf (B : Nat → Bool) (col : Bool) (k w : Nat) : fch B col k w = fo B (if lf B k = col then k else fo B k w (!col)) w col := rfl
theorem bne {a b : Bool} (h : a ≠ b) : a = !b := by cases a <;> cases b <;> simp_all
theorem fch_step {B : Nat → Bool} {col : Bool} {k w : Nat} (h : k < w) : fch B col k w = if B k ≠ col ∧ lf B k = col then k else fch B col (k + 1) w := by
  rw [fch_lf, fch_lf]
  have e1 : lf B (k + 1) = B k := by unfold lf; rw [if_neg (by omega), Nat.add_sub_cancel]
  rw [e1]
  by_cases h1 : B k = col
  · by_cases h2 : lf B k = col
    · rw [if_pos h2, if_neg (fun q : B k ≠ col ∧ lf B k = col => q.1 h1), if_pos h1, fo_skip h h1]
    · rw [if_neg h2, if_neg (fun q : B k ≠ col ∧ lf B k = col => q.1 h1), if_pos h1, fo_here h (c := !col) (by rw [h1]; cases col <;> decide), fo_skip h h1]
  · by_cases h2 : lf B k = col
    · rw [if_pos h2, if_pos (show B k ≠ col ∧ lf B k = col from ⟨h1, h2⟩), fo_here h h1]
    · rw [if_neg h2, if_neg (fun q : B k ≠ col ∧ lf B k = col => h2 q.2), if_neg h1, fo_skip h (bne h1)]
theorem fch_out {B : Nat → Bool} {col : Bool} {k w : Nat} (h : w ≤ k) : fch B col k w = w := by
  rw [fch_lf]
  split
  · exact fo_out h
  · rw [fo_out h, fo_out (Nat.le_refl w)]
theorem m_b1 {m : Mm} {w fr a : Nat} {N B : Nat → Bool} {col first : Bool} (h : RwN m w N B) (hw : w ≤ 640) (h1 : gI m 1261 133 = nI a) (h2 : gI m 1262 133 = cI first) (h3 : gI m 1263 133 = cI col) (hf : fr = if first then 0 else a + 1) (hfr : fr ≤ w + 1) : f_X12_b1 m = some (nI (fch B col fr w), m) := by
  have go : ∀ (n k : Nat), k ≤ w + 1 → w + 1 - k < n → f_X12_b1_l18 n (nI k) m = some (nI (fch B col k w), m) := by
    intro n
    induction n with
    | zero => intro k _ h; omega
    | succ n ih =>
      intro k hk hn
      show f_X12_b1_b18 (f_X12_b1_l18 n) _ _ = _
      unfold f_X12_b1_b18
      rw [h.1]
      rcases Nat.lt_or_ge k w with hlt | hge
      · rw [if_neg (nI_ge hlt (by omega))]
        have tail : ∀ b : Bool, b = lf B k → f_X12_b1_42 (f_X12_b1_l18 n) (nI k) (cI b) m = some (nI (fch B col k w), m) := by
          intro b hb
          unfold f_X12_b1_42
          rw [ix_in (j := k) (nI_pos (by omega)) (nI_clamp (by omega)) (by omega), h.2.2 k hlt, h3, fch_step hlt, ← hb]
          by_cases q1 : B k = col
          · rw [if_pos (by rw [q1]), if_neg (fun q => q.1 q1), nI_1, ih (k + 1) (by omega) (by omega)]
          · rw [if_neg (fun q => q1 (cI_inj.mp q))]
            by_cases q2 : b = col
            · rw [if_pos (by rw [q2]), if_pos ⟨q1, q2⟩]
            · rw [if_neg (fun q => q2 (cI_inj.mp q)), if_neg (fun q => q2 q.2), nI_1, ih (k + 1) (by omega) (by omega)]
        by_cases h0 : k = 0
        · subst h0
          rw [if_pos nI_0]
          exact tail false rfl
        · rw [if_neg (nI_ne0 (by omega) (by omega)), show nI k - 1 = nI (k - 1) from pk_sub (b := 1) (by omega), ix_in (j := k - 1) (nI_pos (by omega)) (nI_clamp (by omega)) (by omega), h.2.2 (k - 1) (by omega)]
          exact tail _ (by unfold lf; rw [if_neg h0])
      · rw [if_pos (nI_le hge (by omega)), fch_out hge]
  unfold f_X12_b1
  rw [h2]
  cases first
  · rw [if_pos (by decide), h1, nI_1, lb_eq, hf]
    exact go FU (a + 1) (by simp at hf; omega) (FU_gt (by omega))
  · rw [if_neg (by decide), hf]
    exact go FU 0 (by omega) (FU_gt (by omega))
theorem m_b2 {m : Mm} {w b : Nat} {N B : Nat → Bool} {col : Bool} (h : RwN m w N B) (hw : w ≤ 640) (hb : b ≤ w) (hB : b < w → B b = !col) : f_X12_b2 (nI b) m = some (nI (fo B b w (!col)), m) := by
  unfold f_X12_b2
  rw [nI_1, lb_eq]
  have hend : ∀ k, k ≤ w + 1 → (b < w → fo B b w (!col) = k) → f_X12_b2_33 (nI b) (nI k) m = some (nI (fo B b w (!col)), m) := by
    intro k _ hk
    unfold f_X12_b2_33
    rw [h.1]
    rcases Nat.lt_or_ge b w with hlt | hge
    · rw [if_pos (nI_lt hlt (by omega)), hk hlt]
    · rw [if_neg (nI_nlt hge (by omega)), fo_out hge]
  have go : ∀ (n k : Nat), b < k → (b < w → k ≤ w) → k ≤ w + 1 → w + 1 - k < n → (b < w → fo B b w (!col) = fo B k w (!col)) → f_X12_b2_l4 n (nI b) (nI k) m = some (nI (fo B b w (!col)), m) := by
    intro n
    induction n with
    | zero => intro k _ _ _ h; omega
    | succ n ih =>
      intro k hk1 hk3 hk hn he
      show f_X12_b2_b4 (f_X12_b2_l4 n) _ _ _ = _
      unfold f_X12_b2_b4
      rw [h.1]
      rcases Nat.lt_or_ge k w with hlt | hge
      · rw [if_neg (nI_ge hlt (by omega)), ix_in (j := k) (nI_pos (by omega)) (nI_clamp (by omega)) (by omega), ix_in (j := b) (nI_pos (by omega)) (nI_clamp (by omega)) (by omega), h.2.2 k hlt, h.2.2 b (by omega), hB (by omega)]
        by_cases e : B k = !col
        · rw [if_pos (by rw [e]), nI_1]
          exact ih (k + 1) (by omega) (by omega) (by omega) (by omega) (fun q => by rw [he q, fo_skip hlt e])
        · rw [if_neg (fun q => e (cI_inj.mp q))]
          exact hend k (by omega) (fun q => by rw [he q, fo_here hlt e])
      · rw [if_pos (nI_le hge (by omega))]
        unfold f_X12_b2_33
        rw [h.1]
        rcases Nat.lt_or_ge b w with hlt | hge2
        · have : fo B b w (!col) = w := by rw [he hlt, fo_out hge]
          rw [if_pos (nI_lt hlt (by omega)), this]
          have := hk3 hlt
          congr 3
          omega
        · rw [if_neg (nI_nlt hge2 (by omega)), fo_out hge2]
  exact go FU (b + 1) (by omega) (by omega) (by omega) (FU_gt (by omega)) (fun q => fo_skip q (hB q))
