/-! Where a macro that is told ends, on both sides. -/
def mE (F : Nat → Nat) (n i : Nat) : Bool := decide (i + 5 ≤ n) && (decide (F i = 27) && (decide (F (i + 1) = 38) && (decide (F (i + 2) = 102) && (decide (F (i + 3) = 49) && decide (F (i + 4) = 88)))))
def mS (F : Nat → Nat) (n : Nat) : Nat → Nat → Nat
  | 0, i => i
  | f + 1, i => if n ≤ i then i else if mE F n i = true then i else mS F n f (i + 1)
section I3
variable {c c' c0 c1 c2 c3 m m' m0 m1 m2 m3 T T' M' : Mm} {d w b A o M o' n p r q a i s f k u h rb t v kd gp : Nat} {F : Nat → Nat} {ov ov' ng sg z : Bool} {g L : Nat → Int32} {Gc Gm : Gty} {PF QF : Nat → Nat → Bool} {PA QA : Nat → Bool}
theorem mS_le : ∀ (f i : Nat), i ≤ n → i ≤ mS F n f i ∧ mS F n f i ≤ n := by
  intro f
  induction f with
  | zero => intro i h; exact ⟨Nat.le_refl _, h⟩
  | succ f ih =>
    intro i h
    unfold mS
    split
    · omega
    · split
      · omega
      · have := ih (i + 1) (by omega)
        omega
theorem mS_end : ∀ (f i : Nat), n - i ≤ f → i ≤ n → mS F n f i < n → mE F n (mS F n f i) = true := by
  intro f
  induction f with
  | zero => intro i h1 h2 h3; unfold mS at h3; omega
  | succ f ih =>
    intro i h1 h2 h3
    unfold mS at h3 ⊢
    by_cases q : n ≤ i
    · rw [if_pos q] at h3; omega
    · rw [if_neg q] at h3 ⊢
      by_cases y : mE F n i = true
      · rw [if_pos y]; exact y
      · rw [if_neg y] at h3 ⊢
        exact ih (i + 1) (by omega) (by omega) h3
theorem c_end (h : SRC c m d A o M o' n F) (hr : gR c 913 23 = some (125 + d)) (hd : d ≤ 3) (hi : i < 30000) : f_X9_isMacroEnd (nI (o + i)) c = some (cI (mE F n i), c) := by
  have hF := h.g
  have rd : ∀ {γ : Type} (K : Nat → Option γ), rf true (gR c 913 23) 5 K = K (125 + d) := fun K => rf_eq hr (rd_k hd)
  unfold f_X9_isMacroEnd mE
  rw [rd, c_byteAt h (by omega), bd_eq]
  have st : ∀ (j v : Nat), v < 256 → (bs F n j = nI v ↔ j < n ∧ F j = v) := fun j v hv => bs_eq hF hv
  by_cases q0 : bs F n i = 27
  · have z0 := (st i 27 (by omega)).mp q0
    rw [if_pos q0, rd, show nI (o + i) + 1 = nI (o + (i + 1)) from nI_add _ 1, c_byteAt h (by omega), bd_eq, decide_eq_true z0.2]
    by_cases q1 : bs F n (i + 1) = 38
    · have z1 := (st (i + 1) 38 (by omega)).mp q1
      rw [if_pos q1, rd, show nI (o + i) + 2 = nI (o + (i + 2)) from nI_add _ 2, c_byteAt h (by omega), bd_eq, decide_eq_true z1.2]
      by_cases q2 : bs F n (i + 2) = 102
      · have z2 := (st (i + 2) 102 (by omega)).mp q2
        rw [if_pos q2, rd, show nI (o + i) + 3 = nI (o + (i + 3)) from nI_add _ 3, c_byteAt h (by omega), bd_eq, decide_eq_true z2.2]
        by_cases q3 : bs F n (i + 3) = 49
        · have z3 := (st (i + 3) 49 (by omega)).mp q3
          rw [if_pos q3, rd, show nI (o + i) + 4 = nI (o + (i + 4)) from nI_add _ 4, c_byteAt h (by omega), bd_eq, decide_eq_true z3.2]
          by_cases q4 : bs F n (i + 4) = 88
          · have z4 := (st (i + 4) 88 (by omega)).mp q4
            rw [if_pos q4, decide_eq_true z4.2, decide_eq_true (show i + 5 ≤ n by omega)]; rfl
          · have z4 : ¬ (i + 4 < n ∧ F (i + 4) = 88) := fun y => q4 ((st (i + 4) 88 (by omega)).mpr y)
            rw [if_neg q4]
            by_cases y : i + 5 ≤ n
            · rw [decide_eq_true y, decide_eq_false (show ¬ F (i + 4) = 88 from fun u => z4 ⟨by omega, u⟩)]; rfl
            · rw [decide_eq_false y]; rfl
        · have z3 : ¬ (i + 3 < n ∧ F (i + 3) = 49) := fun y => q3 ((st (i + 3) 49 (by omega)).mpr y)
          rw [if_neg q3]
          by_cases y : i + 5 ≤ n
          · rw [decide_eq_true y, decide_eq_false (show ¬ F (i + 3) = 49 from fun u => z3 ⟨by omega, u⟩)]; rfl
          · rw [decide_eq_false y]; rfl
      · have z2 : ¬ (i + 2 < n ∧ F (i + 2) = 102) := fun y => q2 ((st (i + 2) 102 (by omega)).mpr y)
        rw [if_neg q2]
        by_cases y : i + 5 ≤ n
        · rw [decide_eq_true y, decide_eq_false (show ¬ F (i + 2) = 102 from fun u => z2 ⟨by omega, u⟩)]; rfl
        · rw [decide_eq_false y]; rfl
    · have z1 : ¬ (i + 1 < n ∧ F (i + 1) = 38) := fun y => q1 ((st (i + 1) 38 (by omega)).mpr y)
      rw [if_neg q1]
      by_cases y : i + 5 ≤ n
      · rw [decide_eq_true y, decide_eq_false (show ¬ F (i + 1) = 38 from fun u => z1 ⟨by omega, u⟩)]; rfl
      · rw [decide_eq_false y]; rfl
  · have z0 : ¬ (i < n ∧ F i = 27) := fun y => q0 ((st i 27 (by omega)).mpr y)
    rw [if_neg q0]
    by_cases y : i + 5 ≤ n
    · rw [decide_eq_true y, decide_eq_false (show ¬ F i = 27 from fun u => z0 ⟨by omega, u⟩)]; rfl
    · rw [decide_eq_false y]; rfl
theorem m_end5 (h : SRC c m d A o M o' n F) (hd : d ≤ 3) (hi : i < 30000) : f_X12_endsMacro (nI (o' + i)) m = some (cI (mE F n i), m) := by
  have n2 := h.n2 hd
  have ixm : ∀ {γ : Type} (j : Nat) (K : Nat → Option γ), j < n → ix (nI (o' + j)) (LN M) K = K (o' + j) := fun j K hj => ix_in (j := o' + j) (nI_pos (by omega)) (nI_clamp (by omega)) (by omega)
  have rw' : ∀ (j v : Nat), j < n → v < 128 → (gA m M (o' + j) = nI v ↔ F j = v) := fun j v hj hv => raw_eq (h.y j hj) (h.f j hj) (h.g j) hv
  unfold f_X12_endsMacro mE
  rw [h.e2, show nI (o' + i) + 5 = nI (o' + i + 5) from nI_add _ 5]
  by_cases y : i + 5 ≤ n
  · rw [if_neg (nI_nlt (by omega) (by omega)), decide_eq_true y, h.r2, ixm i _ (by omega)]
    by_cases q0 : gA m M (o' + i) = 27
    · have z0 := (rw' i 27 (by omega) (by omega)).mp q0
      rw [if_pos q0, decide_eq_true z0, h.r2, show nI (o' + i) + 1 = nI (o' + (i + 1)) from nI_add _ 1, ixm (i + 1) _ (by omega)]
      by_cases q1 : gA m M (o' + (i + 1)) = 38
      · have z1 := (rw' (i + 1) 38 (by omega) (by omega)).mp q1
        rw [if_pos q1, decide_eq_true z1, h.r2, show nI (o' + i) + 2 = nI (o' + (i + 2)) from nI_add _ 2, ixm (i + 2) _ (by omega)]
        by_cases q2 : gA m M (o' + (i + 2)) = 102
        · have z2 := (rw' (i + 2) 102 (by omega) (by omega)).mp q2
          rw [if_pos q2, decide_eq_true z2, h.r2, show nI (o' + i) + 3 = nI (o' + (i + 3)) from nI_add _ 3, ixm (i + 3) _ (by omega)]
          by_cases q3 : gA m M (o' + (i + 3)) = 49
          · have z3 := (rw' (i + 3) 49 (by omega) (by omega)).mp q3
            rw [if_pos q3, decide_eq_true z3, h.r2, show nI (o' + i) + 4 = nI (o' + (i + 4)) from nI_add _ 4, ixm (i + 4) _ (by omega)]
            by_cases q4 : gA m M (o' + (i + 4)) = 88
            · have z4 := (rw' (i + 4) 88 (by omega) (by omega)).mp q4
              rw [if_pos q4, decide_eq_true z4]; rfl
            · rw [if_neg q4, decide_eq_false (show ¬ F (i + 4) = 88 from fun u => q4 ((rw' (i + 4) 88 (by omega) (by omega)).mpr u))]; rfl
          · rw [if_neg q3, decide_eq_false (show ¬ F (i + 3) = 49 from fun u => q3 ((rw' (i + 3) 49 (by omega) (by omega)).mpr u))]; rfl
        · rw [if_neg q2, decide_eq_false (show ¬ F (i + 2) = 102 from fun u => q2 ((rw' (i + 2) 102 (by omega) (by omega)).mpr u))]; rfl
      · rw [if_neg q1, decide_eq_false (show ¬ F (i + 1) = 38 from fun u => q1 ((rw' (i + 1) 38 (by omega) (by omega)).mpr u))]; rfl
    · rw [if_neg q0, decide_eq_false (show ¬ F i = 27 from fun u => q0 ((rw' i 27 (by omega) (by omega)).mpr u))]; rfl
  · rw [if_pos (nI_lt (by omega) (by omega)), decide_eq_false y]; rfl
theorem c_l10 (h : SRC c m d A o M o' n F) (hr : gR c 913 23 = some (125 + d)) (hd : d ≤ 3) (hn : n < 30000) {x1 x2 : Int32} : ∀ (N i : Nat), n - i < N → i ≤ n → f_X9_tellMacro_l10 N x1 x2 (nI (o + i)) c = f_X9_tellMacro_35 x1 x2 (nI (o + mS F n (n - i) i)) c := by
  have n1 := h.n1
  have rd : ∀ {γ : Type} (K : Nat → Option γ), rf true (gR c 913 23) 5 K = K (125 + d) := fun K => rf_eq hr (rd_k hd)
  intro N
  induction N with
  | zero => intro i h; omega
  | succ N ih =>
    intro i h1 h2
    show f_X9_tellMacro_b10 (f_X9_tellMacro_l10 N) x1 x2 (nI (o + i)) c = _
    unfold f_X9_tellMacro_b10
    rw [rd, h.e]
    by_cases q : n ≤ i
    · have : i = n := by omega
      subst this
      rw [if_pos (Int32.le_refl _), Nat.sub_self]; rfl
    · obtain ⟨f, hf⟩ : ∃ f, n - i = f + 1 := ⟨n - i - 1, by omega⟩
      have hf2 : n - (i + 1) = f := by omega
      rw [if_neg (nI_ge (by omega) (by omega)), c_end h hr hd (by omega), bd_eq, hf]
      unfold mS
      rw [if_neg (show ¬ n ≤ i from q)]
      cases hz : mE F n i
      · rw [if_pos (show cI false = 0 from rfl), if_neg (by decide), show nI (o + i) + 1 = nI (o + (i + 1)) from nI_add _ 1, ← hf2]
        exact ih (i + 1) (by omega) (by omega)
      · rw [if_neg (show ¬ cI true = 0 by decide), if_pos rfl]
theorem m_l5 (h : SRC c m d A o M o' n F) (hd : d ≤ 3) (hn : n < 30000) {x1 x2 : Int32} : ∀ (N i : Nat) (T : Mm), n - i < N → i ≤ n → Fr (fun f i => i == 133 && f == 1227) noA m T → gI T 1227 133 = nI (o' + i) → ∃ T', f_X12_define_l5 N x1 x2 T = f_X12_define_40 x1 x2 T' ∧ Fr (fun f i => i == 133 && f == 1227) noA m T' ∧ gI T' 1227 133 = nI (o' + mS F n (n - i) i) := by
  have n2 := h.n2 hd
  intro N
  induction N with
  | zero => intro i T h; omega
  | succ N ih =>
    intro i T h1 h2 h3 h4
    have S := h.mf h3 ⟨rfl, rfl⟩
    show ∃ T', f_X12_define_b5 (f_X12_define_l5 N) x1 x2 T = _ ∧ _
    unfold f_X12_define_b5
    rw [S.e2, h4]
    by_cases q : n ≤ i
    · have : i = n := by omega
      subst this
      rw [if_pos (Int32.le_refl _), Nat.sub_self]
      exact ⟨T, rfl, h3, h4⟩
    · obtain ⟨f, hf⟩ : ∃ f, n - i = f + 1 := ⟨n - i - 1, by omega⟩
      have hf2 : n - (i + 1) = f := by omega
      rw [if_neg (nI_ge (by omega) (by omega)), m_end5 S hd (by omega), bd_eq, hf]
      unfold mS
      rw [if_neg (show ¬ n ≤ i from q)]
      cases hz : mE F n i
      · rw [if_pos (show cI false = 0 from rfl), if_neg (by decide), lb_eq, h4, show nI (o' + i) + 1 = nI (o' + (i + 1)) from nI_add _ 1, ← hf2]
        exact ih (i + 1) _ (by omega) (by omega) (h3.uI _ (by rfl)) (by rw [gI_uI, if_pos ⟨rfl, rfl⟩])
      · rw [if_neg (show ¬ cI true = 0 by decide), if_pos rfl]
        exact ⟨T, rfl, h3, h4⟩
end I3
