/-! A pattern is sent, on both sides. -/
def rv (F : Nat → Nat) (q : Nat) : Nat → Int32
  | 0 => 0
  | i + 1 => ((rv F q i) <<< ((8 : Int32) &&& 31)) ||| nI (F (q + i))
section G4
variable {c c' c0 c1 c2 c3 m m' m0 m1 m2 m3 T : Mm} {d w b A o M o' n p r q a i s f k u h rb t : Nat} {F : Nat → Nat} {ov ov' ng sg : Bool} {g L : Nat → Int32} {Gc Gm : Gty} {PF QF : Nat → Nat → Bool} {PA QA : Nat → Bool}
/-- the bits of a row of a sent pattern -/
def rowB (F : Nat → Nat) (p rb w r : Nat) : Int32 := (rv F (p + (2 + r * rb)) rb) >>> ((((8 : Int32) * nI rb) - nI w) &&& 31)
theorem gB_uB_o {T : Mm} {a b i : Nat} {v : Int64} (h : b ≠ a) : gB (uB T a i v) b = gB T b := funext fun j => by rw [gB_uB, if_neg (fun z => h z.1)]
theorem c_l130 {K : Int32 → Int32 → Int32 → Int32 → Nat → Int32 → Mm → Option (Unit × Mm)} {x1 : Int32} (hrd : gR T 913 23 = some (125 + d)) (hd : d ≤ 3) (h4 : DT T m d A o M o' n F p s) (hin : 2 + r * rb + rb ≤ s) : ∀ (N i : Nat), rb - i < N → i ≤ rb → f_X9_tellTile_l130 K N x1 (nI w) (nI h) (nI rb) t (nI r) (rv F (p + (2 + r * rb)) i) (nI i) T = (bd (f_X10_setRow t (nI r) (rowB F p rb w r) T) fun _ T1 => K x1 (nI w) (nI h) (nI rb) t (nI r + 1) T1) := by
  have n1 := h4.1.n1
  have hps := h4.2.2.2.1
  intro N
  induction N with
  | zero => intro i h; omega
  | succ N ih =>
    intro i h1 h2
    show f_X9_tellTile_b130 K (f_X9_tellTile_l130 K N) x1 (nI w) (nI h) (nI rb) t (nI r) (rv F (p + (2 + r * rb)) i) (nI i) T = _
    unfold f_X9_tellTile_b130
    by_cases q : rb ≤ i
    · have : i = rb := by omega
      subst this
      rw [if_pos (Int32.le_refl _)]
      rfl
    · rw [if_neg (nI_ge (by omega) (by omega)), rf_eq hrd (rd_k hd), pk_mul, show (2 : Int32) + nI (r * rb) = nI (2 + r * rb) from nI_add 2 _, nI_add, c_data1 h4 (by omega), bd_eq, lb_eq, show nI i + 1 = nI (i + 1) from nI_add i 1, show p + (2 + r * rb + i) = p + (2 + r * rb) + i by omega]
      exact ih (i + 1) (by omega) (by omega)
theorem rw_in {r h rb s : Nat} (hr : r < h) (hs : 2 + h * rb ≤ s) : 2 + r * rb + rb ≤ s := by
  have : (r + 1) * rb ≤ h * rb := Nat.mul_le_mul_right rb hr
  rw [Nat.add_mul, Nat.one_mul] at this
  omega
theorem c_l118 {x1 : Int32} (hrd : gR c 913 23 = some (125 + d)) (hd : d ≤ 3) (h4 : DT c m d A o M o' n F p s) (hs : 2 + h * rb ≤ s) (ht : 66 ≤ t ∧ t ≤ 96) (w1 : 1 ≤ w) (w2 : w ≤ 16) (hh : h ≤ 16) : ∀ (N r : Nat) (T : Mm), h - r < N → r ≤ h → Fr nF (tA t) c T → gI T 1000 t = nI w → (∀ i, i < r → RW (gB T (t + 1) i) w (rowB F p rb w i)) → ∃ T', f_X9_tellTile_l118 N x1 (nI w) (nI h) (nI rb) t (nI r) T = (bd (f_X8_put 36 x1 T') fun _ T1 => some ((), T1)) ∧ Fr nF (tA t) c T' ∧ ∀ i, i < h → RW (gB T' (t + 1) i) w (rowB F p rb w i) := by
  intro N
  induction N with
  | zero => intro r T h; omega
  | succ N ih =>
    intro r T h1 h2 h3 h5 h6
    show ∃ T', f_X9_tellTile_b118 (f_X9_tellTile_l118 N) x1 (nI w) (nI h) (nI rb) t (nI r) T = _ ∧ _
    unfold f_X9_tellTile_b118
    by_cases q : h ≤ r
    · have : r = h := by omega
      subst this
      rw [if_pos (Int32.le_refl _)]
      exact ⟨T, rfl, h3, h6⟩
    · have d4 : DT T m d A o M o' n F p s := h4.fr h3 (Fr.refl (PF := nF) (PA := noA)) (fun _ => rfl) ⟨by unfold tA; simp; omega, by unfold tA; simp; omega⟩ ⟨rfl, rfl, rfl⟩ ⟨rfl, rfl⟩
      rw [if_neg (nI_ge (by omega) (by omega))]
      have e := c_l130 (K := f_X9_tellTile_l118 N) (x1 := x1) (w := w) (h := h) (t := t) (r := r) (rb := rb) ((h3.r rfl).trans hrd) hd d4 (rw_in (by omega) hs) FU 0 (FU_gt (by
        have := rw_in (r := r) (h := h) (rb := rb) (by omega) hs
        have := h4.1.n1
        have := h4.2.2.2.1
        omega)) (by omega)
      have e' : f_X9_tellTile_l130 (f_X9_tellTile_l118 N) FU x1 (nI w) (nI h) (nI rb) t (nI r) 0 0 T = _ := e
      obtain ⟨R, r1, r2⟩ := c_setRow (i := r) (b := rowB F p rb w r) h5 w1 w2 (by omega)
      rw [e', r1, bd_eq, show nI r + 1 = nI (r + 1) from nI_add r 1]
      refine ih (r + 1) _ (by omega) (by omega) (h3.uB _ _ (by unfold tA; simp)) h5 (fun i hi => ?_)
      rw [gB_uB]
      by_cases z : i = r
      · rw [if_pos ⟨rfl, z⟩, z]; exact r2
      · rw [if_neg (fun y => z y.2)]; exact h6 i (by omega)
theorem m_l128 {K : Int32 → Int32 → Int32 → Int32 → Int32 → Mm → Option (Unit × Mm)} (hd : d ≤ 3) (hu : u < 16) (hr : r < 16) (h4 : DT c T d A o M o' n F p s) (hin : 2 + r * rb + rb ≤ s) : ∀ (N i : Nat), rb - i < N → i ≤ rb → f_X12_userData_l128 K N (nI u) (nI w) (nI h) (nI rb) (nI r) (rv F (p + (2 + r * rb)) i) (nI i) T = K (nI u) (nI w) (nI h) (nI rb) (nI (r + 1)) (uA T 147 (16 * u + r) (rowB F p rb w r)) := by
  have n1 := h4.1.n1
  have hps := h4.2.2.2.1
  intro N
  induction N with
  | zero => intro i h; omega
  | succ N ih =>
    intro i h1 h2
    show f_X12_userData_b128 K (f_X12_userData_l128 K N) (nI u) (nI w) (nI h) (nI rb) (nI r) (rv F (p + (2 + r * rb)) i) (nI i) T = _
    unfold f_X12_userData_b128
    by_cases q : rb ≤ i
    · have : i = rb := by omega
      subst this
      rw [if_pos (Int32.le_refl _), show (16 : Int32) * nI u = nI (16 * u) from pk_mul 16 u, nI_add, ix_in (j := 16 * u + r) (nI_pos (by omega)) (nI_clamp (by omega)) (by omega), lb_eq, show nI r + 1 = nI (r + 1) from nI_add r 1]
      rfl
    · rw [if_neg (nI_ge (by omega) (by omega)), pk_mul, show (2 : Int32) + nI (rb * r) = nI (2 + rb * r) from nI_add 2 _, nI_add, Nat.mul_comm rb r, m_data1 h4 hd (by omega), bd_eq, lb_eq, show nI i + 1 = nI (i + 1) from nI_add i 1, show p + (2 + r * rb + i) = p + (2 + r * rb) + i by omega]
      exact ih (i + 1) (by omega) (by omega)
theorem m_l115 (hd : d ≤ 3) (hu : u < 16) (h4 : DT c m d A o M o' n F p s) (hs : 2 + h * rb ≤ s) (hh : h ≤ 16) : ∀ (N r : Nat) (T : Mm), h - r < N → r ≤ h → Fr nF (fun a => a == 147) m T → (∀ j, gA T 147 j = if 16 * u ≤ j ∧ j < 16 * u + r then rowB F p rb w (j - 16 * u) else gA m 147 j) → ∃ T', f_X12_userData_l115 N (nI u) (nI w) (nI h) (nI rb) (nI r) T = some ((), T') ∧ Fr nF (fun a => a == 147) m T' ∧ ∀ j, gA T' 147 j = if 16 * u ≤ j ∧ j < 16 * u + h then rowB F p rb w (j - 16 * u) else gA m 147 j := by
  intro N
  induction N with
  | zero => intro r T h; omega
  | succ N ih =>
    intro r T h1 h2 h3 h5
    show ∃ T', f_X12_userData_b115 (f_X12_userData_l115 N) (nI u) (nI w) (nI h) (nI rb) (nI r) T = _ ∧ _
    unfold f_X12_userData_b115
    by_cases q : h ≤ r
    · have : r = h := by omega
      subst this
      rw [if_pos (Int32.le_refl _)]
      exact ⟨T, rfl, h3, h5⟩
    · have d4 : DT c T d A o M o' n F p s := h4.fr (Fr.refl (PF := nF) (PA := noA)) h3 (fun _ => rfl) ⟨rfl, rfl⟩ ⟨rfl, rfl, rfl⟩ ⟨rfl, rfl⟩
      have e := m_l128 (K := f_X12_userData_l115 N) (w := w) (h := h) (r := r) (rb := rb) hd hu (by omega) d4 (rw_in (by omega) hs) FU 0 (FU_gt (by
        have := rw_in (r := r) (h := h) (rb := rb) (by omega) hs
        have := h4.1.n1
        have := h4.2.2.2.1
        omega)) (by omega)
      have e' : f_X12_userData_l128 (f_X12_userData_l115 N) FU (nI u) (nI w) (nI h) (nI rb) (nI r) 0 0 T = _ := e
      rw [if_neg (nI_ge (by omega) (by omega)), e']
      refine ih (r + 1) _ (by omega) (by omega) (h3.uA _ _ (by rfl)) (fun j => ?_)
      rw [gA_one, h5]
      by_cases z : j = 16 * u + r
      · rw [if_pos z, if_pos (by omega)]; congr 1; omega
      · rw [if_neg z]
        by_cases z2 : 16 * u ≤ j ∧ j < 16 * u + r
        · rw [if_pos z2, if_pos (by omega)]
        · rw [if_neg z2, if_neg (by omega)]
end G4
