/-! Bytes are counted as they are gone through, on both sides. -/
def pF (d : Nat) (f i : Nat) : Bool := (i == 23 && f == 916) || (i == 125 + d && f == 501)
def nxF (f i : Nat) : Bool := i == 133 && (f == 1227 || f == 1232)
def cn3 (f i : Nat) : Bool := i == 133 && (f == 1232 || f == 1233)
def NMs (c : Mm) (d q : Nat) : Prop := gI c 916 23 = nI q ∧ q ≤ 60000 ∧ gI c 5 24 = 0 ∧ gI c 603 5 = 0 ∧ gR c 913 23 = some (125 + d) ∧ d ≤ 3
section F6
variable {c c' c0 c1 c2 c3 m m' m0 m1 m2 m3 T : Mm} {d w b A o M o' n p r q a : Nat} {F : Nat → Nat} {ov ov' ng sg : Bool} {g L : Nat → Int32} {Gc Gm : Gty} {PF QF : Nat → Nat → Bool} {PA QA : Nat → Bool}
theorem nm_of (h : NMs c d q) : f_X9_isMuch c = some (0, c) := by
  obtain ⟨h1, h2, h3, h4, _⟩ := h
  unfold f_X9_isMuch
  rw [h1, if_neg (show ¬ (60000 : Int32) < nI q from nI_nlt (a := 60000) (by omega) (by omega)), h3, if_pos rfl, h4, if_pos rfl]
theorem RR.nms (h : RR d ov c m) : ∃ q, NMs c d q ∧ gI m 1232 133 = nI q ∧ gI m 1233 133 = 0 := by
  obtain ⟨q, q1, q2, q3⟩ := h.gn
  obtain ⟨k, v, hcv⟩ := h.cv
  exact ⟨q, ⟨q1, q3, hcv.u, h.sh.z.1, h.rd, h.d3⟩, q2, h.sh.z.2⟩
theorem NMs.rd {γ : Type} (h : NMs c d q) {K : Nat → Option γ} : rf true (gR c 913 23) 5 K = K (125 + d) := rf_eq h.2.2.2.2.1 (rd_k h.2.2.2.2.2)
theorem c_pass (h : NMs c d q) (e : gI c 501 (125 + d) = nI a) (hr : r ≤ 60000) : ∃ c', f_X9_pass (nI r) c = some (cI (decide (q + r ≤ 60000)), c') ∧ Fr (pF d) noA c c' ∧ gI c' 916 23 = nI (q + r) ∧ gI c' 501 (125 + d) = nI (a + r) := by
  have hq := h.2.1
  obtain ⟨c1, hc1⟩ : ∃ c1, c1 = uI (uI c 916 23 (nI (q + r))) 501 (125 + d) (nI (a + r)) := ⟨_, rfl⟩
  have x1 : Fr (pF d) noA c c1 := by rw [hc1]; exact (Fr.refl.uI _ (by rfl)).uI _ (by unfold pF; simp)
  have x2 : gI c1 916 23 = nI (q + r) := by rw [hc1, gI_uI, if_neg (by omega), gI_uI, if_pos ⟨rfl, rfl⟩]
  have x3 : gI c1 501 (125 + d) = nI (a + r) := by rw [hc1, gI_uI, if_pos ⟨rfl, rfl⟩]
  have y5 : gI c1 5 24 = 0 := (x1.i (by unfold pF; simp)).trans h.2.2.1
  have y6 : gI c1 603 5 = 0 := (x1.i (by unfold pF; simp)).trans h.2.2.2.1
  refine ⟨c1, ?_, x1, x2, x3⟩
  unfold f_X9_pass
  rw [nm_of h, bd_eq, if_pos rfl, lb_eq, show gR (uI c 916 23 (gI c 916 23 + nI r)) 913 23 = gR c 913 23 from rfl, h.rd, lb_eq, h.1, nI_add, show gI (uI c 916 23 (nI (q + r))) 501 (125 + d) = nI a by rw [gI_uI, if_neg (by omega)]; exact e, nI_add, ← hc1]
  by_cases z : q + r ≤ 60000
  · have : NMs c1 d (q + r) := ⟨x2, z, y5, y6, (x1.r (by unfold pF; simp)).trans h.2.2.2.2.1, h.2.2.2.2.2⟩
    rw [nm_of this, bd_eq, if_pos rfl, decide_eq_true z]; rfl
  · rw [mu_of (Or.inl ⟨q + r, x2, by omega, by omega⟩), bd_eq, if_neg (by decide), decide_eq_false z]; rfl
theorem NMs.fr {q' : Nat} (h : NMs c d q) (f : Fr (pF d) noA c c') (e : gI c' 916 23 = nI q') (hq : q' ≤ 60000) : NMs c' d q' := ⟨e, hq, (f.i (by unfold pF; simp)).trans h.2.2.1, (f.i (by unfold pF; simp)).trans h.2.2.2.1, (f.r (by unfold pF; simp)).trans h.2.2.2.2.1, h.2.2.2.2.2⟩
theorem c_each (hr : r ≤ 30000) : ∀ (N i : Nat) (T : Mm), r - i < N → i ≤ r → NMs T d (q + i) → gI T 501 (125 + d) = nI (a + i) → Fr (pF d) noA c T → ∃ c', f_X9_passEach_l4 N (nI r) 1 (nI i) T = some (cI (decide (q + r ≤ 60000)), c') ∧ Fr (pF d) noA c c' ∧ (q + r ≤ 60000 → gI c' 916 23 = nI (q + r) ∧ gI c' 501 (125 + d) = nI (a + r)) ∧ (60000 < q + r → gI c' 916 23 = nI 60001) := by
  intro N
  induction N with
  | zero => intro i T h; omega
  | succ N ih =>
    intro i T h1 h2 h3 h4 h5
    have hqi := h3.2.1
    show ∃ c', f_X9_passEach_b4 (f_X9_passEach_l4 N) (nI r) 1 (nI i) T = _ ∧ _
    unfold f_X9_passEach_b4
    by_cases z : i = r
    · subst z
      rw [if_pos (Int32.le_refl _), gd_eq (Or.inr rfl)]
      exact ⟨T, by rw [decide_eq_true hqi]; rfl, h5, fun _ => ⟨h3.1, h4⟩, fun y => by omega⟩
    · rw [if_neg (nI_ge (by omega) (by omega)), if_neg (by decide)]
      obtain ⟨c1, x1, x2, x3, x4⟩ := c_pass (r := 1) h3 h4 (by omega)
      rw [show (1 : Int32) = nI 1 from rfl, x1, bd_eq, nI_add]
      by_cases y : q + i + 1 ≤ 60000
      · rw [decide_eq_true y]
        exact ih (i + 1) c1 (by omega) (by omega) (h3.fr x2 x3 y) x4 (h5.trans x2)
      · rw [decide_eq_false y]
        cases N with
        | zero => omega
        | succ N =>
          have e0 : f_X9_passEach_l4 (N + 1) (nI r) (cI false) (nI (i + 1)) c1 = some (0, c1) := by
            show f_X9_passEach_b4 (f_X9_passEach_l4 N) (nI r) (cI false) (nI (i + 1)) c1 = _
            unfold f_X9_passEach_b4
            rw [if_pos (show cI false = 0 from rfl), gd_eq (show cI false = 0 ∨ cI false = 1 from Or.inl rfl), ite_self]; rfl
          rw [e0]
          refine ⟨c1, by rw [decide_eq_false (by omega)]; rfl, h5.trans x2, fun y2 => by omega, fun _ => ?_⟩
          rw [x3, show q + i + 1 = 60001 by omega]
theorem c_passEach (h : NMs c d q) (e : gI c 501 (125 + d) = nI a) (hr : r ≤ 30000) : ∃ c', f_X9_passEach (nI r) c = some (cI (decide (q + r ≤ 60000)), c') ∧ Fr (pF d) noA c c' ∧ (q + r ≤ 60000 → gI c' 916 23 = nI (q + r) ∧ gI c' 501 (125 + d) = nI (a + r)) ∧ (60000 < q + r → gI c' 916 23 = nI 60001) := by
  unfold f_X9_passEach
  exact c_each (a := a) (q := q) hr FU 0 c (FU_gt (by omega)) (by omega) h e Fr.refl
theorem m_count (h0 : gI m 1233 133 = 0) (h1 : gI m 1232 133 = nI q) (hq : q ≤ 60000) (hr : r ≤ 60000) : (q + r ≤ 60000 → ∃ m', f_X12_count (nI r) m = some ((), m') ∧ Fr (fun f i => i == 133 && f == 1232) noA m m' ∧ gI m' 1232 133 = nI (q + r)) ∧ (60000 < q + r → ∃ m', f_X12_count (nI r) m = some ((), m') ∧ Fr cn3 noA m m' ∧ gI m' 1233 133 = 1) := by
  have e0 : ∀ v, gI (uI m 1232 133 v) 1233 133 = 0 := fun v => by rw [gI_uI, if_neg (by decide)]; exact h0
  have e2 : gI (uI m 1232 133 (nI (q + r))) 1232 133 = nI (q + r) := by rw [gI_uI, if_pos ⟨rfl, rfl⟩]
  constructor
  · intro z
    refine ⟨uI (uI m 1232 133 (nI (q + r))) 1233 133 0, ?_, ?_, ?_⟩
    · unfold f_X12_count
      rw [lb_eq, h1, nI_add, e0, if_pos rfl, e2, if_pos (show nI (q + r) ≤ 60000 from nI_le (b := 60000) z (by omega)), lb_eq]
    · have f1 : Fr (fun f i => (i == 133 && f == 1232) || (f == 1233 && i == 133)) noA m (uI (uI m 1232 133 (nI (q + r))) 1233 133 0) := (Fr.refl.uI _ (by rfl)).uI _ (by rfl)
      exact Fr.fix f1 (by rw [gI_uI, if_pos ⟨rfl, rfl⟩, h0]) rfl rfl
    · rw [gI_uI, if_neg (by decide)]; exact e2
  · intro z
    refine ⟨uI (uI m 1232 133 (nI (q + r))) 1233 133 1, ?_, (Fr.refl.uI _ (by rfl)).uI _ (by rfl), by rw [gI_uI, if_pos ⟨rfl, rfl⟩]⟩
    unfold f_X12_count
    rw [lb_eq, h1, nI_add, e0, if_pos rfl, e2, if_neg (show ¬ nI (q + r) ≤ 60000 from nI_ge (a := 60000) z (by omega)), lb_eq]
theorem m_next (h : SRC c m d A o M o' n F) (hd : d ≤ 3) (e : gI m 1227 133 = nI (o' + p)) (hp : p < n) (h0 : gI m 1233 133 = 0) (h1 : gI m 1232 133 = nI q) (hq : q ≤ 60000) : (q < 60000 → ∃ m', f_X12_next m = some (nI (F p), m') ∧ Fr nxF noA m m' ∧ gI m' 1232 133 = nI (q + 1) ∧ gI m' 1227 133 = nI (o' + (p + 1))) ∧ (q = 60000 → ∃ m', f_X12_next m = some (0, m') ∧ Fr cn3 noA m m' ∧ gI m' 1233 133 = 1) := by
  have n2 := h.n2 hd
  obtain ⟨k1, k2⟩ := m_count (r := 1) h0 h1 hq (by omega)
  constructor
  · intro z
    obtain ⟨m1, x1, x2, x3⟩ := k1 (by omega)
    have y0 : gI m1 1233 133 = 0 := (x2.i (by rfl)).trans h0
    have yr : gR m1 1226 133 = gR m 1226 133 := x2.r (by rfl)
    have y7 : gI m1 1227 133 = nI (o' + p) := (x2.i (by rfl)).trans e
    refine ⟨uI m1 1227 133 (nI (o' + (p + 1))), ?_, (x2.weak (fun f i e => by unfold nxF at e; revert e; simp; omega) (fun _ e => e)).uI _ (by rfl), ?_, by rw [gI_uI, if_pos ⟨rfl, rfl⟩]⟩
    · unfold f_X12_next
      rw [show (1 : Int32) = nI 1 from rfl, x1, bd_eq, y0, if_pos rfl, yr, h.r2, y7, ix_in (j := o' + p) (nI_pos (by omega)) (nI_clamp (by omega)) (by omega), lb_eq, lb_eq, nI_add, show gA m1 M = gA m M from x2.a rfl, h.f p hp, Nat.add_assoc]
    · rw [gI_uI, if_neg (by decide)]; exact x3
  · intro z
    obtain ⟨m1, x1, x2, x3⟩ := k2 (by omega)
    refine ⟨m1, ?_, x2, x3⟩
    unfold f_X12_next
    rw [show (1 : Int32) = nI 1 from rfl, x1, bd_eq, x3, if_neg (by decide)]
end F6
