/-! A value is read and gone through, on both sides. -/
section I5
variable {c c' c0 c1 c2 c3 m m' m0 m1 m2 m3 T T' M' : Mm} {d w b A o M o' n p r q a i s f k u h rb t v kd gp : Nat} {F : Nat → Nat} {ov ov' ng sg z : Bool} {g L : Nat → Int32} {Gc Gm : Gty} {PF QF : Nat → Nat → Bool} {PA QA : Nat → Bool}
def rdN (f i : Nat) : Bool := rdM f i && !(f == 1233)
theorem vF_rd {f i : Nat} (z : rdF d f i = false) : vF d f i = false := by
  unfold rdF at z; unfold vF
  cases y : (i == 125 + d)
  · rfl
  · rw [y] at z
    have := (Bool.or_eq_false_iff.mp z).2
    simp at this
    rw [Bool.true_and]
    by_cases e : f = 500
    · subst e; rfl
    · have := this e
      subst this; rfl
theorem pF_rd {f i : Nat} (z : rdF d f i = false) : pF d f i = false := by
  unfold rdF at z; unfold pF
  obtain ⟨z1, z2⟩ := Bool.or_eq_false_iff.mp z
  rw [z1, Bool.false_or]
  cases y : (i == 125 + d)
  · rfl
  · rw [y] at z2
    simp at z2
    rw [Bool.true_and]
    by_cases e : f = 500
    · subst e; rfl
    · have := z2 e
      subst this; rfl
theorem NMs.vf (h : NMs c d q) (f : Fr (vF d) noA c c1) : NMs c1 d q := by
  have hd := h.2.2.2.2.2
  have e : ∀ f i, i ≠ 125 + d → vF d f i = false := fun f i z => by
    unfold vF
    have : (i == 125 + d) = false := by simpa using z
    rw [this, Bool.false_and]
  exact ⟨(f.i (e _ _ (by omega))).trans h.1, h.2.1, (f.i (e _ _ (by omega))).trans h.2.2.1, (f.i (e _ _ (by omega))).trans h.2.2.2.1, (f.r (e _ _ (by omega))).trans h.2.2.2.2.1, hd⟩
theorem mvH_rd {f i : Nat} (z : rdN f i = false) : mvH f i = false := by
  cases y : mvH f i
  · rfl
  · unfold mvH at y
    have : i = 133 ∧ (f = 1227 ∨ f = 1232 ∨ f = 1251 ∨ f = 1253 ∨ f = 1254) := by simpa [or_assoc] using y
    obtain ⟨rfl, rfl | rfl | rfl | rfl | rfl⟩ := this <;> exact absurd z (by decide)
theorem mvJ_rd {f i : Nat} (z : rdM f i = false) : mvJ f i = false := by
  cases y : mvJ f i
  · rfl
  · unfold mvJ at y
    have : i = 133 ∧ (f = 1227 ∨ f = 1232 ∨ f = 1233 ∨ f = 1251 ∨ f = 1253 ∨ f = 1254) := by simpa [or_assoc] using y
    obtain ⟨rfl, rfl | rfl | rfl | rfl | rfl | rfl⟩ := this <;> exact absurd z (by decide)
theorem rdN_M {f i : Nat} (z : rdM f i = false) : rdN f i = false := by unfold rdN; rw [z]; rfl
/-- the value stands on both sides, or there is much -/
theorem val_out (h : RR d ov c m) (S : SRC c m d A o M o' n F) (hn : n ≤ 24000) (P : PO c m d o o' p) (hp : p ≤ n) : ∃ c1 c2 m2, f_X5_readValue (125 + d) c = some (nI (vE F n p - p), c1) ∧ f_X12_readValue m = some ((), m2) ∧ Fr (rdF d) noA c c2 ∧ (∀ f, (f < 505 ∨ f = 506 ∨ f = 511 ∨ f = 512) → f ≠ 501 → gI c2 f (125 + d) = gI c f (125 + d)) ∧ ((f_X9_passEach (nI (vE F n p - p)) c1 = some (1, c2) ∧ Fr rdN noA m m2 ∧ RR d ov c2 m2 ∧ PO c2 m2 d o o' (vE F n p) ∧ VL c2 m2 d (vW F n p) (vBq F n p) (decide (bs F n p = 45)) (decide (bs F n p = 45 ∨ bs F n p = 43))) ∨ (f_X9_passEach (nI (vE F n p - p)) c1 = some (0, c2) ∧ Fr rdM noA m m2 ∧ MU d ov c2 m2 ∧ ∃ p', gI m2 1227 133 = nI (o' + p') ∧ p' ≤ n)) := by
  have hd := h.d3
  obtain ⟨q, nms, q1, q2⟩ := h.nms
  have hq := nms.2.1
  have hE1 := vS_le S.g hp
  have hE2 := vD_le S.g hp
  have hE3 := vE_le S.g hp
  obtain ⟨c1, x1, x2, x3, x4, x5, x6⟩ := c_value S P.1 (by omega) hp
  have n1 := nms.vf x2
  have e501 : gI c1 501 (125 + d) = nI (o + p) := (x2.i (by unfold vF; simp)).trans P.1
  obtain ⟨c2, y1, y2, y3, y4⟩ := c_passEach (r := vE F n p - p) n1 e501 (by omega)
  obtain ⟨k1, k2⟩ := m_value S hd (by omega) hp P.2 q2 q1 hq
  have fc : Fr (rdF d) noA c c2 := (x2.weak (fun f i z => vF_rd z) (fun _ z => z)).trans (y2.weak (fun f i z => pF_rd z) (fun _ z => z))
  have keep : ∀ f, (f < 505 ∨ f = 506 ∨ f = 511 ∨ f = 512) → f ≠ 501 → gI c2 f (125 + d) = gI c f (125 + d) := fun f hf hf2 => by
    rw [y2.i (by unfold pF; simp; omega), x2.i (by unfold vF; simp; omega)]
  have pv : ∀ f, f ≠ 501 → gI c2 f (125 + d) = gI c1 f (125 + d) := fun f hf => y2.i (by unfold pF; simp; omega)
  by_cases z : q + (vE F n p - p) ≤ 60000
  · obtain ⟨m2, v1, v2, v3, v4, v5, v6, v7⟩ := k1 z
    have fm : Fr rdN noA m m2 := v2.weak (fun f i z => mvH_rd z) (fun _ z => z)
    have w1 : vW F n p ≤ 32767 := wv_le _ _ _ (by omega)
    have w2 : vBq F n p ≤ 9999 := by
      unfold vBq
      split
      · exact fvq_le _ _ _ _ (by show 0 ≤ lim 0; omega)
      · omega
    refine ⟨c1, c2, m2, x1, v1, fc, keep, Or.inl ⟨by rw [y1, decide_eq_true z]; rfl, fm, h.red fc fm (y3 z).1 v3 z, ⟨?_, v4⟩, w1, w2, (pv _ (by decide)).trans x3, (pv _ (by decide)).trans x4, (pv _ (by decide)).trans x5, (pv _ (by decide)).trans x6, v5, v6, v7⟩⟩
    rw [(y3 z).2]; congr 1; omega
  · obtain ⟨m2, p', v1, v2, v3, v4, v5⟩ := k2 (by omega)
    have fm : Fr rdM noA m m2 := v2.weak (fun f i z => mvJ_rd z) (fun _ z => z)
    exact ⟨c1, c2, m2, x1, v1, fc, keep, Or.inr ⟨by rw [y1, decide_eq_false z]; rfl, fm, h.ovr fc fm (y4 (by omega)) (by omega) (by omega) v3, p', v4, v5⟩⟩
/-- one byte more -/
theorem byte_out (h : RR d ov c m) (S : SRC c m d A o M o' n F) (P : PO c m d o o' p) (hp : p < n) : ∃ c1 m1, Fr (rdF d) noA c c1 ∧ (∀ f, f ≠ 501 → gI c1 f (125 + d) = gI c f (125 + d)) ∧ ((f_X9_pass 1 c = some (1, c1) ∧ f_X12_next m = some (nI (F p), m1) ∧ Fr nxF noA m m1 ∧ RR d ov c1 m1 ∧ PO c1 m1 d o o' (p + 1)) ∨ (f_X9_pass 1 c = some (0, c1) ∧ f_X12_next m = some (0, m1) ∧ Fr cn3 noA m m1 ∧ MU d ov c1 m1 ∧ gI m1 1227 133 = nI (o' + p))) := by
  have hd := h.d3
  obtain ⟨q, nms, q1, q2⟩ := h.nms
  have hq := nms.2.1
  obtain ⟨c1, y1, y2, y3, y4⟩ := c_pass (r := 1) nms P.1 (by omega)
  have y1' : f_X9_pass 1 c = some (cI (decide (q + 1 ≤ 60000)), c1) := y1
  obtain ⟨k1, k2⟩ := m_next S hd P.2 hp q2 q1 hq
  have fc : Fr (rdF d) noA c c1 := y2.weak (fun f i z => pF_rd z) (fun _ z => z)
  have pv : ∀ f, f ≠ 501 → gI c1 f (125 + d) = gI c f (125 + d) := fun f hf => y2.i (by unfold pF; simp; omega)
  by_cases z : q < 60000
  · obtain ⟨m1, v1, v2, v3, v4⟩ := k1 z
    refine ⟨c1, m1, fc, pv, Or.inl ⟨by rw [y1', decide_eq_true (by omega)]; rfl, v1, v2, h.red fc (v2.weak (fun f i z => by
      unfold nxF
      cases y : (i == 133 && (f == 1227 || f == 1232))
      · rfl
      · have : i = 133 ∧ (f = 1227 ∨ f = 1232) := by simpa using y
        obtain ⟨rfl, rfl | rfl⟩ := this <;> exact absurd z (by decide)) (fun _ z => z)) y3 v3 (by omega), ⟨by rw [y4]; rfl, v4⟩⟩⟩
  · obtain ⟨m1, v1, v2, v3⟩ := k2 (by omega)
    refine ⟨c1, m1, fc, pv, Or.inr ⟨by rw [y1', decide_eq_false (by omega)]; rfl, v1, v2, h.ovr fc (v2.weak (fun f i z => by
      unfold cn3
      cases y : (i == 133 && (f == 1232 || f == 1233))
      · rfl
      · have : i = 133 ∧ (f = 1232 ∨ f = 1233) := by simpa using y
        obtain ⟨rfl, rfl | rfl⟩ := this <;> exact absurd z (by decide)) (fun _ z => z)) y3 (by omega) (by omega) v3, (v2.i (by rfl)).trans P.2⟩⟩
end I5
