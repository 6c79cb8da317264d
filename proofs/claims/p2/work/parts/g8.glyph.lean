/-! A glyph is sent, on both sides. -/
def glA (a : Nat) : Bool := decide (31 ≤ a) && decide (a ≤ 34)
def glN (a : Nat) : Bool := decide (139 ≤ a) && decide (a ≤ 142)
section G8
variable {c c' c0 c1 c2 c3 m m' m0 m1 m2 m3 T : Mm} {d w b A o M o' n p r q a i s f k u h rb t v : Nat} {F : Nat → Nat} {ov ov' ng sg : Bool} {g L : Nat → Int32} {Gc Gm : Gty} {PF QF : Nat → Nat → Bool} {PA QA : Nat → Bool}
def five (B B' : Nat → Int32) (s : Nat) (x0 x1 x2 x3 x4 : Int32) : Prop := B' (5 * s) = x0 ∧ B' (5 * s + 1) = x1 ∧ B' (5 * s + 2) = x2 ∧ B' (5 * s + 3) = x3 ∧ B' (5 * s + 4) = x4 ∧ ∀ j, (j < 5 * s ∨ 5 * s + 5 ≤ j) → B' j = B j
theorem five_of {x0 x1 x2 x3 x4 : Int32} {a : Nat} : five (gA T a) (gA (uA (uA (uA (uA (uA T a (5 * s) x0) a (5 * s + 1) x1) a (5 * s + 2) x2) a (5 * s + 3) x3) a (5 * s + 4) x4) a) s x0 x1 x2 x3 x4 := by
  refine ⟨?_, ?_, ?_, ?_, ?_, fun j hj => ?_⟩
  · rw [gA_one, if_neg (by omega), gA_one, if_neg (by omega), gA_one, if_neg (by omega), gA_one, if_neg (by omega), gA_one, if_pos rfl]
  · rw [gA_one, if_neg (by omega), gA_one, if_neg (by omega), gA_one, if_neg (by omega), gA_one, if_pos rfl]
  · rw [gA_one, if_neg (by omega), gA_one, if_neg (by omega), gA_one, if_pos rfl]
  · rw [gA_one, if_neg (by omega), gA_one, if_pos rfl]
  · rw [gA_one, if_pos rfl]
  · rw [gA_one, if_neg (by omega), gA_one, if_neg (by omega), gA_one, if_neg (by omega), gA_one, if_neg (by omega), gA_one, if_neg (by omega)]
theorem c_heads {x0 x1 x2 x3 x4 : Int32} (hs : s < 494) : ∃ T', f_X2_setHead (nI s) x0 x1 x2 x3 x4 T = some ((), T') ∧ Fr nF (fun a => a == 33) T T' ∧ five (gA T 33) (gA T' 33) s x0 x1 x2 x3 x4 := by
  have ix5 : ∀ {α : Type} {j : Nat} (K : Nat → Option α), j < 5 → ix (nI (5 * s) + nI j) 2470 K = K (5 * s + j) := fun {α j} K hj => by rw [nI_add, ix_in (j := 5 * s + j) (nI_pos (by omega)) (nI_clamp (by omega)) (by omega)]
  refine ⟨_, ?_, ((((Fr.refl.uA _ _ (by rfl)).uA _ _ (by rfl)).uA _ _ (by rfl)).uA _ _ (by rfl)).uA _ _ (by rfl), five_of⟩
  unfold f_X2_setHead
  rw [show nI s * 5 = nI (5 * s) by rw [show nI s * 5 = nI (s * 5) from pk_mul s 5, Nat.mul_comm], lb_eq, if_neg (nI_pos (by omega)), show nI (5 * s) + 5 = nI (5 * s + 5) from nI_add _ 5, if_neg (show ¬ (2470 : Int32) < nI (5 * s + 5) from nI_nlt (a := 2470) (by omega) (by omega)), show (0 : Int32) = nI 0 from rfl, ix5 _ (by omega), lb_eq, show (1 : Int32) = nI 1 from rfl, ix5 _ (by omega), lb_eq, show (2 : Int32) = nI 2 from rfl, ix5 _ (by omega), lb_eq, show (3 : Int32) = nI 3 from rfl, ix5 _ (by omega), lb_eq, show (4 : Int32) = nI 4 from rfl, ix5 _ (by omega), lb_eq]
  rfl
theorem m_204 {at' adv : Nat} (hd : d ≤ 3) (hs : s < 400) (ha : at' < 4096) (h4 : DT c m d A o M o' n F p a) (h6 : 6 ≤ a) (e139 : gA m 139 at' = nI s) : ∃ m', f_X12_glyphData_204 (nI w) (nI h) (nI adv) (nI rb) (nI at') m = f_X12_glyphData_l284 FU (nI w) (nI h) (nI rb) (nI s) 0 m' ∧ Fr nF (fun a => a == 141) m m' ∧ five (gA m 141) (gA m' 141) s ((nI (F (p + 0))).toInt8.toInt32) ((nI (F (p + 1))).toInt8.toInt32) (nI w) (nI h) (nI adv) := by
  have ix5 : ∀ {α : Type} {j : Nat} (K : Nat → Option α), j < 5 → ix (nI (5 * s) + nI j) 2000 K = K (5 * s + j) := fun {α j} K hj => by rw [nI_add, ix_in (j := 5 * s + j) (nI_pos (by omega)) (nI_clamp (by omega)) (by omega)]
  have ix50 : ∀ {α : Type} (K : Nat → Option α), ix (nI (5 * s)) 2000 K = K (5 * s) := fun K => ix_in (j := 5 * s) (nI_pos (by omega)) (nI_clamp (by omega)) (by omega)
  obtain ⟨m1, hm1⟩ : ∃ m1, m1 = uA m 141 (5 * s) ((nI (F (p + 0))).toInt8.toInt32) := ⟨_, rfl⟩
  have f1 : Fr nF (fun a => a == 141) m m1 := by rw [hm1]; exact Fr.refl.uA _ _ (by rfl)
  have d1 : DT c m1 d A o M o' n F p a := h4.fr (Fr.refl (PF := nF) (PA := noA)) f1 (fun _ => rfl) ⟨rfl, rfl⟩ ⟨rfl, rfl, rfl⟩ ⟨rfl, rfl⟩
  have s0 := m_sign1 h4 hd (i := 0) (by omega)
  have s1 := m_sign1 d1 hd (i := 1) (by omega)
  refine ⟨uA (uA (uA (uA m1 141 (5 * s + 1) ((nI (F (p + 1))).toInt8.toInt32)) 141 (5 * s + 2) (nI w)) 141 (5 * s + 3) (nI h)) 141 (5 * s + 4) (nI adv), ?_, (((f1.uA _ _ (by rfl)).uA _ _ (by rfl)).uA _ _ (by rfl)).uA _ _ (by rfl), by rw [hm1]; exact five_of⟩
  unfold f_X12_glyphData_204
  rw [ix_in (j := at') (nI_pos (by omega)) (nI_clamp (by omega)) ha, e139, lb_eq, show (0 : Int32) = nI 0 from rfl, s0, bd_eq, show (5 : Int32) * nI s = nI (5 * s) from pk_mul 5 s, ix50, lb_eq, ← hm1, show (1 : Int32) = nI 1 from rfl, s1, bd_eq, ix5 _ (by omega), lb_eq, show (2 : Int32) = nI 2 from rfl, ix5 _ (by omega), lb_eq, show (3 : Int32) = nI 3 from rfl, ix5 _ (by omega), lb_eq, show (4 : Int32) = nI 4 from rfl, ix5 _ (by omega), lb_eq]
theorem i8_b {x : Int32} : -128 ≤ (x.toInt8.toInt32).toInt ∧ (x.toInt8.toInt32).toInt ≤ 127 := by
  rw [Int8.toInt_toInt32]
  have h1 := Int8.le_toInt x.toInt8
  have h2 := Int8.toInt_lt x.toInt8
  omega
/-- the place known, the glyph is written -/
theorem two_glyph {at' adv : Nat} (hr : RR d ov c m) (h4 : DT c m d A o M o' n F p a) (gt : GT c1 m1) (fc : Fr cGF cGA c c1) (fm : Fr mGF mGA m m1) (gr : ∀ j, 4096 ≤ j → gA c1 31 j = gA c 31 j) (nt : ∀ f k, f < 16 → k < 256 → gA m 136 f = 0 → gA m1 139 (256 * f + k) = -1) (hs : s < 400) (ha : at' < 4096) (e139 : gA m1 139 at' = nI s) (w1 : 1 ≤ w) (w2 : w ≤ 32) (h1 : 1 ≤ h) (h2 : h ≤ 32) (hrb : rb = (w + 7) / 8) (hadv : adv ≤ 7200) (hin : 6 + h * rb ≤ a) : P2 (bd (f_X5_dataByte (125 + d) 0 c1) fun v12 T13 => bd (f_X5_dataByte (125 + d) 1 T13) fun v14 T15 => bd (f_X2_setHead (nI s) ((v12).toInt8.toInt32) ((v14).toInt8.toInt32) (nI w) (nI h) (nI adv) T15) fun _ T16 => f_X2_sendGlyph_l133 FU (125 + d) (nI w) (nI h) (nI rb) (nI s) 0 T16) (f_X12_glyphData_204 (nI w) (nI h) (nI adv) (nI rb) (nI at') m1) (fun _ c' _ m' => OU d ov c m c' m') := by
  have hd := hr.d3
  have d1 : DT c1 m1 d A o M o' n F p a := h4.fr fc fm (fun f => by unfold cGF; simp; omega) ⟨rfl, rfl⟩ ⟨rfl, rfl, rfl⟩ ⟨rfl, rfl⟩
  have x0 := c_data1 d1 (i := 0) (by omega)
  have x1 := c_data1 d1 (i := 1) (by omega)
  obtain ⟨c2, y1, y2, y3⟩ := c_heads (T := c1) (s := s) (x0 := (nI (F (p + 0))).toInt8.toInt32) (x1 := (nI (F (p + 1))).toInt8.toInt32) (x2 := nI w) (x3 := nI h) (x4 := nI adv) (by omega)
  obtain ⟨m2, z1, z2, z3⟩ := m_204 (w := w) (h := h) (rb := rb) (adv := adv) hd hs ha d1 (by omega) e139
  have d2 : DT c2 m2 d A o M o' n F p a := d1.fr y2 z2 (fun _ => rfl) ⟨rfl, rfl⟩ ⟨rfl, rfl, rfl⟩ ⟨rfl, rfl⟩
  obtain ⟨c3, u1, u2, u3⟩ := c_l133g (w := w) hs d2 hin (by omega) h2 FU 0 c2 (FU_gt (by omega)) (by omega) Fr.refl (fun j => by rw [if_neg (by omega)])
  obtain ⟨m3, v1, v2, v3⟩ := m_l284 (w := w) hd hs d2 hin (by omega) h2 FU 0 m2 (FU_gt (by omega)) (by omega) Fr.refl (fun j => by rw [if_neg (by omega)])
  have u1' : f_X2_sendGlyph_l133 FU (125 + d) (nI w) (nI h) (nI rb) (nI s) 0 c2 = some ((), c3) := u1
  have v1' : f_X12_glyphData_l284 FU (nI w) (nI h) (nI rb) (nI s) 0 m2 = some ((), m3) := v1
  rw [show (0 : Int32) = nI 0 from rfl, x0, bd_eq, show (1 : Int32) = nI 1 from rfl, x1, bd_eq, y1, bd_eq, z1]
  have i0 : nI 0 = (0 : Int32) := rfl
  rw [i0, u1', v1']
  have c33 : gA c3 33 = gA c2 33 := u2.a rfl
  have m141 : gA m3 141 = gA m2 141 := v2.a rfl
  have c33' : gA c1 33 = gA c 33 := fc.a rfl
  have m141' : gA m1 141 = gA m 141 := fm.a rfl
  have c34 : gA c2 34 = gA c 34 := (y2.a rfl).trans (fc.a rfl)
  have m142 : gA m2 142 = gA m 142 := (z2.a rfl).trans (fm.a rfl)
  obtain ⟨a0, a1, a2, a3, a4, a5⟩ := y3
  obtain ⟨b0, b1, b2, b3, b4, b5⟩ := z3
  have gc3 : Fr nF (fun a => a == 33 || a == 34) c1 c3 := (y2.weak (fun _ _ e => e) (fun a e => by revert e; simp; omega)).trans (u2.weak (fun _ _ e => e) (fun a e => by revert e; simp))
  have gm3 : Fr nF (fun a => a == 141 || a == 142) m1 m3 := (z2.weak (fun _ _ e => e) (fun a e => by revert e; simp; omega)).trans (v2.weak (fun _ _ e => e) (fun a e => by revert e; simp))
  have fcA : Fr fF9 fA9 c c3 := (fc.weak (fun f i e => by unfold fF9 at e; unfold cGF; revert e; simp; intro e; simp [e]) (fun a e => by unfold fA9 at e; unfold cGA; revert e; simp; omega)).trans (gc3.weak (fun _ _ _ => rfl) (fun a e => by unfold fA9 at e; revert e; simp; omega))
  have fmA : Fr mGF fN9 m m3 := (fm.weak (fun _ _ e => e) (fun a e => by unfold fN9 at e; unfold mGA; revert e; simp; omega)).trans (gm3.weak (fun _ _ _ => rfl) (fun a e => by unfold fN9 at e; revert e; simp; omega))
  have e29 : gA c3 29 = gA c 29 := (gc3.a rfl).trans (fc.a rfl)
  have e30 : gA c3 30 = gA c 30 := (gc3.a rfl).trans (fc.a rfl)
  have e136 : gA m3 136 = gA m 136 := (gm3.a rfl).trans (fm.a rfl)
  have e137 : gA m3 137 = gA m 137 := (gm3.a rfl).trans (fm.a rfl)
  have e138 : gA m3 138 = gA m 138 := (gm3.a rfl).trans (fm.a rfl)
  have ft := hr.ft
  refine P2_ret (OU.fts hr fcA fmA (FT_mk ?_ ?_ ?_ ?_ ?_ ?_ ?_ ?_ ?_ ?_ ?_ ?_ ?_ ?_ ?_ ?_ ?_) (KA_mk ?_ ?_))
  · unfold SV; rw [e29, e136, e137]; exact ft.sh
  · rw [e136]; exact ft.rs
  · rw [e30, e138]; exact ft.nm
  · rw [e138]; exact ft.nb
  · rw [e138]; exact ft.n0
  · rw [e138]; exact ft.hp
  · rw [gc3.a rfl, gm3.a rfl, gm3.a rfl]; exact gt.gl
  · rw [gm3.a rfl]; exact gt.ij
  · intro j hj
    rw [gc3.a rfl, gr _ (by omega)]; exact ft.gr j hj
  · rw [gc3.a rfl, gm3.a rfl]; exact gt.tk
  · rw [gm3.a rfl, gm3.i rfl]; exact gt.ct
  · intro j hj
    rw [c33, m141]
    by_cases y : j < 5 * s ∨ 5 * s + 5 ≤ j
    · rw [a5 j y, b5 j y, c33', m141']; exact ft.hd j hj
    · rcases (show j = 5 * s ∨ j = 5 * s + 1 ∨ j = 5 * s + 2 ∨ j = 5 * s + 3 ∨ j = 5 * s + 4 by omega) with rfl | rfl | rfl | rfl | rfl
      · rw [a0, b0]
      · rw [a1, b1]
      · rw [a2, b2]
      · rw [a3, b3]
      · rw [a4, b4]
  · intro s' hs'
    rw [m141]
    by_cases y : s' = s
    · subst y
      rw [b0, b1, b2, b3, b4, nI_toInt (by omega), nI_toInt (by omega), nI_toInt (by omega)]
      exact ⟨i8_b, i8_b, by omega, by omega, by omega⟩
    · rw [b5 _ (by omega), b5 _ (by omega), b5 _ (by omega), b5 _ (by omega), b5 _ (by omega), m141']
      exact ft.hb s' hs'
  · intro s' h1' h2'
    rw [c33, a5 _ (by omega), a5 _ (by omega), a5 _ (by omega), a5 _ (by omega), a5 _ (by omega), c33']
    exact ft.hr s' h1' h2'
  · intro s' r i hs' hr' hi' l1 l2
    rw [m141] at l1 l2 ⊢
    rw [u3, v3, c34, m142]
    by_cases y : s' = s
    · subst y
      rw [b3, nI_toInt (by omega)] at l1
      rw [b2, nI_toInt (by omega)] at l2 ⊢
      rw [if_pos (by omega), if_pos (by omega), show ((w : Int)).toNat = w from rfl]
      exact row_eq h4.1.g w1 w2 hrb (by omega)
    · rw [b5 _ (by omega), m141'] at l1
      rw [b5 _ (by omega), m141'] at l2 ⊢
      rw [if_neg (by omega), if_neg (by omega)]
      exact ft.rw s' r i hs' hr' hi' l1 l2
  · intro f k k1 k2 k3
    rw [e136] at k3
    rw [gm3.a rfl]; exact nt f k k1 k2 k3
  · intro j r i j1 j2 j3 j4
    rw [u3, if_neg (by omega), c34]; exact ft.rr j r i j1 j2 j3 j4
  · rw [gc3.i rfl, fc.i rfl]; exact hr.ka.b
  · have t1 : thC c3 = thC c := by unfold thC; rw [e29]
    have t2 : nmC c3 = nmC c := by unfold nmC; rw [e30]
    rw [gc3.i rfl, gc3.i rfl, fc.i rfl, fc.i rfl, t1, t2, gc3.a (show (35 == 33 || 35 == 34) = false from rfl), fc.a (show cGA 35 = false from rfl)]
    exact hr.ka.v
end G8
