/-! The ends of the loops; telling a macro as a field. -/
section J0
variable {c c' c0 c1 c2 c3 m m' m0 m1 m2 m3 T T' M' : Mm} {d w b A o M o' n p p1 r q a i s f k u h rb t v kd gp L N : Nat} {F : Nat → Nat} {ov ov' ng sg z sm wt e : Bool} {g : Nat → Int32} {Gc Gm : Gty} {PF QF : Nat → Nat → Bool} {PA QA : Nat → Bool}
theorem MU.gEnd (h : MU d ov c m) {t : Int32} : f_X9_goThrough_l60 Gc (N + 1) (125 + d) t c = some ((), c) := by
  obtain ⟨x, hx⟩ := c_hm (i := 125 + d) (c := c)
  show f_X9_goThrough_b60 Gc (f_X9_goThrough_l60 Gc N) (125 + d) t c = _
  unfold f_X9_goThrough_b60
  rw [hx, bd_eq, h.wc.mu, bd_eq, if_neg (show ¬ (1 : Int32) = 0 by decide), ite_self, ite_self]
theorem m_rEnd (h : gI m 1233 133 = 1) : f_X12_run_l0 Gm (N + 1) m = some ((), m) := by
  show f_X12_run_b0 Gm (f_X12_run_l0 Gm N) m = _
  unfold f_X12_run_b0
  rw [m_hm h, bd_eq, if_pos rfl]
theorem c_gStop (S : SRC c m d A o M o' n F) (e : gI c 501 (125 + d) = nI (o + n)) (hn : n ≤ 24000) {t : Int32} : f_X9_goThrough_l60 Gc (N + 1) (125 + d) t c = some ((), c) := by
  show f_X9_goThrough_b60 Gc (f_X9_goThrough_l60 Gc N) (125 + d) t c = _
  unfold f_X9_goThrough_b60
  rw [c_more S e (by omega), decide_eq_false (by omega), bd_eq, if_pos (show cI false = 0 from rfl), ite_self]
theorem m_rStop (S : SRC c m d A o M o' n F) (hd : d ≤ 3) (e : gI m 1227 133 = nI (o' + n)) (hn : n ≤ 24000) (h0 : gI m 1233 133 = 0) : f_X12_run_l0 Gm (N + 1) m = some ((), m) := by
  show f_X12_run_b0 Gm (f_X12_run_l0 Gm N) m = _
  unfold f_X12_run_b0
  rw [m_more S hd e (by omega) h0, decide_eq_false (by omega), bd_eq, if_pos (show cI false = 0 from rfl)]
theorem esc_1 {x y : Int32} : f_X12_escape_l99 Gm (N + 1) x y 0 m = some ((), m) := by
  show f_X12_escape_b99 Gm (f_X12_escape_l99 Gm N) x y 0 m = _
  unfold f_X12_escape_b99
  rw [if_pos rfl]
/-- the reference's sequence at the end of its bytes -/
theorem esc_end {x y : Int32} (h : RR d ov c m) (S : SRC c m d A o M o' n F) (hn : n ≤ 24000) (P : PO c m d o o' n) : ∃ m2, f_X12_escape_l99 Gm (N + 1) x y 1 m = some ((), m2) ∧ RR d ov c m2 ∧ Fr rdM noA m m2 ∧ PO c m2 d o o' n := by
  have hd := h.d3
  obtain ⟨q, nms, q1, q2⟩ := h.nms
  have hq := nms.2.1
  have hE1 := vS_le (n := n) (p := n) S.g (Nat.le_refl _)
  have hE2 := vD_le (n := n) (p := n) S.g (Nat.le_refl _)
  have hE3 := vE_le (n := n) (p := n) S.g (Nat.le_refl _)
  have e0 : vE F n n = n := by omega
  obtain ⟨k1, _⟩ := m_value S hd (by omega) (Nat.le_refl n) P.2 q2 q1 hq
  rw [e0] at k1
  obtain ⟨m2, v1, v2, v3, v4, _⟩ := k1 (by omega)
  have g0 : gI m2 1233 133 = 0 := (v2.i (by rfl)).trans q2
  have fm : Fr rdM noA m m2 := v2.weak (fun f i z => mvH_rd (rdN_M z)) (fun _ z => z)
  have S2 : SRC c m2 d A o M o' n F := S.kx (ov := ov) hd (KX.rd Fr.refl fm)
  refine ⟨m2, ?_, h.gone0 (Fr.refl (PF := gcF)) (v2.weak (fun f i z => ?_) (fun _ z => z)) rfl (by rw [v3, q1]; congr 1; omega), fm, P.1, v4⟩
  · show f_X12_escape_b99 Gm (f_X12_escape_l99 Gm N) x y 1 m = _
    unfold f_X12_escape_b99
    rw [if_neg (by decide), v1, bd_eq, m_peek S2 hd v4 (by omega), bd_eq, if_pos g0, show bs F n n = -1 from if_neg (by omega), if_pos (by decide)]
  · cases y : mvH f i
    · rfl
    · unfold mvH at y
      have : i = 133 ∧ (f = 1227 ∨ f = 1232 ∨ f = 1251 ∨ f = 1253 ∨ f = 1254) := by simpa [or_assoc] using y
      obtain ⟨rfl, rfl | rfl | rfl | rfl | rfl⟩ := this <;> exact absurd z (by decide)
def TE (ov : Bool) (o o' n p : Nat) (c m c' m' : Mm) : Prop := ((RR 0 ov c' m' ∧ ∃ p', p ≤ p' ∧ p' ≤ n ∧ PO c' m' 0 o o' p') ∨ MU 0 ov c' m') ∧ KX 0 ov c m c' m' ∧ gI c' 506 (125 + 0) = 1 ∧ (ov = true → gA m' 134 0 = gA m 134 0 ∧ gA m' 134 1 = gA m 134 1) ∧ gI m' 1252 133 = 1
theorem P2_obeyTell (h : RR 0 ov c m) (S : SRC c m 0 A o M o' n F) (hM : M = 152) (P : PO c m 0 o o' p) (hp : p ≤ n) (v : VL c m 0 w b ng sg) (h3 : gI c 503 (125 + 0) = nI 38) (h4 : gI c 504 (125 + 0) = nI 102) (h5 : gI c 505 (125 + 0) = nI 88) (n0 : iz (vz w ng) = 0) : P2 (f_X9_obey Gc c) (f_X12_field Gm (nI 38) (nI 102) (nI 88) m) (fun _ c' _ m' => TE ov o o' n p c m c' m') := by
  obtain ⟨u, u0, u1⟩ := h.eb.k145
  have e119 : gI c 119 45 = nI u := (h.ev.i (119, 0, 145) (by decide)).trans u0
  have eC : (nI 38 <<< ((8 : Int32) &&& 31)) ||| nI 102 = nI (38 * 256 + 102) := two_n (by omega) (by omega)
  unfold f_X9_obey
  simp only [rd_eq h, h3, h4, h5, v.n, bd_eq, bd_u]
  rw [lb_eq, eC]
  unfold f_X12_field
  rw [if_neg (show ¬ nI (38 * 256 + 102) = 9825 by decide), if_pos (show nI (38 * 256 + 102) = 9830 from rfl), if_pos (show nI 38 = 38 from rfl), if_neg (show ¬ nI 102 = 108 by decide), if_neg (show ¬ nI 102 = 97 by decide), if_neg (show ¬ nI 102 = 107 by decide), if_neg (show ¬ nI 102 = 115 by decide), if_pos (show nI 102 = 102 from rfl), bd_u, c_mac88 h h5, m_mac88]
  unfold f_X9_macroTask f_X12_macroAct
  rw [if_pos n0, h.d1, if_pos (show nI 0 = 0 from rfl), bd_u, e119, u0, lb_eq (a := nI u), v.nm, if_pos n0, h.im, if_pos (show cI (decide (0 < 0)) = 0 by decide)]
  obtain ⟨_, c', _, m2, e1, e2, td⟩ := P2_tell h S hM P hp (show u < 16 by omega)
  rw [e1, e2, bd_eq, lb_eq]
  obtain ⟨m3, hm3⟩ : ∃ m3, m3 = uI m2 1252 133 1 := ⟨_, rfl⟩
  rw [← hm3]
  have f3 : Fr (fun f i => i == 133 && f == 1252) noA m2 m3 := by rw [hm3]; exact Fr.refl.uI _ (by rfl)
  have fg : Fr gmF noA m2 m3 := by rw [hm3]; exact Fr.refl.uI _ (by rfl)
  have fh : Fr gmG noA m2 m3 := by rw [hm3]; exact Fr.refl.uI _ (by rfl)
  have e34 : gA m3 134 = gA m 134 := (f3.a rfl).trans td.2.2.2.2
  refine P2_ret ⟨?_, td.2.1.trans (KX.b0 f3 (fun z => absurd z (by decide))), td.2.2.1, fun _ => by rw [e34]; exact ⟨rfl, rfl⟩, by rw [hm3, gI_uI, if_pos ⟨rfl, rfl⟩]⟩
  rcases td.1 with ⟨x, p', y1, y2, y3⟩ | x
  · exact Or.inl ⟨x.gone0 (Fr.refl (PF := gcF)) fg rfl (f3.i (by rfl)), p', y2, y3, y1.1, (f3.i (by rfl)).trans y1.2⟩
  · exact Or.inr (x.read (Fr.refl (PF := gcF)) fh rfl ((f3.i (by rfl)).trans x.m1))
end J0
