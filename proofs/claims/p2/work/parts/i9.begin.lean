/-! A sequence begins, on both sides. -/
section I9
variable {c c' c0 c1 c2 c3 m m' m0 m1 m2 m3 T T' M' : Mm} {d w b A o M o' n p p1 r q a i s f k u h rb t v kd gp L : Nat} {F : Nat → Nat} {ov ov' ng sg z sm wt e : Bool} {g : Nat → Int32} {Gc Gm : Gty} {PF QF : Nat → Nat → Bool} {PA QA : Nat → Bool}
theorem o_27 : f_X9_other Gc 27 c = f_X9_beginSequence Gc c := by
  unfold f_X9_other
  iterate 19 rw [if_neg (by decide)]
  rw [if_pos rfl, bd_u]
/-- two bytes, obeyed on both sides -/
theorem P2_pairs (h : RR d ov c m) (gs : GS Gc Gm d) (S : SRC c m d A o M o' n F) (hn : n ≤ 24000) (P : PO c m d o o' p) (hp : p ≤ n) (h0 : d = 0 → ov = false) (hk : k < 256) : P2 (f_X9_twoBytes Gc (nI k) c) (f_X12_pair Gm (nI k) m) (fun _ c' _ m' => TX d ov o o' n p c m c' m') := by
  have hd := h.d3
  by_cases q69 : k = 69
  · subst q69
    unfold f_X9_twoBytes f_X12_pair
    rw [if_neg (show ¬ nI 69 = 57 by decide), if_neg (show ¬ nI 69 = 61 by decide), if_pos (show nI 69 = 69 from rfl), if_pos (show nI 69 = 69 from rfl), h.d1, h.im]
    by_cases y : d = 0
    · subst y
      have := h0 rfl
      subst this
      rw [if_pos (show nI 0 = 0 from rfl), if_pos (show cI (decide (0 < 0)) = 0 by decide), bd_u]
      exact P2_mono (P2_reset9 h gs) (fun _ _ _ _ z => TX.ow z.ow hd P (Nat.le_refl _) hp)
    · rw [if_neg (nI_ne0 (by omega) (by omega)), decide_eq_true (show 0 < d by omega), if_neg (show ¬ cI true = 0 by decide)]
      exact P2_ret (TX.ow (OU.refl h).ow hd P (Nat.le_refl _) hp)
  by_cases q89 : k = 89
  · subst q89
    unfold f_X9_twoBytes f_X12_pair
    rw [if_neg (show ¬ nI 89 = 57 by decide), if_neg (show ¬ nI 89 = 61 by decide), if_neg (show ¬ nI 89 = 69 by decide), if_neg (show ¬ nI 89 = 69 by decide), if_neg (show ¬ nI 89 = 57 by decide), if_neg (show ¬ nI 89 = 61 by decide), if_pos (show nI 89 = 89 from rfl), if_pos (show nI 89 = 89 from rfl), bd_u, bd_u]
    unfold f_X9_showAll f_X12_transparent
    rw [rd_eq h]
    exact P2_trans gs hn FU FU p 0 c m (FU_gt (by omega)) (FU_gt (by omega)) (by omega) hp h S P
  · exact P2_mono (P2_two hk q69 q89 h gs) (fun _ _ _ _ z => TX.ow z.ow hd P (Nat.le_refl _) hp)
theorem esc_0 {x y : Int32} : f_X12_escape_l99 Gm FU x y 0 m = some ((), m) := by
  have e : ∀ N, f_X12_escape_l99 Gm (N + 1) x y 0 m = some ((), m) := fun N => by
    show f_X12_escape_b99 Gm (f_X12_escape_l99 Gm N) x y 0 m = _
    unfold f_X12_escape_b99
    rw [if_pos rfl]
  exact e 3999999999
theorem P2_begin (h : RR d ov c m) (gs : GS Gc Gm d) (S : SRC c m d A o M o' n F) (hn : n ≤ 24000) (P : PO c m d o o' p) (hp : p ≤ n) (h0 : d = 0 → ov = false) : P2 (f_X9_beginSequence Gc c) (f_X12_escape Gm m) (fun _ c' _ m' => TX d ov o o' n p c m c' m') ∨ ∃ c2 m2 kd gp p2, f_X9_beginSequence Gc c = some ((), c2) ∧ f_X12_escape Gm m = f_X12_escape_l99 Gm FU (nI kd) (nI gp) 1 m2 ∧ RR d ov c2 m2 ∧ Fr (rdF d) noA c c2 ∧ Fr rdM noA m m2 ∧ gI c2 503 (125 + d) = nI kd ∧ gI c2 504 (125 + d) = nI gp ∧ 0 < kd ∧ kd < 256 ∧ gp < 256 ∧ PO c2 m2 d o o' p2 ∧ p ≤ p2 ∧ p2 ≤ n := by
  have hd := h.d3
  obtain ⟨q, nms, q1, q2⟩ := h.nms
  have tx0 : TX d ov o o' n p c m c m := TX.at h P (Nat.le_refl _) hp KX.refl (fun _ => ⟨rfl, rfl⟩) rfl
  have ec : f_X9_beginSequence Gc c = (if bs F n p < 48 then f_X9_beginSequence_36 Gc (bs F n p) c else if 126 < bs F n p then f_X9_beginSequence_36 Gc (bs F n p) c else (bd (f_X9_pass 1 c) fun v5 T6 => if v5 = 0 then some ((), T6) else f_X9_twoBytes Gc (bs F n p) T6)) := by
    unfold f_X9_beginSequence
    rw [nms.rd, c_next S P.1 (by omega), bd_eq]
    simp only [bd_u]
  have em : f_X12_escape Gm m = (if bs F n p < 48 then f_X12_escape_35 Gm (bs F n p) m else if 126 < bs F n p then f_X12_escape_35 Gm (bs F n p) m else (bd (f_X12_next m) fun v3 T4 => if (gI T4 1233 133) = 0 then f_X12_pair Gm v3 T4 else some ((), T4))) := by
    unfold f_X12_escape
    rw [m_peek S hd P.2 (by omega), bd_eq]
    simp only [bd_u]
  rcases bs_cases F S.g n p with ⟨y0, eb⟩ | ⟨y0, eb⟩
  case inr =>
    left
    rw [ec, em, eb, if_pos (by decide), if_pos (by decide)]
    unfold f_X9_beginSequence_36 f_X12_escape_35
    rw [if_pos (by decide), if_pos (by decide)]
    exact P2_ret tx0
  have hx := S.g p
  rw [eb] at ec em
  have l48 : F p < 48 → nI (F p) < 48 := fun y => nI_lt (b := 48) y (by decide)
  have n48 : 48 ≤ F p → ¬ nI (F p) < 48 := fun y => nI_nlt (b := 48) y (by omega)
  have l33 : F p < 33 → nI (F p) < 33 := fun y => nI_lt (b := 33) y (by decide)
  have n33 : 33 ≤ F p → ¬ nI (F p) < 33 := fun y => nI_nlt (b := 33) y (by omega)
  have l126 : F p ≤ 126 → ¬ (126 : Int32) < nI (F p) := fun y => nI_nlt (a := 126) y (by decide)
  have n126 : 126 < F p → (126 : Int32) < nI (F p) := fun y => nI_lt (a := 126) y (by omega)
  have le47 : F p ≤ 47 → nI (F p) ≤ 47 := fun y => nI_le (b := 47) y (by decide)
  have nle47 : 47 < F p → ¬ nI (F p) ≤ 47 := fun y => nI_ge (a := 47) y (by omega)
  have l47 : F p ≤ 47 → ¬ (47 : Int32) < nI (F p) := fun y => nI_nlt (a := 47) y (by decide)
  have n47 : 47 < F p → (47 : Int32) < nI (F p) := fun y => nI_lt (a := 47) y (by omega)
  by_cases a1 : F p < 33
  · left
    rw [ec, em, if_pos (l48 (by omega)), if_pos (l48 (by omega))]
    unfold f_X9_beginSequence_36 f_X12_escape_35
    rw [if_pos (l33 a1), if_pos (l33 a1)]
    exact P2_ret tx0
  by_cases a3 : 126 < F p
  · left
    rw [ec, em, if_neg (n48 (by omega)), if_neg (n48 (by omega)), if_pos (n126 a3), if_pos (n126 a3)]
    unfold f_X9_beginSequence_36 f_X12_escape_35
    rw [if_neg (n33 (by omega)), if_neg (n33 (by omega)), if_pos (n47 (by omega)), if_neg (nle47 (by omega))]
    exact P2_ret tx0
  obtain ⟨c3, m3, gc, gk, hh⟩ := byte_out h S P y0
  by_cases a4 : 48 ≤ F p
  · left
    rw [ec, em, if_neg (n48 a4), if_neg (n48 a4), if_neg (l126 (by omega)), if_neg (l126 (by omega))]
    rcases hh with ⟨u1, u2, u3, hR3, hP3⟩ | ⟨u1, u2, u3, hM3, _⟩
    · have gm : Fr rdM noA m m3 := u3.weak (fun f i z => nx_rd z) (fun _ z => z)
      have kx : KX d ov c m c3 m3 := KX.rd gc gm
      obtain ⟨q3, nms3, _, v3⟩ := hR3.nms
      rw [u1, u2, bd_eq, bd_eq, if_neg (by decide), if_pos v3]
      exact P2_mono (P2_pairs hR3 gs (S.kx hd kx) hn hP3 (by omega) h0 hx) (fun _ _ _ _ z => TX.pre kx (fun _ => ⟨rdM_e gm, rdM_e gm⟩) (gk _ (by omega)) (by omega) z)
    · have gm : Fr rdM noA m m3 := u3.weak (fun f i z => cn_rd z) (fun _ z => z)
      rw [u1, u2, bd_eq, bd_eq, if_pos rfl, if_neg (by rw [hM3.m1]; decide)]
      exact P2_ret (TX.mu hM3 (KX.rd gc gm) (fun _ => ⟨rdM_e gm, rdM_e gm⟩))
  rw [if_pos (l48 (by omega))] at ec em
  unfold f_X9_beginSequence_36 at ec
  unfold f_X12_escape_35 at em
  rw [if_neg (n33 (by omega)), if_neg (l47 (by omega))] at ec
  rw [if_neg (n33 (by omega)), if_pos (le47 (by omega))] at em
  rcases hh with ⟨u1, u2, u3, hR3, hP3⟩ | ⟨u1, u2, u3, hM3, hM7⟩
  case inr =>
    left
    have gm : Fr rdM noA m m3 := u3.weak (fun f i z => cn_rd z) (fun _ z => z)
    have kx : KX d ov c m c3 m3 := KX.rd gc gm
    have S3 := S.kx hd kx
    rw [ec, em, u1, u2, bd_eq, bd_eq, if_pos rfl, m_peek S3 hd hM7 (by omega), bd_eq, eb, if_pos (show nI (F p) < 96 from nI_lt (b := 96) (by omega) (by decide))]
    unfold f_X12_escape_85
    rw [if_neg (by rw [hM3.m1]; decide), esc_0]
    exact P2_ret (TX.mu hM3 kx (fun _ => ⟨rdM_e gm, rdM_e gm⟩))
  have gm : Fr rdM noA m m3 := u3.weak (fun f i z => nx_rd z) (fun _ z => z)
  have kx : KX d ov c m c3 m3 := KX.rd gc gm
  have S3 := S.kx hd kx
  obtain ⟨q3, nms3, w3, v3⟩ := hR3.nms
  -- the class's letters
  obtain ⟨c4, hc4⟩ : ∃ c4, c4 = uI c3 503 (125 + d) (nI (F p)) := ⟨_, rfl⟩
  obtain ⟨c5, hc5⟩ : ∃ c5, c5 = uI c4 504 (125 + d) 0 := ⟨_, rfl⟩
  have f4 : Fr (oF d) noA c3 c4 := by rw [hc4]; exact Fr.refl.uI _ (by unfold oF; simp)
  have f5 : Fr (oF d) noA c4 c5 := by rw [hc5]; exact Fr.refl.uI _ (by unfold oF; simp)
  have g4 : Fr (rdF d) noA c3 c4 := by rw [hc4]; exact Fr.refl.uI _ (by unfold rdF; simp)
  have g5 : Fr (rdF d) noA c4 c5 := by rw [hc5]; exact Fr.refl.uI _ (by unfold rdF; simp)
  have n4 := nms3.ob f4
  have n5 := n4.ob f5
  have gc5 : Fr (rdF d) noA c3 c5 := g4.trans g5
  have e503 : gI c5 503 (125 + d) = nI (F p) := by rw [hc5, gI_uI, if_neg (by omega), hc4, gI_uI, if_pos ⟨rfl, rfl⟩]
  have e504 : gI c5 504 (125 + d) = nI 0 := by rw [hc5, gI_uI, if_pos ⟨rfl, rfl⟩]; rfl
  have e501 : gI c5 501 (125 + d) = gI c3 501 (125 + d) := by rw [hc5, gI_uI, if_neg (by omega), hc4, gI_uI, if_neg (by omega)]
  have e916 : gI c5 916 23 = gI c3 916 23 := by rw [hc5, gI_uI, if_neg (by omega), hc4, gI_uI, if_neg (by omega)]
  have hR5 : RR d ov c5 m3 := hR3.gone0 (gc5.weak (fun f i e => gc_rd hd e) (fun _ e => e)) Fr.refl e916 rfl
  have hP5 : PO c5 m3 d o o' (p + 1) := ⟨e501.trans hP3.1, hP3.2⟩
  have S5 : SRC c5 m3 d A o M o' n F := S3.kx (ov := ov) hd (KX.rd gc5 Fr.refl)
  rw [u1, bd_eq, if_neg (by decide), nms3.rd, lb_eq, ← hc4, n4.rd, lb_eq, ← hc5, n5.rd, c_next S5 hP5.1 (by omega), bd_eq] at ec
  rw [u2, bd_eq, m_peek S3 hd hP3.2 (by omega), bd_eq, m_peek S3 hd hP3.2 (by omega), bd_eq] at em
  have fin : f_X9_beginSequence Gc c = some ((), c5) → f_X12_escape Gm m = f_X12_escape_85 Gm (nI (F p)) 0 m3 → ∃ c2 m2 kd gp p2, f_X9_beginSequence Gc c = some ((), c2) ∧ f_X12_escape Gm m = f_X12_escape_l99 Gm FU (nI kd) (nI gp) 1 m2 ∧ RR d ov c2 m2 ∧ Fr (rdF d) noA c c2 ∧ Fr rdM noA m m2 ∧ gI c2 503 (125 + d) = nI kd ∧ gI c2 504 (125 + d) = nI gp ∧ 0 < kd ∧ kd < 256 ∧ gp < 256 ∧ PO c2 m2 d o o' p2 ∧ p ≤ p2 ∧ p2 ≤ n := fun x1 x2 => by
    refine ⟨c5, m3, F p, 0, p + 1, x1, ?_, hR5, gc.trans gc5, gm, e503, e504, by omega, hx, by omega, hP5, by omega, by omega⟩
    rw [x2]
    unfold f_X12_escape_85
    rw [if_pos v3]; rfl
  rcases bs_cases F S.g n (p + 1) with ⟨z0, eb1⟩ | ⟨z0, eb1⟩
  case inr =>
    rw [eb1, if_pos (by decide)] at ec em
    exact Or.inr (fin ec em)
  have hx1 := S.g (p + 1)
  rw [eb1] at ec em
  by_cases b1 : F (p + 1) < 96
  · have x1 : nI (F (p + 1)) < 96 := nI_lt (b := 96) b1 (by decide)
    rw [if_pos x1] at ec em
    exact Or.inr (fin ec em)
  have x1 : ¬ nI (F (p + 1)) < 96 := nI_nlt (b := 96) (by omega) (by omega)
  rw [if_neg x1] at ec em
  by_cases b2 : 126 < F (p + 1)
  · have x2 : (126 : Int32) < nI (F (p + 1)) := nI_lt (a := 126) b2 (by omega)
    rw [if_pos x2] at ec em
    exact Or.inr (fin ec em)
  have x2 : ¬ (126 : Int32) < nI (F (p + 1)) := nI_nlt (a := 126) (by omega) (by decide)
  rw [if_neg x2] at ec em
  rw [if_pos v3] at em
  obtain ⟨c6, m6, hc6, hk6, hh⟩ := byte_out hR5 S5 hP5 z0
  rcases hh with ⟨t1, t2, t3, hR6, hP6⟩ | ⟨t1, t2, t3, hM6, _⟩
  · right
    have hm : Fr rdM noA m3 m6 := t3.weak (fun f i z => nx_rd z) (fun _ z => z)
    obtain ⟨q6, nms6, _, v6⟩ := hR6.nms
    obtain ⟨c7, hc7⟩ : ∃ c7, c7 = uI c6 504 (125 + d) (nI (F (p + 1))) := ⟨_, rfl⟩
    have g7 : Fr (rdF d) noA c6 c7 := by rw [hc7]; exact Fr.refl.uI _ (by unfold rdF; simp)
    have k7 : ∀ f, f ≠ 504 → gI c7 f (125 + d) = gI c6 f (125 + d) := fun f hf => by rw [hc7, gI_uI, if_neg (fun y => hf y.1)]
    rw [t1, bd_eq, if_neg (by decide), nms6.rd, lb_eq, ← hc7] at ec
    rw [t2, bd_eq] at em
    refine ⟨c7, m6, F p, F (p + 1), p + 1 + 1, ec, ?_, hR6.gone0 (g7.weak (fun f i e => gc_rd hd e) (fun _ e => e)) Fr.refl (by rw [hc7, gI_uI, if_neg (by omega)]) rfl, ((gc.trans gc5).trans hc6).trans g7, gm.trans hm, ?_, by rw [hc7, gI_uI, if_pos ⟨rfl, rfl⟩], by omega, hx, hx1, ⟨(k7 _ (by omega)).trans hP6.1, hP6.2⟩, by omega, by omega⟩
    · rw [em]
      unfold f_X12_escape_85
      rw [if_pos v6]
    · rw [k7 _ (by omega), hk6 _ (by omega), e503]
  · left
    have hm : Fr rdM noA m3 m6 := t3.weak (fun f i z => cn_rd z) (fun _ z => z)
    rw [t1, bd_eq, if_pos rfl] at ec
    rw [t2, bd_eq] at em
    rw [ec, em]
    unfold f_X12_escape_85
    rw [if_neg (by rw [hM6.m1]; decide), esc_0]
    exact P2_ret (TX.mu hM6 (KX.rd ((gc.trans gc5).trans hc6) (gm.trans hm)) (fun _ => ⟨rdM_e (gm.trans hm), rdM_e (gm.trans hm)⟩))
end I9
