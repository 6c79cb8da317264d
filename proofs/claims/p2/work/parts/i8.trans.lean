/-! Bytes shown as they are, on both sides. -/
section I8
variable {c c' c0 c1 c2 c3 m m' m0 m1 m2 m3 T T' M' : Mm} {d w b A o M o' n p p1 r q a i s f k u h rb t v kd gp L : Nat} {F : Nat → Nat} {ov ov' ng sg z sm wt e : Bool} {g : Nat → Int32} {Gc Gm : Gty} {PF QF : Nat → Nat → Bool} {PA QA : Nat → Bool}
/-- what going through bytes leaves: at a later byte, or there is much -/
def TX (d : Nat) (ov : Bool) (o o' n p : Nat) (c m c' m' : Mm) : Prop := ((RR d ov c' m' ∧ gI c' 503 (125 + d) = gI c 503 (125 + d) ∧ ∃ p', p ≤ p' ∧ p' ≤ n ∧ PO c' m' d o o' p') ∨ MU d ov c' m') ∧ KX d ov c m c' m' ∧ (ov = true → gA m' 134 0 = gA m 134 0 ∧ gA m' 134 1 = gA m 134 1)
theorem TX.ox (h : TX d ov o o' n p c m c' m') : OX d ov c m c' m' := ⟨h.1.imp (fun x => x.1) id, h.2⟩
theorem TX.pre (k : KX d ov c m c1 m1) (e : ov = true → gA m1 134 0 = gA m 134 0 ∧ gA m1 134 1 = gA m 134 1) (s5 : gI c1 503 (125 + d) = gI c 503 (125 + d)) (hp : p ≤ p1) (h : TX d ov o o' n p1 c1 m1 c' m') : TX d ov o o' n p c m c' m' := by
  refine ⟨?_, k.trans h.2.1, fun z => ⟨(h.2.2 z).1.trans (e z).1, (h.2.2 z).2.trans (e z).2⟩⟩
  rcases h.1 with ⟨x, x5, p', y1, y2, y3⟩ | x
  · exact Or.inl ⟨x, x5.trans s5, p', by omega, y2, y3⟩
  · exact Or.inr x
theorem TX.mu (h : MU d ov c' m') (k : KX d ov c m c' m') (e : ov = true → gA m' 134 0 = gA m 134 0 ∧ gA m' 134 1 = gA m 134 1) : TX d ov o o' n p c m c' m' := ⟨Or.inr h, k, e⟩
theorem TX.at (h : RR d ov c' m') (P : PO c' m' d o o' p1) (hp : p ≤ p1) (hn : p1 ≤ n) (k : KX d ov c m c' m') (e : ov = true → gA m' 134 0 = gA m 134 0 ∧ gA m' 134 1 = gA m 134 1) (s5 : gI c' 503 (125 + d) = gI c 503 (125 + d)) : TX d ov o o' n p c m c' m' := ⟨Or.inl ⟨h, s5, p1, hp, hn, P⟩, k, e⟩
theorem TX.ow (h : OW d ov c m c' m') (hd : d ≤ 3) (P : PO c m d o o' p1) (hp : p ≤ p1) (hn : p1 ≤ n) : TX d ov o o' n p c m c' m' := by
  refine ⟨?_, h.2.1.kx, h.2.2⟩
  rcases h.1 with x | x
  · exact Or.inl ⟨x, h.2.1.ri hd _, p1, hp, hn, P.kw hd h.2.1⟩
  · exact Or.inr x
theorem rdM_e {i : Nat} (fm : Fr rdM noA m m') : gA m' 134 i = gA m 134 i := by rw [fm.a rfl]
theorem c_hm : ∃ x : Int32, f_X5_hasMore i c = some (x, c) := by
  unfold f_X5_hasMore
  by_cases y : gI c 502 i ≤ gI c 501 i
  · exact ⟨0, by rw [if_pos y]⟩
  · exact ⟨1, by rw [if_neg y]⟩
theorem m_hm (h : gI m 1233 133 = 1) : f_X12_hasMore m = some (0, m) := by
  unfold f_X12_hasMore
  rw [h, if_neg (show ¬ (1 : Int32) = 0 by decide), ite_self]
theorem MU.sEnd (h : MU d ov c m) {N : Nat} {t : Int32} : f_X9_showAll_l9 Gc (N + 1) (125 + d) 0 t c = some ((), c) := by
  obtain ⟨x, hx⟩ := c_hm (i := 125 + d) (c := c)
  show f_X9_showAll_b9 Gc (f_X9_showAll_l9 Gc N) (125 + d) 0 t c = _
  unfold f_X9_showAll_b9
  rw [if_pos (show (0 : Int32) = 0 from rfl), hx, bd_eq, h.wc.mu, bd_eq, if_neg (show ¬ (1 : Int32) = 0 by decide), ite_self, ite_self]
theorem MU.tEnd (h : MU d ov c m) {N : Nat} : f_X12_transparent_l0 Gm (N + 1) m = some ((), m) := by
  show f_X12_transparent_b0 Gm (f_X12_transparent_l0 Gm N) m = _
  unfold f_X12_transparent_b0
  rw [m_hm h.m1, bd_eq, if_pos rfl]
/-- one byte shown as it is -/
noncomputable def shC (G : Gty) (a4 : Int32) (T : Mm) : Option (Unit × Mm) := if a4 = 13 then (bd (f_X9_carriageReturn T) fun _ T4 => bd (f_X9_line G (gI T4 708 46) T4) fun _ T5 => f_X9_show G a4 T5) else f_X9_show G a4 T
theorem P2_shown {k : Nat} (hk : k < 256) (h : RR d ov c m) (gs : GS Gc Gm d) : P2 (shC Gc (nI k) c) (f_X12_shown Gm (nI k) m) (fun _ c' _ m' => OU d ov c m c' m') := by
  unfold shC f_X12_shown
  have s28 : ∀ {c m : Mm}, RR d ov c m → P2 (f_X9_show Gc (nI k) c) (f_X12_shown_28 Gm (nI k) m) (fun _ c' _ m' => OU d ov c m c' m') := fun {c m} h => by
    obtain ⟨q, nms, q1, q2⟩ := h.nms
    unfold f_X12_shown_28
    rw [if_pos q2, bd_u]
    exact P2_show hk h gs
  by_cases y : k = 13
  · rw [if_pos (show nI k = 13 by rw [y]; rfl), if_pos (show nI k = 13 by rw [y]; rfl)]
    obtain ⟨c2, m2, e1, e2, e3⟩ := two_cr h
    have rr := h.env e3.fc e3.fm e3.v e3.b e3.e0 e3.e1
    have ou := OU.env h e3
    obtain ⟨w, w1, w2⟩ := rr.eb.k6
    rw [e1, e2, bd_eq, bd_eq, show gI c2 708 46 = nI w from (rr.ev.i (708, 1, 6) (by decide)).trans w1, w1]
    refine P2_bd (P2_mono (P2_line w2 rr gs) (fun _ _ _ _ z => OU.pre ou.2.1 ou.2.2 z)) ?_
    rintro _ c3 _ m3 ou3
    rcases ou3.1 with r3 | u3
    · exact P2_mono (s28 r3) (fun _ _ _ _ z => OU.pre ou3.2.1 ou3.2.2 z)
    · unfold f_X12_shown_28
      rw [if_neg (by rw [u3.m1]; decide)]
      obtain ⟨_, c4, e4, e5⟩ := u_show (k := k) hk u3 gs
      rw [e4]
      exact P2_ret (ou3.muc e5)
  · rw [if_neg (show ¬ nI k = 13 from nI_ne hk (by decide) y), if_neg (show ¬ nI k = 13 from nI_ne hk (by decide) y)]
    exact s28 h
theorem c_66 {k9 : Nat → Int32 → Int32 → Mm → Option (Unit × Mm)} {a3 a4 : Int32} (e : f_X9_pass 1 c = some (1, c1)) : f_X9_showAll_66 Gc k9 i a3 a4 0 c = bd (shC Gc a4 c1) fun _ T => k9 i 0 (a3 + 1) T := by
  unfold f_X9_showAll_66 shC
  rw [if_pos rfl, e, bd_eq, if_neg (show ¬ (1 : Int32) = 0 by decide)]
  by_cases y : a4 = 13
  · rw [if_pos y, if_pos y, bd_as]
    congr 1; funext _ T4
    rw [bd_as]
  · rw [if_neg y, if_neg y]
theorem P2_trans (gs : GS Gc Gm d) (hn : n ≤ 24000) : ∀ (N N' p t : Nat) (c m : Mm), n - p + 1 < N → n - p + 1 < N' → t + (n - p) < 1000000 → p ≤ n → RR d ov c m → SRC c m d A o M o' n F → PO c m d o o' p → P2 (f_X9_showAll_l9 Gc N (125 + d) 0 (nI t) c) (f_X12_transparent_l0 Gm N' m) (fun _ c' _ m' => TX d ov o o' n p c m c' m') := by
  intro N
  induction N with
  | zero => intro N' p t c m h; omega
  | succ N ih =>
    intro N' p t c m hN hN' ht hp h S P
    obtain ⟨N, rfl⟩ : ∃ N0, N = N0 + 1 := ⟨N - 1, by omega⟩
    obtain ⟨N', rfl⟩ : ∃ N0, N' = N0 + 1 + 1 := ⟨N' - 2, by omega⟩
    have hd := h.d3
    have s1 := S.n1
    have s2 := S.n2 hd
    obtain ⟨q, nms, q1, q2⟩ := h.nms
    have hq := nms.2.1
    show P2 (f_X9_showAll_b9 Gc (f_X9_showAll_l9 Gc (N + 1)) (125 + d) 0 (nI t) c) (f_X12_transparent_b0 Gm (f_X12_transparent_l0 Gm (N' + 1)) m) _
    unfold f_X9_showAll_b9 f_X12_transparent_b0
    rw [if_neg (show ¬ (1000000 : Int32) ≤ nI t from nI_ge (b := 1000000) (by omega) (by omega)), if_pos rfl, c_more S P.1 (by omega), bd_eq, m_more S hd P.2 (by omega) q2, bd_eq]
    by_cases y : p < n
    case neg =>
      rw [decide_eq_false y, if_pos (show cI false = 0 from rfl), if_pos (show cI false = 0 from rfl)]
      exact P2_ret (TX.at h P (Nat.le_refl _) hp KX.refl (fun _ => ⟨rfl, rfl⟩) rfl)
    rw [decide_eq_true y, if_neg (show ¬ cI true = 0 by decide), if_neg (show ¬ cI true = 0 by decide), nm_of nms, bd_eq, if_pos rfl, c_next S P.1 (by omega), bd_eq, m_peek S hd P.2 (by omega), bd_eq, show bs F n p = nI (F p) from if_pos y]
    have hx := S.g p
    -- the byte shown
    have hB : P2 (f_X9_showAll_66 Gc (f_X9_showAll_l9 Gc (N + 1)) (125 + d) (nI t) (nI (F p)) 0 c) (f_X12_transparent_67 Gm (f_X12_transparent_l0 Gm (N' + 1)) m) (fun _ c' _ m' => TX d ov o o' n p c m c' m') := by
      obtain ⟨c3, m3, gc, gk, hh⟩ := byte_out h S P y
      rcases hh with ⟨u1, u2, u3, hR3, hP3⟩ | ⟨u1, u2, u3, hM3, _⟩
      · have gm : Fr rdM noA m m3 := u3.weak (fun f i z => nx_rd z) (fun _ z => z)
        have kx : KX d ov c m c3 m3 := KX.rd gc gm
        obtain ⟨q3, nms3, _, v3⟩ := hR3.nms
        rw [c_66 u1]
        unfold f_X12_transparent_67
        rw [u2, bd_eq, if_pos v3]
        refine P2_bd (P2_shown hx hR3 gs) ?_
        rintro _ c4 _ m4 ou
        have k4 : KX d ov c3 m3 c4 m4 := ou.2.1.kw.kx
        have s5 : gI c4 503 (125 + d) = gI c 503 (125 + d) := (ou.2.1.kw.ri hd _).trans (gk _ (by omega))
        rcases ou.1 with r4 | u4
        · rw [show nI t + 1 = nI (t + 1) from nI_add _ 1]
          refine P2_mono (ih (N' + 1) (p + 1) (t + 1) c4 m4 (by omega) (by omega) (by omega) (by omega) r4 ((S.kx hd kx).kx hd k4) (hP3.kw hd ou.2.1.kw)) (fun _ _ _ _ z => TX.pre (kx.trans k4) (fun z => ⟨(ou.2.2 z).1.trans (rdM_e gm), (ou.2.2 z).2.trans (rdM_e gm)⟩) s5 (Nat.le_succ _) z)
        · rw [u4.sEnd, u4.tEnd]
          exact P2_ret (TX.mu u4 (kx.trans k4) (fun z => ⟨(ou.2.2 z).1.trans (rdM_e gm), (ou.2.2 z).2.trans (rdM_e gm)⟩))
      · have gm : Fr rdM noA m m3 := u3.weak (fun f i z => cn_rd z) (fun _ z => z)
        unfold f_X9_showAll_66 f_X12_transparent_67
        rw [if_pos rfl, u1, bd_eq, if_pos rfl, u2, bd_eq, if_neg (by rw [hM3.m1]; decide), hM3.sEnd, hM3.tEnd]
        exact P2_ret (TX.mu hM3 (KX.rd gc gm) (fun _ => ⟨rdM_e gm, rdM_e gm⟩))
    by_cases y27 : F p = 27
    case neg =>
      rw [if_neg (show ¬ nI (F p) = 27 from nI_ne hx (by decide) y27), if_neg (show ¬ nI (F p) = 27 from nI_ne hx (by decide) y27)]
      exact hB
    rw [if_pos (show nI (F p) = 27 by rw [y27]; rfl), if_pos (show nI (F p) = 27 by rw [y27]; rfl), S.e2, P.2, P.1, show nI (o + p) + 1 = nI (o + (p + 1)) from nI_add _ 1, show nI (o' + p) + 1 = nI (o' + (p + 1)) from nI_add _ 1, c_byteAt S (by omega), bd_eq]
    by_cases y1 : p + 1 < n
    case neg =>
      rw [show bs F n (p + 1) = -1 from if_neg y1, if_neg (show ¬ (-1 : Int32) = 90 by decide), if_pos (nI_le (by omega) (by omega))]
      exact hB
    have hx1 := S.g (p + 1)
    have hraw : gA m M (o' + (p + 1)) = 90 ↔ F (p + 1) = 90 := by
      have f1 := S.f (p + 1) y1
      have f2 := S.y (p + 1) y1
      constructor
      · intro e
        rw [e] at f1
        exact ((nI_eq (a := 90) (b := F (p + 1)) (by omega) (by omega)).mp f1).symm
      · intro e
        rw [e] at f1
        exact (byt_ext f2 (show byt 90 from byt_i8 90)).mp (f1.trans (by decide))
    rw [show bs F n (p + 1) = nI (F (p + 1)) from if_pos y1, if_neg (nI_ge (by omega) (by omega)), S.r2, ix_in (j := o' + (p + 1)) (nI_pos (by omega)) (nI_clamp (by omega)) (by omega)]
    by_cases y90 : F (p + 1) = 90
    case neg =>
      rw [if_neg (show ¬ nI (F (p + 1)) = 90 from nI_ne hx1 (by decide) y90), if_neg (fun e => y90 (hraw.mp e))]
      exact hB
    rw [if_pos (show nI (F (p + 1)) = 90 by rw [y90]; rfl), if_pos (hraw.mpr y90)]
    -- the end of it
    obtain ⟨c3, a1, a2, a3, a4⟩ := c_passEach (r := 2) nms P.1 (by omega)
    have gc : Fr (rdF d) noA c c3 := a2.weak (fun f i z => pF_rd z) (fun _ z => z)
    have s5 : gI c3 503 (125 + d) = gI c 503 (125 + d) := a2.i (by unfold pF; simp)
    have eC : f_X9_showAll_66 Gc (f_X9_showAll_l9 Gc (N + 1)) (125 + d) (nI t) (nI (F p)) 1 c = some ((), c3) := by
      unfold f_X9_showAll_66
      rw [if_neg (show ¬ (1 : Int32) = 0 by decide), show (2 : Int32) = nI 2 from rfl, a1, bd_eq]
      show f_X9_showAll_b9 Gc (f_X9_showAll_l9 Gc N) (125 + d) 1 (nI t + 1) c3 = _
      unfold f_X9_showAll_b9
      rw [if_neg (show ¬ (1 : Int32) = 0 by decide), ite_self]
    rw [eC]
    obtain ⟨k1, k2⟩ := m_next S hd P.2 y q2 q1 hq
    by_cases z : q < 60000
    · obtain ⟨m1, v1, v2, v3, v4⟩ := k1 z
      have g1 : Fr rdM noA m m1 := v2.weak (fun f i z => nx_rd z) (fun _ z => z)
      have v5 : gI m1 1233 133 = 0 := (v2.i (by rfl)).trans q2
      rw [v1, bd_eq, if_pos v5]
      have S1 := S.mf v2 ⟨rfl, rfl⟩
      obtain ⟨l1, l2⟩ := m_next S1 hd v4 y1 v5 v3 (by omega)
      by_cases z2 : q + 1 < 60000
      · obtain ⟨m2, w1, w2, w3, w4⟩ := l1 z2
        rw [w1, bd_eq]
        have fm : Fr nxF noA m m2 := v2.trans w2
        have g2 : Fr rdM noA m m2 := fm.weak (fun f i z => nx_rd z) (fun _ z => z)
        refine P2_ret (TX.at (p1 := p + 1 + 1) (h.red gc (fm.weak (fun f i z => ?_) (fun _ z => z)) (a3 (by omega)).1 w3 (by omega)) ⟨(a3 (by omega)).2, w4⟩ (by omega) (by omega) (KX.rd gc g2) (fun _ => ⟨rdM_e g2, rdM_e g2⟩) s5)
        unfold nxF
        cases y : (i == 133 && (f == 1227 || f == 1232))
        · rfl
        · have : i = 133 ∧ (f = 1227 ∨ f = 1232) := by simpa using y
          obtain ⟨rfl, rfl | rfl⟩ := this <;> exact absurd z (by decide)
      · obtain ⟨m2, w1, w2, w3⟩ := l2 (by omega)
        rw [w1, bd_eq]
        have g2 : Fr rdM noA m m2 := g1.trans (w2.weak (fun f i z => cn_rd z) (fun _ z => z))
        exact P2_ret (TX.mu (h.ovr gc g2 (a4 (by omega)) (by omega) (by omega) w3) (KX.rd gc g2) (fun _ => ⟨rdM_e g2, rdM_e g2⟩))
    · obtain ⟨m1, v1, v2, v3⟩ := k2 (by omega)
      have g2 : Fr rdM noA m m1 := v2.weak (fun f i z => cn_rd z) (fun _ z => z)
      rw [v1, bd_eq, if_neg (by rw [v3]; decide)]
      exact P2_ret (TX.mu (h.ovr gc g2 (a4 (by omega)) (by omega) (by omega) v3) (KX.rd gc g2) (fun _ => ⟨rdM_e g2, rdM_e g2⟩))
end I8
