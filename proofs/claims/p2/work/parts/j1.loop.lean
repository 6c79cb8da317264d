/-! Going through bytes, on both sides. -/
section J1
variable {c c' c0 c1 c2 c3 m m' m0 m1 m2 m3 T T' M' : Mm} {d w b A o M o' n p p1 r q a i s f k u h rb t v kd gp L N : Nat} {F : Nat → Nat} {ov ov' ng sg z sm wt e : Bool} {g : Nat → Int32} {Gc Gm : Gty} {PF QF : Nat → Nat → Bool} {PA QA : Nat → Bool}
theorem OX.mu (h : MU d ov c' m') (k : KX d ov c m c' m') (e : ov = true → gA m' 134 0 = gA m 134 0 ∧ gA m' 134 1 = gA m 134 1) : OX d ov c m c' m' := ⟨Or.inr h, k, e⟩
/-- the letter of a sequence is forgotten -/
theorem zero_k (hd : d ≤ 3) : ∃ c1, uI c 503 (125 + d) 0 = c1 ∧ Fr (rdF d) noA c c1 ∧ (∀ f, f ≠ 503 → gI c1 f (125 + d) = gI c f (125 + d)) ∧ gI c1 503 (125 + d) = 0 ∧ gI c1 916 23 = gI c 916 23 :=
  ⟨_, rfl, Fr.refl.uI _ (by unfold rdF; simp), fun f hf => by rw [gI_uI, if_neg (fun y => hf y.1)], by rw [gI_uI, if_pos ⟨rfl, rfl⟩], by rw [gI_uI, if_neg (by omega)]⟩
theorem P2_loop (gs : GS Gc Gm d) (hd : d ≤ 3) (hn : n ≤ 24000) (h0 : d = 0 → ov = false) (hM : d = 0 → M = 152) : ∀ (N N' p t s : Nat) (c m : Mm), p ≤ n → s ≤ 1 → 2 * (n - p) + s + 1 < N → 2 * (n - p) + s + 1 < N' → t + 2 * (n - p) + s < 1000000 → RR d ov c m → SRC c m d A o M o' n F → PO c m d o o' p →
    (gI c 503 (125 + d) = 0 → P2 (f_X9_goThrough_l60 Gc N (125 + d) (nI t) c) (f_X12_run_l0 Gm N' m) (fun _ c' _ m' => OX d ov c m c' m')) ∧
    (∀ N2 kd gp, s = 1 → n - p + 2 < N2 → 0 < kd → kd < 256 → gp < 256 → gI c 503 (125 + d) = nI kd → gI c 504 (125 + d) = nI gp → P2 (f_X9_goThrough_l60 Gc N (125 + d) (nI t) c) (bd (f_X12_escape_l99 Gm N2 (nI kd) (nI gp) 1 m) fun _ T => f_X12_run_l0 Gm N' T) (fun _ c' _ m' => OX d ov c m c' m')) := by
  intro N
  induction N with
  | zero => intro N' p t s c m h1 h2 h3; omega
  | succ N ih =>
    intro N' p t s c m hp hs hN hN' ht h S P
    have s1 := S.n1
    have s2 := S.n2 hd
    obtain ⟨q, nms, q1, q2⟩ := h.nms
    have hq := nms.2.1
    have e34 : ∀ {m2 : Mm}, Fr rdM noA m m2 → (ov = true → gA m2 134 0 = gA m 134 0 ∧ gA m2 134 1 = gA m 134 1) := fun fm _ => ⟨rdM_e fm, rdM_e fm⟩
    by_cases y : p < n
    case neg =>
      have hpn : p = n := by omega
      subst hpn
      obtain ⟨N', rfl⟩ : ∃ N0, N' = N0 + 1 := ⟨N' - 1, by omega⟩
      refine ⟨fun _ => ?_, fun N2 kd gp _ h2 _ _ _ _ _ => ?_⟩
      · rw [c_gStop S P.1 hn, m_rStop S hd P.2 hn q2]
        exact P2_ret ⟨Or.inl h, KX.refl, fun _ => ⟨rfl, rfl⟩⟩
      · obtain ⟨N2, rfl⟩ : ∃ N0, N2 = N0 + 1 := ⟨N2 - 1, by omega⟩
        obtain ⟨m2, x1, x2, x3, x4⟩ := esc_end (Gm := Gm) (N := N2) (x := nI kd) (y := nI gp) h S hn P
        have kx : KX d ov c m c m2 := KX.rd Fr.refl x3
        obtain ⟨q', nms', _, q2'⟩ := x2.nms
        rw [x1, bd_eq, c_gStop S P.1 hn, m_rStop (S.kx hd kx) hd x4.2 hn q2']
        exact P2_ret ⟨Or.inl x2, kx, e34 x3⟩
    obtain ⟨N, rfl⟩ : ∃ N0, N = N0 + 1 := ⟨N - 1, by omega⟩
    -- what follows, with no letter
    have A0 : ∀ (N1 : Nat) (c4 m4 : Mm), MU d ov c4 m4 → KX d ov c m c4 m4 → (ov = true → gA m4 134 0 = gA m 134 0 ∧ gA m4 134 1 = gA m 134 1) → P2 (f_X9_goThrough_l60 Gc (N + 1) (125 + d) (nI t + 1) c4) (f_X12_run_l0 Gm (N1 + 1) m4) (fun _ c' _ m' => OX d ov c m c' m') := fun N1 c4 m4 mu kx e => by
      rw [mu.gEnd, m_rEnd mu.m1]
      exact P2_ret (OX.mu mu kx e)
    have A1 : ∀ (N1 : Nat) (c4 m4 : Mm) (p' : Nat), p' ≤ n → 2 * (n - p') + 1 < N + 1 → 2 * (n - p') + 1 < N1 → t + 1 + 2 * (n - p') < 1000000 → RR d ov c4 m4 → PO c4 m4 d o o' p' → KX d ov c m c4 m4 → (ov = true → gA m4 134 0 = gA m 134 0 ∧ gA m4 134 1 = gA m 134 1) → gI c4 503 (125 + d) = 0 → P2 (f_X9_goThrough_l60 Gc (N + 1) (125 + d) (nI t + 1) c4) (f_X12_run_l0 Gm N1 m4) (fun _ c' _ m' => OX d ov c m c' m') := fun N1 c4 m4 p' a1 a2 a3 a4 rr po kx e z5 => by
      rw [show nI t + 1 = nI (t + 1) from nI_add _ 1]
      exact P2_mono ((ih N1 p' (t + 1) 0 c4 m4 a1 (by omega) (by omega) (by omega) (by omega) rr (S.kx hd kx) po).1 z5) (fun _ _ _ _ w => OX.pre kx e w)
    have A3 : ∀ (N1 : Nat) (c4 m4 : Mm) (p0 : Nat), 2 * (n - p0) + 1 < N + 1 → 2 * (n - p0) + 1 < N1 → t + 1 + 2 * (n - p0) < 1000000 → ((RR d ov c4 m4 ∧ ∃ p', p0 ≤ p' ∧ p' ≤ n ∧ PO c4 m4 d o o' p') ∨ MU d ov c4 m4) → KX d ov c m c4 m4 → (ov = true → gA m4 134 0 = gA m 134 0 ∧ gA m4 134 1 = gA m 134 1) → P2 (lb (uI c4 503 (125 + d) 0) fun T10 => f_X9_goThrough_l60 Gc (N + 1) (125 + d) (nI t + 1) T10) (f_X12_run_l0 Gm N1 m4) (fun _ c' _ m' => OX d ov c m c' m') := fun N1 c4 m4 p0 a2 a3 a4 hh kx e => by
      obtain ⟨c5, e5, f5, g5, z5, w5⟩ := zero_k (c := c4) hd
      rw [lb_eq, e5]
      have k5 : KX d ov c m c5 m4 := kx.trans (KX.rd f5 Fr.refl)
      have fg : Fr gcF noA c4 c5 := f5.weak (fun f i e => gc_rd hd e) (fun _ e => e)
      obtain ⟨N1, rfl⟩ : ∃ N0, N1 = N0 + 1 := ⟨N1 - 1, by omega⟩
      rcases hh with ⟨rr, p', y1, y2, y3⟩ | mu
      · exact A1 (N1 + 1) c5 m4 p' y2 (by omega) (by omega) (by omega) (rr.gone0 fg Fr.refl w5 rfl) ⟨(g5 _ (by omega)).trans y3.1, y3.2⟩ k5 e z5
      · exact A0 N1 c5 m4 (mu.read fg Fr.refl w5 mu.m1) k5 e
    -- the class's turn
    have ec : f_X9_goThrough_l60 Gc (N + 1 + 1) (125 + d) (nI t) c = (if gI c 503 (125 + d) = 0 then (bd (f_X9_pass 1 c) fun v11 T12 => if v11 = 0 then (f_X9_goThrough_l60 Gc (N + 1) (125 + d) (nI t + 1) T12) else (bd (f_X9_other Gc (nI (F p)) T12) fun _ T13 => f_X9_goThrough_l60 Gc (N + 1) (125 + d) (nI t + 1) T13)) else (bd (f_X9_readField c) fun v7 T8 => if v7 = 0 then (f_X9_goThrough_l60 Gc (N + 1) (125 + d) (nI t + 1) T8) else (bd (f_X9_obey Gc T8) fun _ T9 => if (gI T9 506 (125 + d)) = 0 then (f_X9_goThrough_l60 Gc (N + 1) (125 + d) (nI t + 1) T9) else (lb (uI T9 503 (125 + d) 0) fun T10 => f_X9_goThrough_l60 Gc (N + 1) (125 + d) (nI t + 1) T10)))) := by
      show f_X9_goThrough_b60 Gc (f_X9_goThrough_l60 Gc (N + 1)) (125 + d) (nI t) c = _
      unfold f_X9_goThrough_b60
      rw [if_neg (show ¬ (1000000 : Int32) ≤ nI t from nI_ge (b := 1000000) (by omega) (by omega)), c_more S P.1 (by omega), bd_eq, decide_eq_true y, if_neg (show ¬ cI true = 0 by decide), nm_of nms, bd_eq, if_pos rfl, c_next S P.1 (by omega), bd_eq, show bs F n p = nI (F p) from if_pos y]
    have hx := S.g p
    rw [ec]
    constructor
    · -- no letter
      intro h5
      obtain ⟨N', rfl⟩ : ∃ N0, N' = N0 + 1 + 1 := ⟨N' - 2, by omega⟩
      rw [if_pos h5]
      show P2 _ (f_X12_run_b0 Gm (f_X12_run_l0 Gm (N' + 1)) m) _
      unfold f_X12_run_b0
      rw [m_more S hd P.2 (by omega) q2, bd_eq, decide_eq_true y, if_neg (show ¬ cI true = 0 by decide)]
      obtain ⟨c3, m3, gc, gk, hh⟩ := byte_out h S P y
      rcases hh with ⟨u1, u2, u3, hR3, hP3⟩ | ⟨u1, u2, u3, hM3, _⟩
      case inr =>
        have gm : Fr rdM noA m m3 := u3.weak (fun f i z => cn_rd z) (fun _ z => z)
        rw [u1, u2, bd_eq, bd_eq, if_pos rfl, if_neg (show ¬ gI m3 1233 133 = 0 by rw [hM3.m1]; decide)]
        exact A0 N' c3 m3 hM3 (KX.rd gc gm) (e34 gm)
      have gm : Fr rdM noA m m3 := u3.weak (fun f i z => nx_rd z) (fun _ z => z)
      have kx : KX d ov c m c3 m3 := KX.rd gc gm
      have z3 : gI c3 503 (125 + d) = 0 := (gk _ (by omega)).trans h5
      obtain ⟨q3, nms3, _, v3⟩ := hR3.nms
      have S3 := S.kx hd kx
      rw [u1, u2, bd_eq, bd_eq, if_neg (show ¬ (1 : Int32) = 0 by decide), if_pos v3]
      have cont : ∀ (c4 m4 : Mm), TX d ov o o' n (p + 1) c3 m3 c4 m4 → P2 (f_X9_goThrough_l60 Gc (N + 1) (125 + d) (nI t + 1) c4) (f_X12_run_l0 Gm (N' + 1) m4) (fun _ c' _ m' => OX d ov c m c' m') := fun c4 m4 tx => by
        have k4 := kx.trans tx.2.1
        have e4 : ov = true → gA m4 134 0 = gA m 134 0 ∧ gA m4 134 1 = gA m 134 1 := fun z => ⟨(tx.2.2 z).1.trans (e34 gm z).1, (tx.2.2 z).2.trans (e34 gm z).2⟩
        rcases tx.1 with ⟨rr, r5, p', y1, y2, y3⟩ | mu
        · exact A1 (N' + 1) c4 m4 p' y2 (by omega) (by omega) (by omega) rr y3 k4 e4 (r5.trans z3)
        · exact A0 N' c4 m4 mu k4 e4
      by_cases y27 : F p = 27
      · rw [if_pos (show nI (F p) = 27 by rw [y27]; rfl), show nI (F p) = 27 by rw [y27]; rfl, o_27]
        rcases P2_begin hR3 gs S3 hn hP3 (by omega) h0 with hb | ⟨c5, m5, kd, gp, p2, x1, x2, rr5, f5, fm5, z5, z6, b1, b2, b3, po5, l1, l2⟩
        · exact P2_bd hb (fun _ c4 _ m4 tx => cont c4 m4 tx)
        · have kx5 : KX d ov c m c5 m5 := kx.trans (KX.rd f5 fm5)
          rw [x1, bd_eq, x2, show nI t + 1 = nI (t + 1) from nI_add _ 1]
          exact P2_mono ((ih (N' + 1) p2 (t + 1) 1 c5 m5 l2 (by omega) (by omega) (by omega) (by omega) rr5 (S.kx hd kx5) po5).2 FU kd gp rfl (FU_gt (by omega)) b1 b2 b3 z5 z6) (fun _ _ _ _ w => OX.pre kx5 (e34 (gm.trans fm5)) w)
      · rw [if_neg (show ¬ nI (F p) = 27 from nI_ne hx (by decide) y27)]
        exact P2_bd (P2_mono (P2_plain hx y27 hR3 gs) (fun _ _ _ _ z => TX.ow (n := n) z.ow hd hP3 (Nat.le_refl _) (by omega))) (fun _ c4 _ m4 tx => cont c4 m4 tx)
    · -- a letter stands
      intro N2 kd gp hs1 hN2 k0 k1 k2 h3 h4
      subst hs1
      obtain ⟨N2, rfl⟩ : ∃ N0, N2 = N0 + 1 + 1 := ⟨N2 - 2, by omega⟩
      obtain ⟨N', rfl⟩ : ∃ N0, N' = N0 + 1 := ⟨N' - 1, by omega⟩
      rw [if_neg (show ¬ gI c 503 (125 + d) = 0 by rw [h3]; exact nI_ne0 (by omega) (by omega))]
      obtain ⟨c2, m2, fc, fm, fo⟩ := field_out h S hn P hp k1 k2 h3 h4
      have kx : KX d ov c m c2 m2 := KX.rd fc fm
      have S2 := S.kx hd kx
      have hk0 : ∀ T, f_X12_escape_l99 Gm (N2 + 1) (nI kd) (nI gp) 0 T = some ((), T) := fun T => esc_1
      have eb : f_X12_escape_l99 Gm (N2 + 1 + 1) (nI kd) (nI gp) 1 m = f_X12_escape_b99 Gm (f_X12_escape_l99 Gm (N2 + 1)) (nI kd) (nI gp) 1 m := rfl
      rw [eb]
      rcases fo with ⟨x1, mu, x2⟩ | ⟨x1, rr, z5, ⟨E, y1, y2, y3⟩, x2⟩ | ⟨x1, rr, z3, z4, E, L, sm, w, b, ng, sg, y1, y2, y3, z5, vl, hh⟩
      · have x2' := x2 Gm (f_X12_escape_l99 Gm (N2 + 1)) hk0
        rw [show f_X12_escape_b99 Gm (f_X12_escape_l99 Gm (N2 + 1)) (nI kd) (nI gp) 1 m = some ((), m2) from x2', x1, bd_eq, bd_eq, if_pos rfl]
        exact A0 N' c2 m2 mu kx (e34 fm)
      · rw [show f_X12_escape_b99 Gm (f_X12_escape_l99 Gm (N2 + 1)) (nI kd) (nI gp) 1 m = some ((), m2) from x2 Gm _, x1, bd_eq, bd_eq, if_pos rfl]
        exact A1 (N' + 1) c2 m2 E y2 (by omega) (by omega) (by omega) rr y3 kx (e34 fm) z5
      rw [x1, bd_eq, if_neg (show ¬ (1 : Int32) = 0 by decide)]
      rcases hh with ⟨wt, z6, po, x2⟩ | ⟨wt, z6, s, dt, z1, x2⟩
      · -- a field without data
        rw [show f_X12_escape_b99 Gm (f_X12_escape_l99 Gm (N2 + 1)) (nI kd) (nI gp) 1 m = _ from x2 Gm _]
        unfold f_X12_escape_221
        rw [if_pos rfl, lb_eq]
        obtain ⟨m3, hm3⟩ : ∃ m3, m3 = uI m2 1252 133 0 := ⟨_, rfl⟩
        rw [← hm3]
        have f3 : Fr (fun f i => i == 133 && f == 1252) noA m2 m3 := by rw [hm3]; exact Fr.refl.uI _ (by rfl)
        have g4 : Fr gmF noA m2 m3 := by rw [hm3]; exact Fr.refl.uI _ (by rfl)
        have e1252 : gI m3 1252 133 = 0 := by rw [hm3, gI_uI, if_pos ⟨rfl, rfl⟩]
        have rr3 : RR d ov c2 m3 := rr.gone0 (Fr.refl (PF := gcF)) g4 rfl (f3.i (by rfl))
        have kx3 : KX d ov c m c2 m3 := kx.trans (KX.b0 f3 (fun _ => e1252))
        have e3 : ov = true → gA m3 134 0 = gA m 134 0 ∧ gA m3 134 1 = gA m 134 1 := fun z => by rw [f3.a rfl]; exact e34 fm z
        have S3 := S.kx hd kx3
        have po3 : PO c2 m3 d o o' (E + 1) := ⟨po.1, (f3.i (by rfl)).trans po.2⟩
        have vl3 : VL c2 m3 d w b ng sg := vl.vm (f3.i (by rfl)) (f3.j (by rfl)) (f3.i (by rfl))
        have q87 : ¬ L = 87 := fun e => by
          rw [show wtD kd gp L = true from decide_eq_true (Or.inl e)] at wt; cases wt
        have q88 : ¬ (L = 88 ∧ kd = 38 ∧ gp = 112) := fun e => by
          rw [show wtD kd gp L = true from decide_eq_true (Or.inr e)] at wt; cases wt
        rw [bd_as]
        by_cases tl : L = 88 ∧ kd = 38 ∧ gp = 102 ∧ d = 0 ∧ iz (vz w ng) = 0
        · obtain ⟨rfl, rfl, rfl, rfl, n0⟩ := tl
          refine P2_bd (P2_obeyTell (n := n) rr3 S3 (hM rfl) po3 (by omega) vl3 z3 z4 z5 n0) ?_
          rintro _ c4 _ m4 ⟨te, tk, t6, t34, t52⟩
          rw [t6, if_neg (show ¬ (1 : Int32) = 0 by decide)]
          have e0 : (if cI sm = 0 then (f_X12_escape_l99 Gm (N2 + 1) (nI 38) (nI 102) 0 m4) else (if (gI m4 1233 133) = 0 then (if (gI m4 1252 133) = 0 then (f_X12_escape_l99 Gm (N2 + 1) (nI 38) (nI 102) 1 m4) else (f_X12_escape_l99 Gm (N2 + 1) (nI 38) (nI 102) 0 m4)) else (f_X12_escape_l99 Gm (N2 + 1) (nI 38) (nI 102) 0 m4))) = some ((), m4) := by
            rw [t52, if_neg (show ¬ (1 : Int32) = 0 by decide), hk0, ite_self, ite_self]
          rw [e0, bd_eq]
          exact A3 (N' + 1) c4 m4 (E + 1) (by omega) (by omega) (by omega) te (kx3.trans tk) (fun z => ⟨(t34 z).1.trans (e3 z).1, (t34 z).2.trans (e3 z).2⟩)
        · refine P2_bd (P2_obey rr3 gs vl3 k1 k2 y3 z3 z4 z5 q87 q88 tl) ?_
          rintro _ c4 _ m4 ow
          have k4 : KX d ov c m c4 m4 := kx3.trans ow.2.1.kx
          have e4 : ov = true → gA m4 134 0 = gA m 134 0 ∧ gA m4 134 1 = gA m 134 1 := fun z => ⟨(ow.2.2 z).1.trans (e3 z).1, (ow.2.2 z).2.trans (e3 z).2⟩
          have t52 : gI m4 1252 133 = 0 := by
            rcases ow.2.1.2.2.2.2.2.1 with e | e
            · rw [e, e1252]
            · exact e
          have t6 : gI c4 506 (125 + d) = cI (!sm) := (ow.2.1.ri hd _).trans z6
          have po4 : PO c4 m4 d o o' (E + 1) := po3.kw hd ow.2.1
          rw [t6]
          cases sm
          · rw [if_neg (show ¬ cI (!false) = 0 by decide), if_pos (show cI false = 0 from rfl), hk0, bd_eq]
            refine A3 (N' + 1) c4 m4 (E + 1) (by omega) (by omega) (by omega) ?_ k4 e4
            rcases ow.1 with x | x
            · exact Or.inl ⟨x, E + 1, Nat.le_refl _, by omega, po4⟩
            · exact Or.inr x
          · rw [if_pos (show cI (!true) = 0 from rfl), if_neg (show ¬ cI true = 0 by decide), t52, if_pos rfl]
            rcases ow.1 with x | x
            · obtain ⟨q4, nms4, _, v4⟩ := x.nms
              rw [if_pos v4, show nI t + 1 = nI (t + 1) from nI_add _ 1]
              exact P2_mono ((ih (N' + 1) (E + 1) (t + 1) 1 c4 m4 (by omega) (by omega) (by omega) (by omega) (by omega) x (S.kx hd k4) po4).2 (N2 + 1) kd gp rfl (by omega) k0 k1 k2 ((ow.2.1.ri hd _).trans z3) ((ow.2.1.ri hd _).trans z4)) (fun _ _ _ _ w => OX.pre k4 e4 w)
            · rw [if_neg (show ¬ gI m4 1233 133 = 0 by rw [x.m1]; decide), hk0, bd_eq]
              exact A0 N' c4 m4 x k4 e4
      · -- a field with data
        rw [show f_X12_escape_b99 Gm (f_X12_escape_l99 Gm (N2 + 1)) (nI kd) (nI gp) 1 m = _ from x2 Gm _, bd_as]
        have hk : L = 87 ∨ (L = 88 ∧ kd = 38 ∧ gp = 112) := of_decide_eq_true wt
        refine P2_bd (P2_data rr gs vl dt k1 k2 hk z3 z4 z5) ?_
        rintro _ c4 _ m4 ⟨m3, ou, hm4⟩
        have f4 : Fr (fun f i => i == 133 && f == 1227) noA m3 m4 := by rw [hm4]; exact Fr.refl.uI _ (by rfl)
        have g3 : Fr rdM noA m3 m4 := by rw [hm4]; exact Fr.refl.uI _ (by rfl)
        have g4 : Fr gmF noA m3 m4 := by rw [hm4]; exact Fr.refl.uI _ (by rfl)
        have g5 : Fr gmG noA m3 m4 := by rw [hm4]; exact Fr.refl.uI _ (by rfl)
        have kw := ou.2.1.kw
        have k4 : KX d ov c m c4 m4 := (kx.trans kw.kx).trans (KX.rd Fr.refl g3)
        have e4 : ov = true → gA m4 134 0 = gA m 134 0 ∧ gA m4 134 1 = gA m 134 1 := fun z => ⟨((rdM_e g3).trans (ou.2.2 z).1).trans (e34 fm z).1, ((rdM_e g3).trans (ou.2.2 z).2).trans (e34 fm z).2⟩
        have t6 : gI c4 506 (125 + d) = 1 := (kw.ri hd _).trans z6
        have hs := dt.2.2.2.1
        rw [t6, if_neg (show ¬ (1 : Int32) = 0 by decide), hk0, bd_eq]
        refine A3 (N' + 1) c4 m4 (E + 1) (by omega) (by omega) (by omega) ?_ k4 e4
        rcases ou.1 with x | x
        · exact Or.inl ⟨x.gone0 (Fr.refl (PF := gcF)) g4 rfl (f4.i (by rfl)), E + 1 + s, by omega, by omega, (kw.ri hd _).trans z1, by rw [hm4, gI_uI, if_pos ⟨rfl, rfl⟩]⟩
        · exact Or.inr (x.read (Fr.refl (PF := gcF)) g5 rfl ((f4.i (by rfl)).trans x.m1))
end J1
