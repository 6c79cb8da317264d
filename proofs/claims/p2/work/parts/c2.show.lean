/-! A code is shown, on both sides. -/
section C2
variable {c c' c0 c1 c2 m m' m0 m1 m2 T : Mm} {d : Nat} {ov ov' : Bool} {g L : Nat → Int32} {Gc Gm : Gty}
theorem c_gof {r k : Nat} (hr : r < 17) (hk : k < 256) : f_X2_glyphOf (nI r) (nI k) c = some (gA c 31 (256 * r + k) - 1, c) := by
  unfold f_X2_glyphOf
  rw [show nI r * (256 : Int32) = nI (r * 256) from pk_mul r 256, nI_add, lb_eq, if_neg (nI_pos (by omega)), if_neg (show ¬ (4352 : Int32) ≤ nI (r * 256 + k) from nI_ge (b := 4352) (by omega) (by omega)), ix_in (j := r * 256 + k) (nI_pos (by omega)) (nI_clamp (by omega)) (by omega), show r * 256 + k = 256 * r + k by omega]
theorem c_num {r k : Nat} (hr : r < 17) (hk : k < 7) : f_X2_number (nI r) (nI k) c = some (gA c 30 (7 * r + k), c) := by
  unfold f_X2_number
  rw [show nI r * (7 : Int32) = nI (r * 7) from pk_mul r 7, nI_add, lb_eq, if_neg (nI_pos (by omega)), if_neg (show ¬ (119 : Int32) ≤ nI (r * 7 + k) from nI_ge (b := 119) (by omega) (by omega)), ix_in (j := r * 7 + k) (nI_pos (by omega)) (nI_clamp (by omega)) (by omega), show r * 7 + k = 7 * r + k by omega]
/-- the class's glyph and advance alone -/
theorem u_gly {r k : Nat} (fk : FCs c) (ev : EVq c 45 g) (eb : EB g) (hr : r < 17) (hk : k < 256) : ∃ (gs : Int32) (adv : Nat), f_X2_glyphOf (nI r) (nI k) c = some (gs, c) ∧ f_X9_advance (nI r) gs c = some (nI adv, c) ∧ adv ≤ 32000 := by
  obtain ⟨h, h1, h2⟩ := eb.k7
  have e709 : gI c 709 46 = nI h := (ev.i (709, 1, 7) (by decide)).trans h1
  obtain ⟨s, s1, s2⟩ := fk.2.2.1 (256 * r + k) (by omega)
  have adv0 : ∀ a2, f_X9_advance_21 a2 0 c = some (nI h, c) := fun a2 => by
    unfold f_X9_advance_21
    rw [if_pos rfl, e709]
  by_cases q : s = 0
  · subst q
    refine ⟨_, h, c_gof hr hk, ?_, h2⟩
    rw [s2]
    unfold f_X9_advance
    rw [if_pos (show nI 0 - 1 < 0 by decide)]
    exact adv0 _
  · obtain ⟨a, a1, a2⟩ := nI_lh (b := 7200) (fk.2.2.2 (s - 1) (by omega))
    by_cases z : gA c 30 (7 * r + 1) = 0
    · refine ⟨_, h, c_gof hr hk, ?_, h2⟩
      unfold f_X9_advance
      rw [s2, show nI s - 1 = nI (s - 1) from pk_sub (b := 1) (by omega), if_neg (nI_pos (by omega)), show (1 : Int32) = nI 1 from rfl, c_num hr (by omega), bd_eq, if_pos z]
      exact adv0 _
    · refine ⟨_, a, c_gof hr hk, ?_, by omega⟩
      unfold f_X9_advance
      rw [s2, show nI s - 1 = nI (s - 1) from pk_sub (b := 1) (by omega), if_neg (nI_pos (by omega)), show (1 : Int32) = nI 1 from rfl, c_num hr (by omega), bd_eq, if_neg z]
      unfold f_X9_advance_21
      rw [if_neg (show ¬ nI 1 = 0 by decide), show (4 : Int32) = nI 4 from rfl, c_head (by omega) (by omega), bd_eq, a1]
/-- what a code's glyph and advance are, on both sides -/
def TG (Gm : Gty) (c m : Mm) (r k : Nat) : Prop :=
  ∃ (has : Bool) (slot : Nat) (gm : Int32) (a : Nat), GL c m k r has slot gm ∧ a ≤ 32000 ∧ f_X2_glyphOf (nI r) (nI k) c = some ((if has = true then nI slot else -1), c) ∧ f_X9_advance (nI r) (if has = true then nI slot else -1) c = some (nI a, c) ∧ f_X12_show_16 Gm (nI k) (nI r) (cI (decide (r = 16))) m = f_X12_show_115 Gm (nI k) (cI (decide (r = 16))) gm (cI has) (nI a) m ∧ f_X12_show_223 Gm (nI k) (nI r) (cI (decide (r = 16))) m = f_X12_show_322 Gm (nI k) (cI (decide (r = 16))) gm (cI has) (nI a) m
theorem tg_adv0 {hm : Nat} {r a2 : Int32} (e709 : gI c 709 46 = nI hm) : f_X9_advance_21 a2 0 c = some (nI hm, c) := by
  unfold f_X9_advance_21
  rw [if_pos rfl, e709]
theorem tg_none {r k hm : Nat} {gm : Int32} (hr : r < 17) (hk : k < 256) (e709 : gI c 709 46 = nI hm) (h2 : hm ≤ 32000) (e0 : gA c 31 (256 * r + k) = 0) (x1 : f_X12_show_16 Gm (nI k) (nI r) (cI (decide (r = 16))) m = f_X12_show_115 Gm (nI k) (cI (decide (r = 16))) gm 0 (nI hm) m) (x2 : f_X12_show_223 Gm (nI k) (nI r) (cI (decide (r = 16))) m = f_X12_show_322 Gm (nI k) (cI (decide (r = 16))) gm 0 (nI hm) m) : TG Gm c m r k := by
  have advN : f_X9_advance (nI r) (-1) c = some (nI hm, c) := by
    unfold f_X9_advance
    rw [if_pos (by decide)]; exact tg_adv0 (r := 0) e709
  refine ⟨false, 0, gm, hm, GL_mk (fun z => by cases z) (fun _ z => by cases z) (fun _ z => by cases z), h2, ?_, ?_, x1, x2⟩
  · rw [c_gof hr hk, e0, if_neg (by decide)]
    rfl
  · rw [if_neg (by decide)]; exact advN
theorem tg_16 {k : Nat} (h : RR d ov c m) (hk : k < 256) : TG Gm c m 16 k := by
  obtain ⟨hm, h1, h2⟩ := h.eb.k7
  have e709 : gI c 709 46 = nI hm := (h.ev.i (709, 1, 7) (by decide)).trans h1
  have adv0 : ∀ a2, f_X9_advance_21 a2 0 c = some (nI hm, c) := fun a2 => tg_adv0 (r := 0) e709
  have gr := h.ft.gr k hk
  rw [show 4096 + k = 256 * 16 + k by omega] at gr
  have n0 : gA c 30 (7 * 16 + 1) = 0 := by rw [h.ft.nm 16 1 (by omega) (by omega)]; exact h.ft.n0
  have d16 : cI (decide (16 = 16)) = 1 := rfl
  by_cases qk : 33 ≤ k ∧ k ≤ 126
  · rw [if_pos qk] at gr
    refine ⟨true, k + 367, -1, hm, GL_mk (fun _ => by omega) (fun _ _ => ⟨rfl, qk⟩) (fun z => absurd rfl z), h2, ?_, ?_, ?_, ?_⟩
    · rw [c_gof (by omega) hk, gr, show nI (k + 368) - 1 = nI (k + 368 - 1) from pk_sub (b := 1) (by omega), if_pos rfl, show k + 368 - 1 = k + 367 by omega]
    · rw [if_pos rfl]
      unfold f_X9_advance
      rw [if_neg (nI_pos (by omega)), show (1 : Int32) = nI 1 from rfl, c_num (by omega) (by omega), bd_eq, n0, if_pos rfl]
      exact adv0 _
    · rw [d16]
      unfold f_X12_show_16 f_X12_show_37 f_X12_show_74
      rw [if_neg (by decide), if_neg (by decide), if_neg (show ¬ nI k < 33 from nI_nlt (b := 33) qk.1 (by omega)), if_neg (show ¬ 126 < nI k from nI_nlt (a := 126) qk.2 (by omega)), lb_eq, h1, if_neg (by decide), show (7 : Int32) * nI 16 = nI 112 by decide, ix_in (j := 112) (nI_pos (by omega)) (nI_clamp (by omega)) (by omega), if_pos h.ft.n0]
      rfl
    · rw [d16]
      unfold f_X12_show_223 f_X12_show_244 f_X12_show_281
      rw [if_neg (by decide), if_neg (by decide), if_neg (show ¬ nI k < 33 from nI_nlt (b := 33) qk.1 (by omega)), if_neg (show ¬ 126 < nI k from nI_nlt (a := 126) qk.2 (by omega)), lb_eq, h1, if_neg (by decide), show (7 : Int32) * nI 16 = nI 112 by decide, ix_in (j := 112) (nI_pos (by omega)) (nI_clamp (by omega)) (by omega), if_pos h.ft.n0]
      rfl
  · rw [if_neg qk] at gr
    refine tg_none (gm := -1) (by omega) hk e709 h2 gr ?_ ?_
    · rw [d16]
      unfold f_X12_show_16 f_X12_show_37 f_X12_show_74
      rw [if_neg (by decide), if_neg (by decide), h1]
      by_cases k1 : nI k < 33
      · rw [if_pos k1, lb_eq, if_pos rfl]
      · rw [if_neg k1, if_pos (show 126 < nI k from nI_lt (a := 126) (by
          by_cases z : 33 ≤ k
          · omega
          · exact absurd (show nI k < 33 from nI_lt (b := 33) (by omega) (by omega)) k1) (by omega)), lb_eq, if_pos rfl]
    · rw [d16]
      unfold f_X12_show_223 f_X12_show_244 f_X12_show_281
      rw [if_neg (by decide), if_neg (by decide), h1]
      by_cases k1 : nI k < 33
      · rw [if_pos k1, lb_eq, if_pos rfl]
      · rw [if_neg k1, if_pos (show 126 < nI k from nI_lt (a := 126) (by
          by_cases z : 33 ≤ k
          · omega
          · exact absurd (show nI k < 33 from nI_lt (b := 33) (by omega) (by omega)) k1) (by omega)), lb_eq, if_pos rfl]
theorem tg_n {r k : Nat} (h : RR d ov c m) (hr : r < 17) (hk : k < 256) (q16 : ¬ r = 16) : TG Gm c m r k := by
  obtain ⟨hm, h1, h2⟩ := h.eb.k7
  have e709 : gI c 709 46 = nI hm := (h.ev.i (709, 1, 7) (by decide)).trans h1
  have adv0 : ∀ a2, f_X9_advance_21 a2 0 c = some (nI hm, c) := fun a2 => tg_adv0 (r := 0) e709
  have d16 : cI (decide (r = 16)) = 0 := by rw [decide_eq_false q16]; rfl
  obtain ⟨e1, e2⟩ := h.ft.gl (256 * r + k) (by omega)
  have ixg : ∀ {α : Type} (K : Nat → Option α), ix (((256 : Int32) * nI r) + nI k) 4096 K = K (256 * r + k) := fun K => by
    rw [show (256 : Int32) * nI r = nI (256 * r) from pk_mul 256 r, nI_add, ix_in (j := 256 * r + k) (nI_pos (by omega)) (nI_clamp (by omega)) (by omega)]
  rcases e2 with e2 | ⟨s, s1, s2, s3⟩
  · refine tg_none (gm := -1) hr hk e709 h2 (by rw [e1, e2]; decide) ?_ ?_
    · rw [d16]
      unfold f_X12_show_16 f_X12_show_37 f_X12_show_74
      rw [if_pos rfl, ixg, e2, if_pos rfl, if_pos rfl, lb_eq, h1, if_pos rfl]
    · rw [d16]
      unfold f_X12_show_223 f_X12_show_244 f_X12_show_281
      rw [if_pos rfl, ixg, e2, if_pos rfl, if_pos rfl, lb_eq, h1, if_pos rfl]
  · obtain ⟨a, a1, a2⟩ := nI_lh (b := 7200) (h.ft.hb s s1).2.2.2.2
    have eN : gA c 30 (7 * r + 1) = gA m 138 (7 * r) := by rw [h.ft.nm r 1 hr (by omega)]; rfl
    have ix7 : ∀ {α : Type} (K : Nat → Option α), ix ((7 : Int32) * nI r) 119 K = K (7 * r) := fun K => by
      rw [show (7 : Int32) * nI r = nI (7 * r) from pk_mul 7 r, ix_in (j := 7 * r) (nI_pos (by omega)) (nI_clamp (by omega)) (by omega)]
    have ix5 : ∀ {α : Type} (K : Nat → Option α), ix (((5 : Int32) * nI s) + 4) 2000 K = K (5 * s + 4) := fun K => by
      rw [show (5 : Int32) * nI s = nI (5 * s) from pk_mul 5 s, show nI (5 * s) + 4 = nI (5 * s + 4) from nI_add _ 4, ix_in (j := 5 * s + 4) (nI_pos (by omega)) (nI_clamp (by omega)) (by omega)]
    obtain ⟨adv, ad1, ad2, ad3⟩ : ∃ adv : Nat, adv ≤ 32000 ∧ (gA m 138 (7 * r) = 0 → adv = hm) ∧ (¬ gA m 138 (7 * r) = 0 → adv = a) := by
      by_cases z : gA m 138 (7 * r) = 0
      · exact ⟨hm, h2, fun _ => rfl, fun y => absurd z y⟩
      · exact ⟨a, by omega, fun y => absurd y z, fun _ => rfl⟩
    refine ⟨true, s, nI s, adv, GL_mk (fun _ => by omega) (fun z => absurd z q16) (fun _ _ => ⟨rfl, s1⟩), ad1, ?_, ?_, ?_, ?_⟩
    · rw [c_gof hr hk, e1, s2, add1m1, if_pos rfl]
    · rw [if_pos rfl]
      unfold f_X9_advance
      rw [if_neg (nI_pos (by omega)), show (1 : Int32) = nI 1 from rfl, c_num hr (by omega), bd_eq, eN]
      by_cases z : gA m 138 (7 * r) = 0
      · rw [if_pos z, ad2 z]; exact adv0 _
      · rw [if_neg z, ad3 z]
        unfold f_X9_advance_21
        rw [if_neg (show ¬ nI 1 = 0 by decide), show (4 : Int32) = nI 4 from rfl, c_head (by omega) (by omega), bd_eq, h.ft.hd _ (by omega), a1]
    · rw [d16]
      unfold f_X12_show_16 f_X12_show_37 f_X12_show_74
      rw [if_pos rfl, ixg, s2, if_pos rfl, if_neg (nIm1 s1), lb_eq, h1, if_neg (by decide), ix7]
      by_cases z : gA m 138 (7 * r) = 0
      · rw [if_pos z, ad2 z]; rfl
      · rw [if_neg z, ad3 z, ix5, lb_eq, a1]; rfl
    · rw [d16]
      unfold f_X12_show_223 f_X12_show_244 f_X12_show_281
      rw [if_pos rfl, ixg, s2, if_pos rfl, if_neg (nIm1 s1), lb_eq, h1, if_neg (by decide), ix7]
      by_cases z : gA m 138 (7 * r) = 0
      · rw [if_pos z, ad2 z]; rfl
      · rw [if_neg z, ad3 z, ix5, lb_eq, a1]; rfl
theorem two_gly {r k : Nat} (h : RR d ov c m) (hr : r < 17) (hk : k < 256) : TG Gm c m r k := by
  by_cases q16 : r = 16
  · rw [q16]; exact tg_16 h hk
  · exact tg_n h hr hk q16
theorem KP.iu (fc : Fr cIU cIA c c') (fm : Fr nF a164 m m') : KP d ov c m c' m' := by
  refine KP.of fc fm (fun f i h => ?_) (fun a h => ?_) (fun _ _ h => by cases h) (fun a h => ?_)
  · have : i = 27 := by
      unfold cIU at h
      have : i = 27 ∧ (f = 208 ∨ f = 209) := by simpa using h
      exact this.1
    subst this; unfold skF; simp
  · have : a = 35 := by simpa [cIA] using h
    subst this; rfl
  · have : a = 164 := by simpa [a164] using h
    subst this; exact ⟨rfl, by decide, by decide⟩
theorem u_put {a : Nat} {gs : Int32} (ha : a ≤ 32000) (h : MU d ov c m) (hg : gs < 0 ∨ ∃ s, s < 494 ∧ gs = nI s) : wp (f_X9_show_133 Gc gs (nI a) c) (fun _ c' => MUQ d ov c m c') := by
  unfold f_X9_show_133
  by_cases q : gs < 0
  · rw [if_pos q]; exact u_adv ha h
  · obtain ⟨s, s1, rfl⟩ := hg.resolve_left q
    rw [if_neg q]
    obtain ⟨g, ev, eb⟩ := h.wc.ev
    obtain ⟨c1, i1, i2, _⟩ := c_ink (L := fun k => g (29 + k)) ev eb ev.t
    have i2' : Fr cvF cvA c c1 := i2.weak (fun f i e => by unfold cvF at e; unfold cInF; revert e; simp; intro e e2; exact absurd e2 e) (fun _ _ => rfl)
    have q1 := h.cv i2' (i2.i (by rfl))
    have : f_X9_markGlyph (nI s) c = some ((), c1) := by
      unfold f_X9_markGlyph
      rw [show (0 : Int32) = nI 0 from rfl, c_head s1 (by omega), bd_eq, lb_eq, show (1 : Int32) = nI 1 from rfl, c_head s1 (by omega), bd_eq, lb_eq, show (2 : Int32) = nI 2 from rfl, c_head s1 (by omega), bd_eq, show (3 : Int32) = nI 3 from rfl, c_head s1 (by omega), bd_eq, i1, bd_eq, q1.1.wc.mu, bd_eq, if_neg (by decide)]
    rw [this, bd_eq]
    obtain ⟨_, c2, e1, e2⟩ := u_adv (Gc := Gc) ha q1.1
    rw [e1]
    exact wp_ret (q1.trans e2)
theorem MU.iu (h : MU d ov c m) (fc : Fr cIU cIA c c') (ka : KA c') : MUQ d ov c m c' := by
  obtain ⟨g, ev, eb⟩ := h.wc.ev
  have kp : KP d ov c m c' m := KP.iu fc (Fr.refl (PF := nF) (PA := a164))
  refine ⟨h.fr fc (Fr.refl (PF := nF) (PA := noA)) (fun f i e => ?_) (fun a e => ?_) (fun _ _ e => by cases e) (fun _ e => by cases e) ⟨rfl, rfl, rfl⟩ ⟨g, ev.fr fc (fun f i a b => by unfold cIU; simp; omega) (fun i a b => by unfold cIA; simp; omega), eb⟩ ka (mu_fr h.wc.mu (fc.i (by rfl)) (fc.i (by rfl)) (fc.i (by rfl))) h.m1, kp.fc⟩
  · unfold cIU at e
    have : i = 27 ∧ (f = 208 ∨ f = 209) := by simpa using e
    obtain ⟨rfl, rfl | rfl⟩ := this <;> rfl
  · have : a = 35 := by simpa [cIA] using e
    subst this; rfl
/-- the class's glyph in the font at hand, alone -/
theorem u_font {k : Nat} (hk : k < 256) (h : MU d ov c m) : ∃ r c1 gs a, MUQ d ov c m c1 ∧ a ≤ 32000 ∧ (∀ {α : Type} (K : Int32 → Mm → Option (α × Mm)), (bd (f_X1_wishes 45 c) fun v1 T2 => gd (kS true v1 = 14) <| bd (f_X2_inUse v1 T2) K) = K (nI r) c1) ∧ f_X2_glyphOf (nI r) (nI k) c1 = some (gs, c1) ∧ f_X9_advance (nI r) gs c1 = some (nI a, c1) ∧ (gs < 0 ∨ ∃ s, s < 494 ∧ gs = nI s) := by
  obtain ⟨g, ev, eb⟩ := h.wc.ev
  obtain ⟨c1, e1, e2, e3, e4⟩ := c_use ev eb h.wc.fk.1 h.wc.ka
  have q := h.iu e2 e3
  obtain ⟨g1, ev1, eb1⟩ := q.1.wc.ev
  obtain ⟨gs, a, f1, f2, f3⟩ := u_gly q.1.wc.fk ev1 eb1 e4 hk
  refine ⟨_, c1, gs, a, q, f3, e1, f1, f2, ?_⟩
  have f1' := f1
  rw [c_gof e4 hk] at f1'
  have e5 := congrArg Prod.fst (Option.some.inj f1')
  dsimp only at e5
  obtain ⟨s, s1, s2⟩ := q.1.wc.fk.2.2.1 (256 * fiu (thC c) (nmC c) (wG g) + k) (by omega)
  rw [s2] at e5
  by_cases z : s = 0
  · left; rw [← e5, z]; decide
  · right; exact ⟨s - 1, by omega, by rw [← e5]; exact pk_sub (b := 1) (by omega)⟩
theorem u_show {k : Nat} (hk : k < 256) (h : MU d ov c m) (gs : GS Gc Gm d) : wp (f_X9_show Gc (nI k) c) (fun _ c' => MUQ d ov c m c') := by
  obtain ⟨r, c1, gl, a, q, a1, e1, e2, e3, e4⟩ := u_font hk h
  obtain ⟨g1, ev1, eb1⟩ := q.1.wc.ev
  obtain ⟨v, v1, v2⟩ := eb1.k6
  unfold f_X9_show
  rw [e1, e2, bd_eq, e3, bd_eq]
  have fin : ∀ b0 b1 : Int32, wp (f_X9_show_72 Gc (nI k) gl (nI a) b0 b1 c1) (fun _ c' => MUQ d ov c m c') := fun b0 b1 => by
    unfold f_X9_show_72
    split
    · exact wp_mono (u_put a1 q.1 e4) (fun _ _ z => q.trans z)
    · split
      · exact wp_ret q
      · refine wp_call (u_cr q.1) ?_
        intro _ c2 q2
        obtain ⟨g2, ev2, eb2⟩ := q2.1.wc.ev
        obtain ⟨v, v1, v2⟩ := eb2.k6
        rw [show gI c2 708 46 = g2 6 from ev2.i (708, 1, 6) (by decide), v1]
        refine wp_call (u_line v2 q2.1 gs) ?_
        intro _ c3 q3
        obtain ⟨r', c4, gl', a', q4, b1, b2, b3, b4, b5⟩ := u_font hk q3.1
        rw [b2, b3, bd_eq, b4, bd_eq]
        exact wp_mono (u_put b1 q4.1 b5) (fun _ _ z => (((q.trans q2).trans q3).trans q4).trans z)
  split
  · exact fin _ _
  · rw [c_across (ev1.sf eb1), bd_eq]; exact fin _ _
theorem P2_show {k : Nat} (hk : k < 256) (h : RR d ov c m) (gs : GS Gc Gm d) : P2 (f_X9_show Gc (nI k) c) (f_X12_show Gm (nI k) m) (fun _ c' _ m' => OU d ov c m c' m') := by
  obtain ⟨r, c1, m1, r1, r2, e1, f1, rr1, fc, fm⟩ := use2 h
  obtain ⟨has, slot, gm, a, gl, a1, g1, g2, g3, g4⟩ := two_gly (Gm := Gm) rr1 r1 hk
  have kp := KP.iu (d := d) (ov := ov) fc fm
  have e34 : gA m1 134 = gA m 134 := fm.a rfl
  obtain ⟨x, x1, x2⟩ := rr1.eb.k189
  obtain ⟨b, b1, b2⟩ := rr1.eb.k3
  obtain ⟨w, w1, w2⟩ := rr1.eb.k11
  obtain ⟨l, l1, l2⟩ := rr1.eb.k2
  have e706 : gI c1 706 46 = nI x := (rr1.ev.i (706, 1, 189) (by decide)).trans x1
  have e703 : gI c1 703 46 = nI b := (rr1.ev.i (703, 1, 3) (by decide)).trans b1
  have e109 : gI c1 109 45 = nI w := (rr1.ev.i (109, 0, 11) (by decide)).trans w1
  have e702 : gI c1 702 46 = nI l := (rr1.ev.i (702, 1, 2) (by decide)).trans l1
  have hW := lgW_le (gA m1 134)
  unfold f_X9_show f_X12_show
  rw [e1, g1, bd_eq, g2, bd_eq, f1, bd_eq]
  have em : (if nI r = 16 then f_X12_show_16 Gm (nI k) (nI r) 1 m1 else f_X12_show_16 Gm (nI k) (nI r) 0 m1) = f_X12_show_115 Gm (nI k) (cI (decide (r = 16))) gm (cI has) (nI a) m1 := by
    rw [← g3]
    by_cases q : r = 16
    · rw [q]; rfl
    · rw [if_neg (show ¬ nI r = 16 from fun y => q ((nI_eq (b := 16) (by omega) (by omega)).mp y)), decide_eq_false q]; rfl
  refine P2_er em ?_
  have fin : ∀ lim : Nat, lim ≤ 76800 → P2 (f_X9_show_72 Gc (nI k) (if has = true then nI slot else -1) (nI a) (nI lim) (nI x + nI a) c1) (f_X12_show_148 Gm (nI k) (cI (decide (r = 16))) gm (cI has) (nI a) (nI lim) m1) (fun _ c' _ m' => OU d ov c m c' m') := fun lim hl => by
    unfold f_X9_show_72 f_X12_show_148
    rw [x1, nI_add, e109, w1]
    by_cases q : x + a ≤ lim
    · rw [if_pos (nI_le q (by omega)), if_pos (nI_le q (by omega))]
      exact P2_mono (P2_put hk r1 a1 rr1 gl) (fun _ c' _ m' z => OU.pre kp (fun _ => by rw [e34]; exact ⟨rfl, rfl⟩) z)
    · rw [if_neg (nI_ge (by omega) (by omega)), if_neg (nI_ge (by omega) (by omega))]
      by_cases z : w = 0
      · rw [if_pos (by rw [z]; rfl), if_pos (by rw [z]; rfl)]
        exact P2_ret (OU.pre kp (fun _ => by rw [e34]; exact ⟨rfl, rfl⟩) (OU.refl rr1))
      · rw [if_neg (nI_ne0 (by omega) (by omega)), if_neg (nI_ne0 (by omega) (by omega))]
        obtain ⟨c2, m2, s1, s2, s3, _⟩ := mx (z := (l : Int)) rr1.ev rr1.eb (by omega) (by omega)
        have rr2 := rr1.env s3.fc s3.fm s3.v s3.b s3.e0 s3.e1
        have ou2 : OU d ov c m c2 m2 := OU.pre kp (fun _ => by rw [e34]; exact ⟨rfl, rfl⟩) (OU.env rr1 s3)
        unfold f_X9_carriageReturn
        rw [e702, l1, nI_j (by omega), s1, s2, bd_eq, bd_eq, bd_eq]
        obtain ⟨v, v1, v2⟩ := rr2.eb.k6
        rw [show gI c2 708 46 = nI v from (rr2.ev.i (708, 1, 6) (by decide)).trans v1, v1]
        refine P2_bd (P2_line v2 rr2 gs) ?_
        intro _ c3 _ m3 ou3
        have ou3' := OU.pre ou2.2.1 ou2.2.2 ou3
        rcases ou3.1 with rr3 | mu3
        · rw [rr3.sh.z.2, if_pos rfl]
          obtain ⟨r', c4, m4, r1', r2', e1', f1', rr4, fc', fm'⟩ := use2 rr3
          obtain ⟨has', slot', gm', a', gl', a1', g1', g2', g3', g4'⟩ := two_gly (Gm := Gm) rr4 r1' hk
          have e34' : gA m4 134 = gA m3 134 := fm'.a rfl
          rw [e1', g1', bd_eq, g2', bd_eq, f1', bd_eq]
          have em' : (if nI r' = 16 then f_X12_show_223 Gm (nI k) (nI r') 1 m4 else f_X12_show_223 Gm (nI k) (nI r') 0 m4) = f_X12_show_322 Gm (nI k) (cI (decide (r' = 16))) gm' (cI has') (nI a') m4 := by
            rw [← g4']
            by_cases q : r' = 16
            · rw [q]; rfl
            · rw [if_neg (show ¬ nI r' = 16 from fun y => q ((nI_eq (b := 16) (by omega) (by omega)).mp y)), decide_eq_false q]; rfl
          refine P2_er em' ?_
          refine P2_mono (P2_put hk r1' a1' rr4 gl') (fun _ c' _ m' z => ?_)
          exact OU.pre ou3'.2.1 ou3'.2.2 (OU.pre (KP.iu fc' fm') (fun _ => by rw [e34']; exact ⟨rfl, rfl⟩) z)
        · rw [if_neg (show ¬ gI m3 1233 133 = 0 by rw [mu3.m1]; decide)]
          obtain ⟨r', c4, gl', a', q4, b1, b2, b3, b4, b5⟩ := u_font hk mu3
          rw [b2, b3, bd_eq, b4, bd_eq]
          obtain ⟨_, c5, y1, y2⟩ := u_put (Gc := Gc) b1 q4.1 b5
          rw [y1]
          exact P2_ret (ou3'.muc (q4.trans y2))
  unfold f_X12_show_115
  rw [e706, e703, x1, b1]
  by_cases q : x ≤ b
  · rw [if_pos (nI_le q (by omega)), if_pos (nI_le q (by omega))]
    exact fin b b2
  · rw [if_neg (nI_ge (by omega) (by omega)), if_neg (nI_ge (by omega) (by omega)), c_across (rr1.ev.sf rr1.eb), bd_eq, m_wide, bd_eq, show (96 : Int32) * nI (lgW (gA m1 134)) = nI (96 * lgW (gA m1 134)) from pk_mul 96 _]
    exact fin _ (by omega)
end C2
