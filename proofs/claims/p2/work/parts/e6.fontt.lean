/-! The task of fonts, on both sides. -/
def rcF (f i : Nat) : Bool := i == 5 || (i == 23 && (f == 913 || f == 914 || f == 915 || f == 916)) || (i == 24 && (f == 2 || f == 4 || f == 5)) || (decide (45 ≤ i) && decide (i ≤ 53))
def rcA (a : Nat) : Bool := a == 6 || a == 7 || a == 8 || (decide (10 ≤ a) && decide (a ≤ 22)) || a == 25 || (decide (45 ≤ a) && decide (a ≤ 53))
def rcM (f : Nat) : Bool := f == 1226 || f == 1229 || f == 1230 || f == 1231 || f == 1232 || f == 1233 || f == 1235 || f == 1240 || f == 1242 || f == 1249 || f == 1266
def rcN (a : Nat) : Bool := a == 134 || (decide (157 ≤ a) && decide (a ≤ 161)) || a == 165 || a == 166
def fA9 (a : Nat) : Bool := decide (29 ≤ a) && decide (a ≤ 35)
def fN9 (a : Nat) : Bool := decide (136 ≤ a) && decide (a ≤ 142)
section E6
variable {c c' c0 c1 c2 m m' m0 m1 m2 T : Mm} {d w b : Nat} {ov ov' ng sg : Bool} {g L : Nat → Int32} {Gc Gm : Gty} {PF QF : Nat → Nat → Bool} {PA QA : Nat → Bool}
theorem RR.upd (h : RR d ov c m) (fc : Fr PF PA c c') (fm : Fr QF QA m m') (e1 : ∀ f i, rcF f i = true → PF f i = false) (e2 : ∀ a, rcA a = true → PA a = false) (e3 : ∀ f, rcM f = true → QF f 133 = false) (e4 : ∀ a, rcN a = true → QA a = false) (ft : FT c' m') (ka : KA c') (tl : TL c' m') (mc : MCq c' m') : RR d ov c' m' := by
  obtain ⟨q, q1, q2, q3⟩ := h.gn
  obtain ⟨k, v, hcv⟩ := h.cv
  obtain ⟨p, hp1, hp2⟩ := h.sh.pp
  have e34 : gA m' 134 = gA m 134 := fm.a (e4 _ rfl)
  exact RR_mk (by rw [e34]; exact h.ev.fr fc (fun f i a b => e1 f i (by unfold rcF; simp; omega)) (fun a x y => e2 a (by unfold rcA; simp; omega))) (by rw [e34]; exact h.eb) (by rw [fc.i (e1 _ _ rfl)]; exact h.d1) (by rw [fm.i (e3 _ rfl)]; exact h.d2) h.d3 (by rw [fc.i (e1 _ _ rfl)]; exact h.o1) (by rw [fm.i (e3 _ rfl)]; exact h.o2) (by rw [fm.i (e3 _ rfl)]; exact h.im) ⟨q, by rw [fc.i (e1 _ _ rfl)]; exact q1, by rw [fm.i (e3 _ rfl)]; exact q2, q3⟩
    ⟨k, v, hcv.fr fc fm (by rw [e34]) (by rw [e34]) ⟨e1 _ _ rfl, e1 _ _ rfl, e1 _ _ rfl⟩ ⟨e3 _ rfl, e3 _ rfl⟩ (e2 _ rfl) (e4 _ rfl)⟩ (h.sh.fr hp1 hp2 fc fm (fun f => e1 f 5 (by unfold rcF; simp)) ⟨e2 _ rfl, e2 _ rfl, e2 _ rfl, fun i hi => e2 _ (by unfold rcA; simp; omega)⟩ ⟨e3 _ rfl, e3 _ rfl, e3 _ rfl, e3 _ rfl⟩ ⟨e4 _ rfl, e4 _ rfl, e4 _ rfl, e4 _ rfl⟩) (h.tb.fr fm (e4 _ rfl) (e4 _ rfl)) ft ka tl mc (by rw [fc.r (e1 _ _ rfl)]; exact h.rd) (by rw [fm.r (e3 _ rfl)]; exact h.sc)
def fF9 (f i : Nat) : Bool := i == 27
/-- the fonts have changed -/
theorem OU.fts (h : RR d ov c m) (fc : Fr fF9 fA9 c c') (fm : Fr mGF fN9 m m') (ft : FT c' m') (ka : KA c') : OU d ov c m c' m' := by
  have e34 : gA m' 134 = gA m 134 := fm.a rfl
  refine ⟨Or.inl (h.upd fc fm (fun f i e => ?_) (fun a e => ?_) (fun f e => ?_) (fun a e => ?_) ft ka (h.tl.fr fc fm rfl ⟨rfl, rfl, rfl, rfl, rfl⟩ (fun f i a b => by unfold fF9; simp; omega) (fun i a b => by unfold fA9; simp; omega)) (h.mc.fr fc fm ⟨rfl, rfl, rfl⟩ ⟨rfl, rfl, rfl, rfl⟩)), KP.of fc fm (fun f i e => ?_) (fun a e => ?_) (fun f i e => ?_) (fun a e => ?_), fun _ => by rw [e34]; exact ⟨rfl, rfl⟩⟩
  · unfold rcF at e; unfold fF9; revert e; simp; omega
  · unfold rcA at e; unfold fA9; revert e; simp; omega
  · unfold rcM at e; unfold mGF; revert e; simp; omega
  · unfold rcN at e; unfold fN9; revert e; simp; omega
  · unfold fF9 at e
    have : i = 27 := by simpa using e
    subst this; unfold skF; simp
  · unfold fA9 at e; unfold skA; rw [e]; simp
  · unfold mGF at e
    have : i = 133 ∧ f = 1209 := by simpa using e
    obtain ⟨rfl, rfl⟩ := this
    exact ⟨rfl, by decide⟩
  · unfold fN9 at e
    have : 136 ≤ a ∧ a ≤ 142 := by simpa using e
    exact ⟨by unfold mkA; simp; omega, by omega, by omega⟩
/-- one place of a shelf changes -/
theorem SV.oneG {o p q u : Nat} {a b : Bool} {x : Int32} (h : SV c m o p q) (hx : x = sv a b) (e1 : ∀ j, j < 16 → gA c' o j = if j = u then x else gA c o j) (e2 : ∀ j, j < 16 → gA m' p j = if j = u then cI a else gA m p j) (e3 : ∀ j, j < 16 → gA m' q j = if j = u then cI b else gA m q j) : SV c' m' o p q := fun j hj => by
  by_cases y : j = u
  · exact ⟨a, b, by rw [e2 j hj, if_pos y], by rw [e3 j hj, if_pos y], by rw [e1 j hj, if_pos y, hx]⟩
  · obtain ⟨r, s, z1, z2, z3⟩ := h j hj
    exact ⟨r, s, by rw [e2 j hj, if_neg y]; exact z1, by rw [e3 j hj, if_neg y]; exact z2, by rw [e1 j hj, if_neg y]; exact z3⟩
theorem sh_mk {o u : Nat} {a b t : Bool} (hu : u < 16) (e : gA c (o + 1) u = sv a b) : ∃ c', f_X8_mark o (nI u) (cI t) c = some ((), c') ∧ Fr nF (fun x => x == o + 1) c c' ∧ ∀ j, gA c' (o + 1) j = if j = u then sv a t else gA c (o + 1) j := by
  unfold f_X8_mark
  rw [sp_has hu, bd_eq, e]
  cases a
  · refine ⟨c, by cases b <;> rfl, Fr.refl, fun j => ?_⟩
    by_cases q : j = u
    · rw [if_pos q, q, e]; cases b <;> cases t <;> rfl
    · rw [if_neg q]
  · have nz : ¬ cI (!decide (sv true b = 0)) = 0 := by cases b <;> decide
    refine ⟨uA c (o + 1) u (sv true t), ?_, Fr.refl.uA _ _ (by simp), fun j => gA_one⟩
    rw [if_neg nz]
    cases t
    · rw [if_pos (by rfl), ix_in (j := u) (nI_pos (by omega)) (nI_clamp (by omega)) (by omega), lb_eq]; rfl
    · rw [if_neg (by decide), ix_in (j := u) (nI_pos (by omega)) (nI_clamp (by omega)) (by omega), lb_eq]; rfl
theorem FT.sv (h : FT c m) (fc : Fr nF (fun a => a == 29) c c') (fm : Fr nF (fun a => a == 137) m m') (s : SV c' m' 29 136 137) : FT c' m' := by
  refine FT_mk s ?_ ?_ ?_ ?_ ?_ ?_ ?_ ?_ ?_ ?_ ?_ ?_ ?_ ?_ ?_ ?_
  · rw [fm.a rfl]; exact h.rs
  · rw [fc.a rfl, fm.a rfl]; exact h.nm
  · rw [fm.a rfl]; exact h.nb
  · rw [fm.a rfl]; exact h.n0
  · rw [fm.a rfl]; exact h.hp
  · rw [fc.a rfl, fm.a rfl, fm.a rfl]; exact h.gl
  · rw [fm.a rfl]; exact h.ij
  · rw [fc.a rfl]; exact h.gr
  · rw [fc.a rfl, fm.a rfl]; exact h.tk
  · rw [fm.a rfl, fm.i rfl]; exact h.ct
  · rw [fc.a rfl, fm.a rfl]; exact h.hd
  · rw [fm.a rfl]; exact h.hb
  · rw [fc.a rfl]; exact h.hr
  · rw [fc.a rfl, fm.a rfl, fm.a rfl]; exact h.rw
  · rw [fm.a rfl, fm.a rfl]; exact h.nt
  · rw [fc.a rfl]; exact h.rr
theorem KA.of0 (e : gI c 209 27 = 0) : KA c := KA_mk (Or.inl e) (fun z => by rw [e] at z; exact absurd z (by decide))
theorem KA.th (h : KA c) (fc : Fr nF (fun a => a == 29) c c') (t1 : thC c' = thC c) : KA c' := by
  have t2 : nmC c' = nmC c := by unfold nmC; rw [fc.a (show (30 == 29) = false from rfl)]
  refine KA_mk ?_ ?_
  · rw [fc.i rfl]; exact h.b
  · rw [fc.i rfl, fc.i rfl, t1, t2, fc.a (show (35 == 29) = false from rfl)]; exact h.v
theorem P2_fontTask (h : RR d ov c m) (v : VL c m d w b ng sg) : P2 (f_X9_fontTask (iz (vz w ng)) c) (f_X12_fontAct m) (fun _ c' _ m' => OU d ov c m c' m') := by
  have zb := vz_b (ng := ng) v.1
  have stay : P2 (some ((), c)) (some ((), m)) (fun _ c' _ m' => OU d ov c m c' m') := P2_ret (OU.refl h)
  obtain ⟨f, f0, f1⟩ := h.eb.k142
  obtain ⟨k, k0, k1⟩ := h.eb.k143
  have e116 : gI c 116 45 = nI f := (h.ev.i (116, 0, 142) (by decide)).trans f0
  have e117 : gI c 117 45 = nI k := (h.ev.i (117, 0, 143) (by decide)).trans k0
  obtain ⟨a, p, g1, g2, g3⟩ := h.ft.sh f (by omega)
  have ixf : ∀ {α : Type} (K : Nat → Option α), ix (nI f) 17 K = K f := fun K => ix_in (j := f) (nI_pos (by omega)) (nI_clamp (by omega)) (by omega)
  have wF : ∀ {c' m' : Mm}, Fr cRF cRA c c' → Fr mGF mRA m m' → Fr fF9 fA9 c c' ∧ Fr mGF fN9 m m' := fun x y => ⟨x.weak (fun f i e => by unfold fF9 at e; unfold cRF; revert e; simp; intro e; simp [e]) (fun a e => by unfold fA9 at e; unfold cRA; revert e; simp; omega), y.weak (fun _ _ e => e) (fun a e => by unfold fN9 at e; unfold mRA; revert e; simp; omega)⟩
  unfold f_X9_fontTask f_X12_fontAct
  rw [v.nm, f0, lb_eq, e116, e117]
  have go : ∀ p : Bool, P2 (bd (f_X2_removeMany (cI p) c) fun _ T3 => some ((), T3)) (bd (f_X12_fontsGo (cI p) m) fun _ T5 => some ((), T5)) (fun _ c' _ m' => OU d ov c m c' m') := fun p => by
    rw [bd_u, bd_u]
    unfold f_X2_removeMany f_X12_fontsGo
    refine P2_mono (P2_fontsGo (c0 := c) (m0 := m) p FU FU 0 c m (FU_gt (by omega)) (FU_gt (by omega)) (by omega) h.ft h.ka Fr.refl Fr.refl (fun u hu => by omega) (fun _ _ => rfl)) ?_
    rintro _ c1 _ m1 ⟨x1, x2, x3, x4, _⟩
    exact OU.fts h (wF x3 x4).1 (wF x3 x4).2 x1 x2
  by_cases q0 : iz (vz w ng) = 0
  · rw [if_pos q0, if_pos q0, q0, if_neg (by decide)]
    exact go false
  rw [if_neg q0, if_neg q0]
  by_cases q1 : iz (vz w ng) = 1
  · rw [if_pos q1, if_pos q1, if_pos q1]
    exact go true
  rw [if_neg q1, if_neg q1]
  -- the reference's tails
  have t98 : ¬ iz (vz w ng) = 4 → ¬ iz (vz w ng) = 5 → f_X12_fontAct_98 (nI f) m = some ((), m) := fun z4 z5 => by
    unfold f_X12_fontAct_98
    rw [v.nm, if_neg z4, if_neg z5]
  have t65 : ¬ iz (vz w ng) = 3 → f_X12_fontAct_65 (nI f) m = f_X12_fontAct_98 (nI f) m := fun z3 => by
    unfold f_X12_fontAct_65
    rw [v.nm, if_neg z3]
  by_cases q2 : iz (vz w ng) = 2
  · have z3 : ¬ iz (vz w ng) = 3 := by rw [q2]; decide
    have z4 : ¬ iz (vz w ng) = 4 := by rw [q2]; decide
    have z5 : ¬ iz (vz w ng) = 5 := by rw [q2]; decide
    rw [if_pos q2, if_pos q2, bd_u, ixf, bd_u, g1, t65 z3, t98 z4 z5]
    cases a
    · rw [if_pos (show cI false = 0 from rfl)]
      have e : f_X2_remove (nI f) c = some ((), uI c 209 27 0) := by
        unfold f_X2_remove
        rw [lb_eq, sp_has (by omega), bd_eq, show gA (uI c 209 27 0) (28 + 1) f = sv false p from g3]
        cases p <;> rfl
      rw [e]
      have fc : Fr (fun f i => f == 209 && i == 27) noA c (uI c 209 27 0) := Fr.refl.uI _ (by rfl)
      refine P2_ret (OU.fts h (fc.weak (fun f i e => by unfold fF9 at e; revert e; simp; intro e; simp [e]) (fun _ _ => rfl)) Fr.refl (h.ft.fr fc (Fr.refl (PF := nF) (PA := noA)) ⟨rfl, rfl, rfl, rfl, rfl, rfl⟩ ⟨rfl, rfl, rfl, rfl, rfl, rfl, rfl⟩ rfl) (KA.of0 (by rw [gI_uI, if_pos ⟨rfl, rfl⟩])))
    · rw [if_neg (show ¬ cI true = 0 by decide)]
      refine P2_mono (P2_fontGo (by omega) h.ft) ?_
      rintro _ c1 _ m1 ⟨x1, x2, x3, x4, _, _⟩
      exact OU.fts h (wF x3 x4).1 (wF x3 x4).2 x1 (KA.of0 x2)
  rw [if_neg q2, if_neg q2]
  by_cases q3 : iz (vz w ng) = 3
  · have z4 : ¬ iz (vz w ng) = 4 := by rw [q3]; decide
    have z5 : ¬ iz (vz w ng) = 5 := by rw [q3]; decide
    unfold f_X12_fontAct_65
    rw [if_pos q3, bd_u, v.nm, if_pos q3, ixf, bd_u, g1, t98 z4 z5, k0]
    cases a
    · rw [if_pos (show cI false = 0 from rfl)]
      have e31 : gA c 31 (256 * f + k) = 0 := by
        rw [(h.ft.gl (256 * f + k) (by omega)).1, h.ft.nt f k (by omega) (by omega) g1]; rfl
      have e : f_X2_removeGlyph (nI f) (nI k) c = some ((), c) := by
        unfold f_X2_removeGlyph
        rw [show nI f * 256 = nI (f * 256) from pk_mul f 256, nI_add, lb_eq, if_neg (nI_pos (by omega)), if_neg (show ¬ (16 : Int32) ≤ nI f from nI_ge (b := 16) (by omega) (by omega)), if_neg (nI_pos (by omega)), if_pos (show nI (f * 256 + k) < 4352 from nI_lt (b := 4352) (by omega) (by omega)), ix_in (j := f * 256 + k) (nI_pos (by omega)) (nI_clamp (by omega)) (by omega), lb_eq, show f * 256 + k = 256 * f + k by omega, e31, if_pos (by decide)]
      rw [e]; exact stay
    · rw [if_neg (show ¬ cI true = 0 by decide)]
      obtain ⟨c1, m1, x1, x2, x3, x4, x5, x6, x7⟩ := P2_glyphGo (f := f) (k := k) (by omega) (by omega) h.ft.gt
      rw [x1, x2]
      have y4 : Fr cRF cRA c c1 := x4.weak (fun _ _ e => g_r e) (fun _ e => a_r e)
      have y5 : Fr mGF mRA m m1 := x5.weak (fun _ _ e => e) (fun _ e => a_m e)
      have e136 : gA m1 136 = gA m 136 := x5.a rfl
      refine P2_ret (OU.fts h (wF y4 y5).1 (wF y4 y5).2 (FT.of h.ft x3 y4 y5 (h.ft.sh.fr x4 x5 rfl rfl rfl) (by rw [e136]; exact h.ft.rs) x7 (fun f' k' a1 a2 a3 => ?_)) (h.ka.fr x4 ⟨rfl, rfl⟩ ⟨rfl, rfl, rfl⟩))
      rw [e136] at a3
      rw [x6]
      by_cases y : 256 * f' + k' = 256 * f + k
      · rw [y, wr_s]
      · rw [wr_o _ y]; exact h.ft.nt f' k' a1 a2 a3
  rw [if_neg q3, t65 q3]
  have mk : ∀ t : Bool, P2 (bd (f_X8_mark 28 (nI f) (cI t) c) fun _ T => some ((), T)) (ix (nI f) 17 fun j4 => lb (uA m 137 j4 (cI t)) fun T6 => some ((), T6)) (fun _ c' _ m' => OU d ov c m c' m') := fun t => by
    obtain ⟨c1, x1, x2, x3⟩ := sh_mk (t := t) (show f < 16 by omega) g3
    rw [bd_u, x1, ixf, lb_eq]
    have fm : Fr nF (fun a => a == 137) m (uA m 137 f (cI t)) := Fr.refl.uA _ _ (by rfl)
    have s1 : SV c1 (uA m 137 f (cI t)) 29 136 137 := SV.oneG (u := f) (a := a) (b := t) h.ft.sh rfl (fun j _ => x3 j) (fun j _ => by
      rw [gA_wo _ _ _ (by decide)]
      by_cases q : j = f
      · rw [if_pos q, q, g1]
      · rw [if_neg q]) (fun j _ => gA_one)
    refine P2_ret (OU.fts h (x2.weak (fun _ _ _ => rfl) (fun a e => by unfold fA9 at e; revert e; simp; omega)) (fm.weak (fun _ _ _ => rfl) (fun a e => by unfold fN9 at e; revert e; simp; omega)) (h.ft.sv x2 fm s1) (h.ka.th x2 (funext fun j => ?_)))
    unfold thC
    by_cases q : j = f
    · rw [show gA c1 29 j = _ from x3 j, if_pos q, q, show gA c 29 f = sv a p from g3]
      cases a <;> cases p <;> cases t <;> rfl
    · rw [show gA c1 29 j = _ from x3 j, if_neg q]
  unfold f_X12_fontAct_98 f_X12_fontAct_114
  rw [v.nm]
  by_cases q4 : iz (vz w ng) = 4
  · rw [if_pos q4, if_pos q4, if_pos q4, if_pos q4]
    exact mk true
  rw [if_neg q4, if_neg q4]
  by_cases q5 : iz (vz w ng) = 5
  · rw [if_pos q5, if_pos q5, if_neg q4, if_neg q4]
    exact mk false
  · simp only [if_neg q4, if_neg q5]
    exact stay
end E6
