/-! Fonts, tiles and macros that go, on both sides. -/
theorem cnt_c {p q : Nat → Bool} : ∀ n, (∀ k, k < n → p k = q k) → cnt p n = cnt q n := by
  intro n
  induction n with
  | zero => intro _; rfl
  | succ n ih =>
    intro h
    show cnt p n + _ = cnt q n + _
    rw [ih (fun k hk => h k (by omega)), h n (by omega)]
theorem cnt_wr {p q : Nat → Bool} {s : Nat} (hp : p s = true) (hq : q s = false) : ∀ n, (∀ k, k ≠ s → q k = p k) → s < n → cnt q n + 1 = cnt p n := by
  intro n
  induction n with
  | zero => intro _ h; omega
  | succ n ih =>
    intro h hs
    show (cnt q n + (if q n = true then 1 else 0)) + 1 = cnt p n + (if p n = true then 1 else 0)
    by_cases e : n = s
    · subst e
      rw [hp, hq, if_neg (by decide), if_pos rfl, cnt_c n (fun k hk => h k (by omega))]
    · rw [h n e, ← ih h (by omega)]
      omega
theorem cnt_le {p : Nat → Bool} : ∀ n, cnt p n ≤ n := by
  intro n
  induction n with
  | zero => exact Nat.le_refl 0
  | succ n ih =>
    show cnt p n + (if p n = true then 1 else 0) ≤ n + 1
    split <;> omega
/-- the glyphs of the fonts -/
def GT (c m : Mm) : Prop := (∀ j, j < 4096 → gA c 31 j = gA m 139 j + 1 ∧ (gA m 139 j = -1 ∨ ∃ s, s < 400 ∧ gA m 139 j = nI s ∧ gA m 140 s = 1)) ∧ (∀ i j, i < 4096 → j < 4096 → gA m 139 i = gA m 139 j → ¬ gA m 139 i = -1 → i = j) ∧ (∀ s, s < 400 → ∃ b, gA m 140 s = cI b ∧ gA c 32 s = cI b) ∧ (gI m 1209 133 = nI (cnt (fun s => decide (gA m 140 s = 1)) 400))
theorem GT.gl {c m : Mm} (h : GT c m) : ∀ j, j < 4096 → gA c 31 j = gA m 139 j + 1 ∧ (gA m 139 j = -1 ∨ ∃ s, s < 400 ∧ gA m 139 j = nI s ∧ gA m 140 s = 1) := h.1
theorem GT.ij {c m : Mm} (h : GT c m) : ∀ i j, i < 4096 → j < 4096 → gA m 139 i = gA m 139 j → ¬ gA m 139 i = -1 → i = j := h.2.1
theorem GT.tk {c m : Mm} (h : GT c m) : ∀ s, s < 400 → ∃ b, gA m 140 s = cI b ∧ gA c 32 s = cI b := h.2.2.1
theorem GT.ct {c m : Mm} (h : GT c m) : gI m 1209 133 = nI (cnt (fun s => decide (gA m 140 s = 1)) 400) := h.2.2.2
theorem GT_mk {c m : Mm} (gl : ∀ j, j < 4096 → gA c 31 j = gA m 139 j + 1 ∧ (gA m 139 j = -1 ∨ ∃ s, s < 400 ∧ gA m 139 j = nI s ∧ gA m 140 s = 1)) (ij : ∀ i j, i < 4096 → j < 4096 → gA m 139 i = gA m 139 j → ¬ gA m 139 i = -1 → i = j) (tk : ∀ s, s < 400 → ∃ b, gA m 140 s = cI b ∧ gA c 32 s = cI b) (ct : gI m 1209 133 = nI (cnt (fun s => decide (gA m 140 s = 1)) 400)) : GT c m := ⟨gl, ij, tk, ct⟩
def cGF (f i : Nat) : Bool := i == 27 && f == 206
def cGA (a : Nat) : Bool := a == 31 || a == 32
def mGF (f i : Nat) : Bool := i == 133 && f == 1209
def mGA (a : Nat) : Bool := a == 139 || a == 140
def cRF (f i : Nat) : Bool := i == 27 && (f == 206 || f == 209)
def cRA (a : Nat) : Bool := a == 29 || a == 31 || a == 32
def mRA (a : Nat) : Bool := a == 136 || a == 139 || a == 140
section B0
variable {c c' c0 m m' m0 : Mm}
theorem nIm1 {s : Nat} (h : s < 400) : ¬ nI s = -1 := fun e => by
  have := congrArg Int32.toInt e
  rw [nI_toInt (by omega), show ((-1 : Int32)).toInt = -1 by decide] at this
  omega
theorem add1m1 (x : Int32) : x + 1 - 1 = x := by rw [Int32.add_sub_cancel]
/-- a glyph goes -/
theorem P2_glyphGo {f k : Nat} (hf : f < 16) (hk : k < 256) (h : GT c m) : ∃ c' m', f_X2_removeGlyph (nI f) (nI k) c = some ((), c') ∧ f_X12_glyphGoes (nI f) (nI k) m = some ((), m') ∧ GT c' m' ∧ Fr cGF cGA c c' ∧ Fr mGF mGA m m' ∧ gA m' 139 = wr (gA m 139) (256 * f + k) (-1) ∧ ∀ j, 4096 ≤ j → gA c' 31 j = gA c 31 j := by
  obtain ⟨g1, g2⟩ := h.gl (256 * f + k) (by omega)
  unfold f_X2_removeGlyph f_X12_glyphGoes
  rw [show nI f * (256 : Int32) = nI (f * 256) from pk_mul f 256, nI_add, lb_eq, if_neg (nI_pos (by omega)), if_neg (show ¬ (16 : Int32) ≤ nI f from nI_ge (b := 16) (by omega) (by omega)), if_neg (nI_pos (by omega)), if_pos (show nI (f * 256 + k) < (4352 : Int32) from nI_lt (b := 4352) (by omega) (by omega)), show f * 256 + k = 256 * f + k by omega, ix_in (j := 256 * f + k) (nI_pos (by omega)) (nI_clamp (by omega)) (by omega), show (256 : Int32) * nI f = nI (256 * f) from pk_mul 256 f, nI_add, ix_in (j := 256 * f + k) (nI_pos (by omega)) (nI_clamp (by omega)) (by omega), lb_eq, lb_eq, g1, add1m1]
  rcases g2 with e | ⟨s, s1, s2, s3⟩
  · rw [e, if_pos (by decide), if_pos rfl]
    refine ⟨c, m, rfl, rfl, h, Fr.refl, Fr.refl, funext fun j => ?_, fun _ _ => rfl⟩
    unfold wr
    by_cases q : j = 256 * f + k
    · rw [if_pos q, q, e]
    · rw [if_neg q]
  · rw [s2, if_neg (nI_pos (by omega)), if_neg (show ¬ (400 : Int32) ≤ nI s from nI_ge (b := 400) (by omega) (by omega)), ix_in (j := s) (nI_pos (by omega)) (nI_clamp (by omega)) (by omega), lb_eq, lb_eq, ix_in (j := 256 * f + k) (nI_pos (by omega)) (nI_clamp (by omega)) (by omega), lb_eq, if_neg (nIm1 s1), ix_in (j := s) (nI_pos (by omega)) (nI_clamp (by omega)) (by omega), lb_eq, ix_in (j := 256 * f + k) (nI_pos (by omega)) (nI_clamp (by omega)) (by omega), lb_eq, lb_eq]
    obtain ⟨c', hc'⟩ : ∃ c', c' = uA (uI (uA c 32 s 0) 206 27 ((gI (uA c 32 s 0) 206 27) - 1)) 31 (256 * f + k) 0 := ⟨_, rfl⟩
    obtain ⟨m', hm'⟩ : ∃ m', m' = uI (uA (uA m 140 s 0) 139 (256 * f + k) (-1)) 1209 133 ((gI (uA (uA m 140 s 0) 139 (256 * f + k) (-1)) 1209 133) - 1) := ⟨_, rfl⟩
    have a31 : gA c' 31 = wr (gA c 31) (256 * f + k) 0 := by rw [hc', gA_wr]; rw [show gA (uI (uA c 32 s 0) 206 27 ((gI (uA c 32 s 0) 206 27) - 1)) 31 = gA c 31 from gA_wo c s 0 (by decide)]
    have a32 : gA c' 32 = wr (gA c 32) s 0 := by rw [hc', gA_wo _ _ _ (by decide)]; exact gA_wr c 32 s 0
    have b139 : gA m' 139 = wr (gA m 139) (256 * f + k) (-1) := by rw [hm']; show gA (uA (uA m 140 s 0) 139 (256 * f + k) (-1)) 139 = _; rw [gA_wr, gA_wo _ _ _ (by decide)]
    have b140 : gA m' 140 = wr (gA m 140) s 0 := by rw [hm']; show gA (uA (uA m 140 s 0) 139 (256 * f + k) (-1)) 140 = _; rw [gA_wo _ _ _ (by decide), gA_wr]
    refine ⟨c', m', by rw [hc'], by rw [hm'], GT_mk ?_ ?_ ?_ ?_, ?_, ?_, b139, ?_⟩
    · intro j hj
      rw [a31, b139, b140]
      by_cases q : j = 256 * f + k
      · rw [q, wr_s, wr_s]; exact ⟨by decide, Or.inl rfl⟩
      · rw [wr_o _ q, wr_o _ q]
        obtain ⟨x1, x2⟩ := h.gl j hj
        refine ⟨x1, ?_⟩
        rcases x2 with x2 | ⟨t, t1, t2, t3⟩
        · exact Or.inl x2
        · refine Or.inr ⟨t, t1, t2, ?_⟩
          by_cases y : t = s
          · subst y
            exact absurd (h.ij j (256 * f + k) hj (by omega) (t2.trans s2.symm) (by rw [t2]; exact nIm1 t1)) q
          · rw [wr_o _ y]; exact t3
    · intro i j hi hj
      rw [b139]
      by_cases q : i = 256 * f + k
      · rw [q, wr_s]; intro _ z; exact absurd rfl z
      · rw [wr_o _ q]
        by_cases q2 : j = 256 * f + k
        · rw [q2, wr_s]; intro z y; exact absurd z y
        · rw [wr_o _ q2]; exact h.ij i j hi hj
    · intro t ht
      rw [a32, b140]
      by_cases q : t = s
      · rw [q, wr_s, wr_s]; exact ⟨false, rfl, rfl⟩
      · rw [wr_o _ q, wr_o _ q]; exact h.tk t ht
    · have v9 : gI m' 1209 133 = nI (cnt (fun s => decide (gA m 140 s = 1)) 400) - 1 := by rw [hm', gI_uI, if_pos ⟨rfl, rfl⟩, gI_uA, gI_uA, h.ct]
      rw [v9, b140]
      have e := cnt_wr (p := fun s => decide (gA m 140 s = 1)) (q := fun t => decide (wr (gA m 140) s 0 t = 1)) (s := s) (by rw [s3]; rfl) (by rw [wr_s]; rfl) 400 (fun t ht => by rw [wr_o _ ht]) s1
      rw [← e, show nI (cnt (fun t => decide (wr (gA m 140) s 0 t = 1)) 400 + 1) - 1 = nI (cnt (fun t => decide (wr (gA m 140) s 0 t = 1)) 400) from pk_sub (b := 1) (by omega)]
    · rw [hc']; exact ((Fr.refl.uA _ _ (by rfl)).uI _ (by rfl)).uA _ _ (by rfl)
    · rw [hm']; exact ((Fr.refl.uA _ _ (by rfl)).uA _ _ (by rfl)).uI _ (by rfl)
    · intro j hj
      rw [a31, wr_o _ (by omega)]
/-- all glyphs of a font go -/
theorem P2_glyphs {f : Nat} (hf : f < 16) {Q : Unit → Mm → Unit → Mm → Prop} {K : Mm → Option (Unit × Mm)} (hk : ∀ c' m', GT c' m' → Fr cGF cGA c0 c' → Fr mGF mGA m0 m' → (∀ k, k < 256 → gA m' 139 (256 * f + k) = -1) → (∀ j, (j < 256 * f ∨ 256 * f + 256 ≤ j) → gA m' 139 j = gA m0 139 j) → (∀ j, 4096 ≤ j → gA c' 31 j = gA c0 31 j) → P2 (bd (f_X8_remove 28 (nI f) c') fun _ T => some ((), T)) (some ((), m')) Q) : ∀ (n n' k : Nat) (c m : Mm), 256 - k < n → 256 - k < n' → k ≤ 256 → GT c m → Fr cGF cGA c0 c → Fr mGF mGA m0 m → (∀ i, i < k → gA m 139 (256 * f + i) = -1) → (∀ j, (j < 256 * f ∨ 256 * f + 256 ≤ j) → gA m 139 j = gA m0 139 j) → (∀ j, 4096 ≤ j → gA c 31 j = gA c0 31 j) → P2 (f_X2_remove_l18 n (nI f) (nI k) c) (f_X12_fontGoes_l9 n' (nI f) (nI k) m) Q := by
  intro n
  induction n with
  | zero => intro n' k c m h; omega
  | succ n ih =>
    intro n' k c m h1 h2 h3 h4 h5 h6 h7 h8 h9
    cases n' with
    | zero => omega
    | succ n' =>
      show P2 (f_X2_remove_b18 (f_X2_remove_l18 n) (nI f) (nI k) c) (f_X12_fontGoes_b9 (f_X12_fontGoes_l9 n') (nI f) (nI k) m) Q
      unfold f_X2_remove_b18 f_X12_fontGoes_b9
      by_cases q : k = 256
      · subst q
        rw [if_pos (by decide), if_pos (by decide)]
        exact hk c m h4 h5 h6 h7 h8 h9
      · obtain ⟨c', m', e1, e2, e3, e4, e5, e6, e7⟩ := P2_glyphGo hf (show k < 256 by omega) h4
        rw [if_neg (show ¬ (256 : Int32) ≤ nI k from nI_ge (b := 256) (by omega) (by omega)), if_neg (show ¬ (256 : Int32) ≤ nI k from nI_ge (b := 256) (by omega) (by omega)), e1, e2, bd_eq, bd_eq, show nI k + 1 = nI (k + 1) from nI_add k 1]
        refine ih n' (k + 1) c' m' (by omega) (by omega) (by omega) e3 (h5.trans e4) (h6.trans e5) (fun i hi => ?_) (fun j hj => ?_) (fun j hj => (e7 j hj).trans (h9 j hj))
        · rw [e6]
          by_cases z : i = k
          · rw [z, wr_s]
          · rw [wr_o _ (by omega)]; exact h7 i (by omega)
        · rw [e6, wr_o _ (by omega)]; exact h8 j hj
theorem FT.gt (h : FT c m) : GT c m := GT_mk h.gl h.ij h.tk h.ct
/-- the relation of fonts, when glyphs and what is there have changed -/
theorem FT.of (h : FT c m) (gt : GT c' m') (fc : Fr cRF cRA c c') (fm : Fr mGF mRA m m') (sh : SV c' m' 29 136 137) (rs : gA m' 136 16 = 1) (gr : ∀ j, 4096 ≤ j → gA c' 31 j = gA c 31 j) (nt : ∀ f k, f < 16 → k < 256 → gA m' 136 f = 0 → gA m' 139 (256 * f + k) = -1) : FT c' m' := by
  refine FT_mk sh rs ?_ ?_ ?_ ?_ gt.gl gt.ij ?_ gt.tk gt.ct ?_ ?_ ?_ ?_ nt ?_
  · rw [fc.a (show cRA 30 = false from rfl), fm.a (show mRA 138 = false from rfl)]; exact h.nm
  · rw [fm.a (show mRA 138 = false from rfl)]; exact h.nb
  · rw [fm.a (show mRA 138 = false from rfl)]; exact h.n0
  · rw [fm.a (show mRA 138 = false from rfl)]; exact h.hp
  · intro j hj
    rw [gr _ (by omega)]; exact h.gr j hj
  · rw [fc.a (show cRA 33 = false from rfl), fm.a (show mRA 141 = false from rfl)]; exact h.hd
  · rw [fm.a (show mRA 141 = false from rfl)]; exact h.hb
  · rw [fc.a (show cRA 33 = false from rfl)]; exact h.hr
  · rw [fc.a (show cRA 34 = false from rfl), fm.a (show mRA 141 = false from rfl), fm.a (show mRA 142 = false from rfl)]; exact h.rw
  · rw [fc.a (show cRA 34 = false from rfl)]; exact h.rr
theorem g_r {f i : Nat} (e : cRF f i = false) : cGF f i = false := by unfold cRF at e; unfold cGF; revert e; simp; omega
theorem a_r {a : Nat} (e : cRA a = false) : cGA a = false := by unfold cRA at e; unfold cGA; revert e; simp; omega
theorem a_m {a : Nat} (e : mRA a = false) : mGA a = false := by unfold mRA at e; unfold mGA; revert e; simp; omega
theorem m_noGlyphs {f : Nat} (hf : f < 16) (h : ∀ k, k < 256 → gA m 139 (256 * f + k) = -1) : ∀ n k, 256 - k < n → k ≤ 256 → f_X12_fontGoes_l9 n (nI f) (nI k) m = some ((), m) := by
  intro n
  induction n with
  | zero => intro k h; omega
  | succ n ih =>
    intro k h1 h2
    show f_X12_fontGoes_b9 (f_X12_fontGoes_l9 n) (nI f) (nI k) m = _
    unfold f_X12_fontGoes_b9
    by_cases q : k = 256
    · subst q
      rw [if_pos (by decide)]
    · rw [if_neg (show ¬ (256 : Int32) ≤ nI k from nI_ge (b := 256) (by omega) (by omega))]
      unfold f_X12_glyphGoes
      rw [show (256 : Int32) * nI f = nI (256 * f) from pk_mul 256 f, nI_add, ix_in (j := 256 * f + k) (nI_pos (by omega)) (nI_clamp (by omega)) (by omega), lb_eq, if_pos (h k (by omega)), bd_eq, show nI k + 1 = nI (k + 1) from nI_add k 1]
      exact ih (k + 1) (by omega) (by omega)
def FGQ (f : Nat) (c m c2 m' : Mm) : Prop := FT c2 m' ∧ gI c2 209 27 = 0 ∧ Fr cRF cRA c c2 ∧ Fr mGF mRA m m' ∧ gA c2 29 = wr (gA c 29) f 0 ∧ gA m' 136 = wr (gA m 136) f 0
/-- a font goes -/
theorem P2_fontGo {f : Nat} (hf : f < 16) (h : FT c m) : P2 (f_X2_remove (nI f) c) (f_X12_fontGoes (nI f) m) (fun _ c' _ m' => FGQ f c m c' m') := by
  obtain ⟨a, b, e1, e2, e3⟩ := h.sh f hf
  unfold f_X2_remove f_X12_fontGoes
  rw [lb_eq, sp_has hf, bd_eq, ix_in (j := f) (nI_pos (by omega)) (nI_clamp (by omega)) (by omega), lb_eq, show gA (uI c 209 27 0) (28 + 1) f = gA c 29 f from rfl, e3]
  have fc1 : Fr cRF cRA c (uI c 209 27 0) := Fr.refl.uI _ (by rfl)
  have fm1 : Fr mGF mRA m (uA m 136 f 0) := Fr.refl.uA _ _ (by rfl)
  have m139 : gA (uA m 136 f 0) 139 = gA m 139 := gA_wo _ _ _ (by decide)
  have m140 : gA (uA m 136 f 0) 140 = gA m 140 := gA_wo _ _ _ (by decide)
  have gt1 : GT (uI c 209 27 0) (uA m 136 f 0) := by
    have g := h.gt
    refine GT_mk ?_ ?_ ?_ ?_
    · rw [m139, m140]; exact g.gl
    · rw [m139]; exact g.ij
    · rw [m140]; exact g.tk
    · rw [m140]; exact g.ct
  have z209 : gI (uI c 209 27 0) 209 27 = 0 := by rw [gI_uI, if_pos ⟨rfl, rfl⟩]
  have m136 : gA (uA m 136 f 0) 136 = wr (gA m 136) f 0 := gA_wr _ _ _ _
  have c29 : gA (uI c 209 27 0) 29 = gA c 29 := rfl
  have c31 : gA (uI c 209 27 0) 31 = gA c 31 := rfl
  generalize uI c 209 27 0 = c1 at fc1 gt1 z209 c29 c31
  generalize uA m 136 f 0 = m1 at fm1 gt1 m136 m139
  -- what is there now
  have fin : ∀ c' m', GT c' m' → Fr cGF cGA c1 c' → Fr mGF mGA m1 m' → (∀ k, k < 256 → gA m' 139 (256 * f + k) = -1) → (∀ j, (j < 256 * f ∨ 256 * f + 256 ≤ j) → gA m' 139 j = gA m1 139 j) → (∀ j, 4096 ≤ j → gA c' 31 j = gA c1 31 j) → ∀ c2, Fr nF (fun a => a == 29) c' c2 → gA c2 29 = wr (gA c 29) f 0 → FGQ f c m c2 m' := by
    intro c' m' gt q1 q2 q3 q4 q5 c2 q6 q7
    have F1 : Fr cRF cRA c c2 := (fc1.trans (q1.weak (fun _ _ e => g_r e) (fun _ e => a_r e))).trans (q6.weak (fun _ _ _ => rfl) (fun a e => by unfold cRA at e; revert e; simp; omega))
    have F2 : Fr mGF mRA m m' := fm1.trans (q2.weak (fun _ _ e => e) (fun _ e => a_m e))
    have n136 : gA m' 136 = wr (gA m 136) f 0 := by rw [q2.a (show mGA 136 = false from rfl), m136]
    have gt2 : GT c2 m' := by
      refine GT_mk ?_ gt.ij ?_ gt.ct
      · rw [q6.a (show (31 == 29) = false from rfl)]; exact gt.gl
      · rw [q6.a (show (32 == 29) = false from rfl)]; exact gt.tk
    refine ⟨h.of gt2 F1 F2 ?_ ?_ ?_ ?_, by rw [q6.i rfl, q1.i (by rfl)]; exact z209, F1, F2, q7, n136⟩
    · intro u hu
      obtain ⟨a', b', x1, x2, x3⟩ := h.sh u hu
      rw [n136, q7, F2.a (show mRA 137 = false from rfl)]
      by_cases z : u = f
      · rw [z, wr_s, wr_s]
        exact ⟨false, b, rfl, e2, rfl⟩
      · rw [wr_o _ z, wr_o _ z]; exact ⟨a', b', x1, x2, x3⟩
    · rw [n136, wr_o _ (by omega)]; exact h.rs
    · intro j hj
      rw [q6.a (show (31 == 29) = false from rfl), q5 j hj, c31]
    · intro u k hu hk h0
      rw [n136] at h0
      by_cases z : u = f
      · rw [z]; exact q3 k hk
      · rw [wr_o _ z] at h0
        rw [q4 _ (by omega), m139]
        exact h.nt u k hu hk h0
  cases a
  · have hn : ∀ k, k < 256 → gA m1 139 (256 * f + k) = -1 := fun k hk => by rw [m139]; exact h.nt f k hf hk e1
    rw [if_pos (by rfl), show (0 : Int32) = nI 0 from rfl, m_noGlyphs hf hn FU 0 (FU_gt (by omega)) (by omega)]
    refine P2_ret (fin c1 m1 gt1 Fr.refl Fr.refl hn (fun _ _ => rfl) (fun _ _ => rfl) c1 Fr.refl (c29.trans (funext fun j => ?_)))
    unfold wr
    by_cases q : j = f
    · rw [if_pos q, q, e3]; rfl
    · rw [if_neg q]
  · rw [if_neg (by cases b <;> decide)]
    refine P2_glyphs hf (c0 := c1) (m0 := m1) (K := fun m => some ((), m)) (fun c' m' g1 g2 g3 g4 g5 g6 => ?_) FU FU 0 c1 m1 (FU_gt (by omega)) (FU_gt (by omega)) (by omega) gt1 Fr.refl Fr.refl (fun i hi => by omega) (fun _ _ => rfl) (fun _ _ => rfl)
    unfold f_X8_remove
    rw [if_neg (nI_pos (by omega)), if_neg (show ¬ (16 : Int32) ≤ nI f from nI_ge (b := 16) (by omega) (by omega)), ix_in (j := f) (nI_pos (by omega)) (nI_clamp (by omega)) (by omega), lb_eq, bd_eq]
    exact P2_ret (fin c' m' g1 g2 g3 g4 g5 g6 _ (Fr.refl.uA _ _ rfl) (by rw [show 28 + 1 = 29 from rfl, gA_wr, g2.a (show cGA 29 = false from rfl), c29]))
/-- fonts go: all, or those that are temporary -/
def goS (p : Bool) (v : Int32) : Int32 := if p = true then (if v = 1 then 0 else v) else 0
theorem sv_cases (a b : Bool) : (sv a b = 0 ↔ a = false) ∧ (sv a b = 1 ↔ a = true ∧ b = true) := by cases a <;> cases b <;> decide
theorem P2_fontsGo (p : Bool) : ∀ (n n' f : Nat) (c m : Mm), 16 - f < n → 16 - f < n' → f ≤ 16 → FT c m → KA c → Fr cRF cRA c0 c → Fr mGF mRA m0 m → (∀ u, u < f → gA c 29 u = goS p (gA c0 29 u)) → (∀ u, f ≤ u → gA c 29 u = gA c0 29 u) → P2 (f_X2_removeMany_l2 n (cI p) (nI f) c) (f_X12_fontsGo_l2 n' (cI p) (nI f) m) (fun _ c' _ m' => FT c' m' ∧ KA c' ∧ Fr cRF cRA c0 c' ∧ Fr mGF mRA m0 m' ∧ ∀ u, u < 16 → gA c' 29 u = goS p (gA c0 29 u)) := by
  intro n
  induction n with
  | zero => intro n' f c m h; omega
  | succ n ih =>
    intro n' f c m h1 h2 h3 h4 hka h5 h6 h7 h8
    cases n' with
    | zero => omega
    | succ n' =>
      show P2 (f_X2_removeMany_b2 (f_X2_removeMany_l2 n) (cI p) (nI f) c) (f_X12_fontsGo_b2 (f_X12_fontsGo_l2 n') (cI p) (nI f) m) _
      unfold f_X2_removeMany_b2 f_X12_fontsGo_b2
      by_cases q : f = 16
      · subst q
        rw [if_pos (by decide), if_pos (by decide)]
        exact P2_ret ⟨h4, hka, h5, h6, h7⟩
      · obtain ⟨a, b, e1, e2, e3⟩ := h4.sh f (by omega)
        rw [if_neg (show ¬ (16 : Int32) ≤ nI f from nI_ge (b := 16) (by omega) (by omega)), if_neg (show ¬ (16 : Int32) ≤ nI f from nI_ge (b := 16) (by omega) (by omega)), ix_in (j := f) (nI_pos (by omega)) (nI_clamp (by omega)) (by omega), ix_in (j := f) (nI_pos (by omega)) (nI_clamp (by omega)) (by omega), e1, e2, show nI f + 1 = nI (f + 1) from nI_add f 1]
        have eC : gA c0 29 f = sv a b := by rw [← h8 f (Nat.le_refl f)]; exact e3
        -- it goes
        have goes : goS p (sv a b) = 0 → P2 (bd (f_X2_remove (nI f) c) fun _ T1 => f_X2_removeMany_l2 n (cI p) (nI (f + 1)) T1) (bd (f_X12_fontGoes (nI f) m) fun _ T3 => f_X12_fontsGo_l2 n' (cI p) (nI (f + 1)) T3) (fun _ c' _ m' => FT c' m' ∧ KA c' ∧ Fr cRF cRA c0 c' ∧ Fr mGF mRA m0 m' ∧ ∀ u, u < 16 → gA c' 29 u = goS p (gA c0 29 u)) := fun hz => by
          refine P2_bd (P2_fontGo (show f < 16 by omega) h4) ?_
          rintro _ c1 _ m1 ⟨x1, x2, x3, x4, x5, x6⟩
          refine ih n' (f + 1) c1 m1 (by omega) (by omega) (by omega) x1 (KA_mk (Or.inl x2) (fun z => by rw [x2] at z; exact absurd z (by decide))) (h5.trans x3) (h6.trans x4) (fun u hu => ?_) (fun u hu => ?_)
          · rw [x5]
            by_cases z : u = f
            · rw [z, wr_s, eC, hz]
            · rw [wr_o _ z]; exact h7 u (by omega)
          · rw [x5, wr_o _ (by omega)]; exact h8 u (by omega)
        -- it stays, as it is
        have stay : ∀ c1, FT c1 m → KA c1 → Fr cRF cRA c c1 → gA c1 29 = gA c 29 → goS p (sv a b) = sv a b → P2 (f_X2_removeMany_l2 n (cI p) (nI (f + 1)) c1) (f_X12_fontsGo_l2 n' (cI p) (nI (f + 1)) m) (fun _ c' _ m' => FT c' m' ∧ KA c' ∧ Fr cRF cRA c0 c' ∧ Fr mGF mRA m0 m' ∧ ∀ u, u < 16 → gA c' 29 u = goS p (gA c0 29 u)) := fun c1 x1 x2 x3 x5 hz => by
          refine ih n' (f + 1) c1 m (by omega) (by omega) (by omega) x1 x2 (h5.trans x3) h6 (fun u hu => ?_) (fun u hu => ?_)
          · rw [x5]
            by_cases z : u = f
            · rw [z, e3, eC, hz]
            · exact h7 u (by omega)
          · rw [x5]; exact h8 u (by omega)
        cases p
        · rw [if_pos (show cI false = 0 from rfl), if_pos (show cI false = 0 from rfl)]
          cases a
          · rw [if_pos (show cI false = 0 from rfl)]
            unfold f_X2_remove
            rw [lb_eq, sp_has (by omega), bd_eq, show gA (uI c 209 27 0) (28 + 1) f = gA c 29 f from rfl, e3, if_pos (by cases b <;> rfl), bd_eq]
            have z209 : gI (uI c 209 27 0) 209 27 = 0 := by rw [gI_uI, if_pos ⟨rfl, rfl⟩]
            refine stay _ (h4.fr (Fr.refl.uI (PF := cRF) (PA := fun _ => false) _ (by rfl)) (Fr.refl (PF := nF) (PA := fun _ => false)) ⟨rfl, rfl, rfl, rfl, rfl, rfl⟩ ⟨rfl, rfl, rfl, rfl, rfl, rfl, rfl⟩ rfl) (KA_mk (Or.inl z209) (fun z => by rw [z209] at z; exact absurd z (by decide))) (Fr.refl.uI _ (by rfl)) rfl (by cases b <;> rfl)
          · rw [if_neg (show ¬ cI true = 0 by decide)]
            exact goes rfl
        · rw [if_neg (show ¬ cI true = 0 by decide), if_neg (show ¬ cI true = 0 by decide)]
          have et : f_X8_isTemporary 28 (nI f) c = some (cI (a && b), c) := by
            unfold f_X8_isTemporary
            rw [sp_has (by omega), bd_eq, show gA c (28 + 1) f = gA c 29 f from rfl, e3]
            cases a
            · rw [if_pos (by cases b <;> rfl)]; rfl
            · rw [if_neg (by cases b <;> decide), ix_in (j := f) (nI_pos (by omega)) (nI_clamp (by omega)) (by omega), show gA c (28 + 1) f = gA c 29 f from rfl, e3]
              cases b <;> rfl
          rw [et, bd_eq]
          cases a
          · rw [if_pos (show cI (false && b) = 0 from rfl), if_pos (show cI false = 0 from rfl)]
            exact stay c h4 hka Fr.refl rfl (by cases b <;> rfl)
          · rw [if_neg (show ¬ cI true = 0 by decide)]
            cases b
            · rw [if_pos (show cI (true && false) = 0 from rfl), if_pos (show cI false = 0 from rfl)]
              exact stay c h4 hka Fr.refl rfl rfl
            · rw [if_neg (show ¬ cI (true && true) = 0 by decide), if_neg (show ¬ cI true = 0 by decide)]
              exact goes rfl
/-- the class's shelf at O, when things go -/
theorem c_shelf {o : Nat} (p : Bool) : ∀ (n u : Nat) (T : Mm), 16 - u < n → u ≤ 16 → Fr nF (fun a => a == o + 1) c T → (∀ j, gA T (o + 1) j = if j < u then goS p (gA c (o + 1) j) else gA c (o + 1) j) → ∃ c', f_X8_removeMany_l2 n o (cI p) (nI u) T = some ((), c') ∧ Fr nF (fun a => a == o + 1) c c' ∧ ∀ j, gA c' (o + 1) j = if j < 16 then goS p (gA c (o + 1) j) else gA c (o + 1) j := by
  intro n
  induction n with
  | zero => intro u T h; omega
  | succ n ih =>
    intro u T h1 h2 h3 h4
    show ∃ c', f_X8_removeMany_b2 (f_X8_removeMany_l2 n) o (cI p) (nI u) T = _ ∧ _
    unfold f_X8_removeMany_b2
    by_cases q : u = 16
    · subst q
      rw [if_pos (by decide)]
      exact ⟨T, rfl, h3, h4⟩
    · have ixx : ∀ {α : Type} (K : Nat → Option α), ix (nI u) 16 K = K u := fun K => ix_in (nI_pos (by omega)) (nI_clamp (by omega)) (by omega)
      simp only [ixx]
      rw [if_neg (show ¬ (16 : Int32) ≤ nI u from nI_ge (b := 16) (by omega) (by omega)), show nI u + 1 = nI (u + 1) from nI_add u 1]
      have eu : gA T (o + 1) u = gA c (o + 1) u := by rw [h4, if_neg (by omega)]
      have off : goS p (gA c (o + 1) u) = 0 → ∃ c', f_X8_removeMany_l2 n o (cI p) (nI (u + 1)) (uA T (o + 1) u 0) = some ((), c') ∧ Fr nF (fun a => a == o + 1) c c' ∧ ∀ j, gA c' (o + 1) j = if j < 16 then goS p (gA c (o + 1) j) else gA c (o + 1) j := fun hz => by
        refine ih (u + 1) _ (by omega) (by omega) (h3.uA _ _ (by simp)) (fun j => ?_)
        rw [gA_wr]
        by_cases z : j = u
        · rw [z, wr_s, if_pos (by omega), hz]
        · rw [wr_o _ z, h4]
          by_cases y : j < u
          · rw [if_pos y, if_pos (by omega)]
          · rw [if_neg y, if_neg (by omega)]
      cases p
      · rw [if_pos (show cI false = 0 from rfl), lb_eq]
        exact off rfl
      · rw [if_neg (show ¬ cI true = 0 by decide), eu]
        by_cases k : gA c (o + 1) u = 1
        · rw [if_pos k, lb_eq]
          exact off (by rw [k]; rfl)
        · rw [if_neg k]
          refine ih (u + 1) _ (by omega) (by omega) h3 (fun j => ?_)
          rw [h4]
          by_cases z : j = u
          · rw [z, if_neg (by omega), if_pos (by omega)]
            unfold goS
            rw [if_pos rfl, if_neg k]
          · by_cases y : j < u
            · rw [if_pos y, if_pos (by omega)]
            · rw [if_neg y, if_neg (by omega)]
theorem m_usersGo (p : Bool) (hb : ∀ u, u < 16 → ∃ a b, gA m 143 u = cI a ∧ gA m 144 u = cI b) : ∀ (n u : Nat) (T : Mm), 16 - u < n → u ≤ 16 → Fr nF (fun a => a == 143) m T → (∀ j, gA T 143 j = if j < u then cI (p && decide (gA m 143 j = 1) && decide (gA m 144 j = 0)) else gA m 143 j) → ∃ m', f_X12_usersGo_l2 n (cI p) (nI u) T = some ((), m') ∧ Fr nF (fun a => a == 143) m m' ∧ ∀ j, gA m' 143 j = if j < 16 then cI (p && decide (gA m 143 j = 1) && decide (gA m 144 j = 0)) else gA m 143 j := by
  intro n
  induction n with
  | zero => intro u T h; omega
  | succ n ih =>
    intro u T h1 h2 h3 h4
    show ∃ m', f_X12_usersGo_b2 (f_X12_usersGo_l2 n) (cI p) (nI u) T = _ ∧ _
    unfold f_X12_usersGo_b2
    by_cases q : u = 16
    · subst q
      rw [if_pos (by decide)]
      exact ⟨T, rfl, h3, h4⟩
    · have ixx : ∀ {α : Type} (K : Nat → Option α), ix (nI u) 16 K = K u := fun K => ix_in (nI_pos (by omega)) (nI_clamp (by omega)) (by omega)
      have e2 : gA T 144 u = gA m 144 u := by rw [h3.a (show (144 == 143) = false from rfl)]
      obtain ⟨a, b, ea, eb⟩ := hb u (by omega)
      simp only [ixx]
      rw [if_neg (show ¬ (16 : Int32) ≤ nI u from nI_ge (b := 16) (by omega) (by omega)), show nI u + 1 = nI (u + 1) from nI_add u 1, e2, show gA T 143 u = gA m 143 u from by rw [h4, if_neg (by omega)], ea, eb]
      have go : ∀ v : Int32, v = cI (p && decide (gA m 143 u = 1) && decide (gA m 144 u = 0)) → ∃ m', f_X12_usersGo_l2 n (cI p) (nI (u + 1)) (uA T 143 u v) = some ((), m') ∧ Fr nF (fun a => a == 143) m m' ∧ ∀ j, gA m' 143 j = if j < 16 then cI (p && decide (gA m 143 j = 1) && decide (gA m 144 j = 0)) else gA m 143 j := fun v hz => by
        refine ih (u + 1) _ (by omega) (by omega) (h3.uA _ _ (by rfl)) (fun j => ?_)
        rw [gA_wr]
        by_cases z : j = u
        · rw [z, wr_s, if_pos (by omega), hz]
        · rw [wr_o _ z, h4]
          by_cases y : j < u
          · rw [if_pos y, if_pos (by omega)]
          · rw [if_neg y, if_neg (by omega)]
      rw [ea, eb] at go
      cases a
      · rw [if_pos (show cI false = 0 from rfl), lb_eq]
        exact go 0 (by cases p <;> cases b <;> rfl)
      · rw [if_neg (show ¬ cI true = 0 by decide)]
        cases p
        · rw [if_pos (show cI false = 0 from rfl), lb_eq]
          exact go 0 rfl
        · rw [if_neg (show ¬ cI true = 0 by decide)]
          cases b
          · rw [if_pos (show cI false = 0 from rfl), lb_eq]
            exact go 1 rfl
          · rw [if_neg (show ¬ cI true = 0 by decide), lb_eq]
            exact go 0 rfl
/-- both shelves -/
theorem P2_usersGo (p : Bool) (h : SV c m 37 143 144) : ∃ c' m', f_X8_removeMany 36 (cI p) c = some ((), c') ∧ f_X12_usersGo (cI p) m = some ((), m') ∧ Fr nF (fun a => a == 37) c c' ∧ Fr nF (fun a => a == 143) m m' ∧ SV c' m' 37 143 144 ∧ (∀ u, u < 16 → gA c' 37 u = goS p (gA c 37 u)) ∧ (∀ u, u < 16 → gA m' 143 u = 1 → gA m 143 u = 1) := by
  obtain ⟨c', a1, a2, a3⟩ := c_shelf (c := c) (o := 36) p FU 0 c (FU_gt (by omega)) (by omega) Fr.refl (fun j => by rw [if_neg (by omega)])
  obtain ⟨m', b1, b2, b3⟩ := m_usersGo (m := m) p (fun u hu => by
    obtain ⟨a, b, x, y, _⟩ := h u hu
    exact ⟨a, b, x, y⟩) FU 0 m (FU_gt (by omega)) (by omega) Fr.refl (fun j => by rw [if_neg (by omega)])
  refine ⟨c', m', a1, b1, a2, b2, fun u hu => ?_, fun u hu => ?_, fun u hu hh => ?_⟩
  · obtain ⟨a, b, x, y, z⟩ := h u hu
    have a3' : gA c' 37 u = _ := a3 u
    rw [a3', b3, if_pos hu, if_pos hu, b2.a (show (144 == 143) = false from rfl), x, y, show gA c (36 + 1) u = sv a b from z]
    exact ⟨p && a && !b, b, by cases p <;> cases a <;> cases b <;> rfl, rfl, by cases p <;> cases a <;> cases b <;> rfl⟩
  · have a3' : gA c' 37 u = _ := a3 u
    rw [a3', if_pos hu]
  · obtain ⟨a, b, x, y, z⟩ := h u hu
    rw [b3, if_pos hu, x, y] at hh
    rw [x]
    cases a
    · cases p <;> cases b <;> exact absurd hh (by decide)
    · rfl
theorem m_macrosGo (p : Bool) (hb : ∀ u, u < 16 → ∃ a b, gA m 148 u = cI a ∧ gA m 149 u = cI b) : ∀ (n u : Nat) (T : Mm), 16 - u < n → u ≤ 16 → Fr nF (fun a => a == 148) m T → (∀ j, gA T 148 j = if j < u then cI (p && decide (gA m 148 j = 1) && decide (gA m 149 j = 0)) else gA m 148 j) → ∃ m', f_X12_macrosGo_l2 n (cI p) (nI u) T = some ((), m') ∧ Fr nF (fun a => a == 148) m m' ∧ ∀ j, gA m' 148 j = if j < 16 then cI (p && decide (gA m 148 j = 1) && decide (gA m 149 j = 0)) else gA m 148 j := by
  intro n
  induction n with
  | zero => intro u T h; omega
  | succ n ih =>
    intro u T h1 h2 h3 h4
    show ∃ m', f_X12_macrosGo_b2 (f_X12_macrosGo_l2 n) (cI p) (nI u) T = _ ∧ _
    unfold f_X12_macrosGo_b2
    by_cases q : u = 16
    · subst q
      rw [if_pos (by decide)]
      exact ⟨T, rfl, h3, h4⟩
    · have ixx : ∀ {α : Type} (K : Nat → Option α), ix (nI u) 16 K = K u := fun K => ix_in (nI_pos (by omega)) (nI_clamp (by omega)) (by omega)
      have e2 : gA T 149 u = gA m 149 u := by rw [h3.a (show (149 == 148) = false from rfl)]
      obtain ⟨a, b, ea, eb⟩ := hb u (by omega)
      simp only [ixx]
      rw [if_neg (show ¬ (16 : Int32) ≤ nI u from nI_ge (b := 16) (by omega) (by omega)), show nI u + 1 = nI (u + 1) from nI_add u 1, e2, show gA T 148 u = gA m 148 u from by rw [h4, if_neg (by omega)], ea, eb]
      have go : ∀ v : Int32, v = cI (p && decide (gA m 148 u = 1) && decide (gA m 149 u = 0)) → ∃ m', f_X12_macrosGo_l2 n (cI p) (nI (u + 1)) (uA T 148 u v) = some ((), m') ∧ Fr nF (fun a => a == 148) m m' ∧ ∀ j, gA m' 148 j = if j < 16 then cI (p && decide (gA m 148 j = 1) && decide (gA m 149 j = 0)) else gA m 148 j := fun v hz => by
        refine ih (u + 1) _ (by omega) (by omega) (h3.uA _ _ (by rfl)) (fun j => ?_)
        rw [gA_wr]
        by_cases z : j = u
        · rw [z, wr_s, if_pos (by omega), hz]
        · rw [wr_o _ z, h4]
          by_cases y : j < u
          · rw [if_pos y, if_pos (by omega)]
          · rw [if_neg y, if_neg (by omega)]
      rw [ea, eb] at go
      cases a
      · rw [if_pos (show cI false = 0 from rfl), lb_eq]
        exact go 0 (by cases p <;> cases b <;> rfl)
      · rw [if_neg (show ¬ cI true = 0 by decide)]
        cases p
        · rw [if_pos (show cI false = 0 from rfl), lb_eq]
          exact go 0 rfl
        · rw [if_neg (show ¬ cI true = 0 by decide)]
          cases b
          · rw [if_pos (show cI false = 0 from rfl), lb_eq]
            exact go 1 rfl
          · rw [if_neg (show ¬ cI true = 0 by decide), lb_eq]
            exact go 0 rfl
/-- both shelves -/
theorem P2_macrosGo (p : Bool) (h : SV c m 42 148 149) : ∃ c' m', f_X8_removeMany 41 (cI p) c = some ((), c') ∧ f_X12_macrosGo (cI p) m = some ((), m') ∧ Fr nF (fun a => a == 42) c c' ∧ Fr nF (fun a => a == 148) m m' ∧ SV c' m' 42 148 149 ∧ (∀ u, u < 16 → gA c' 42 u = goS p (gA c 42 u)) ∧ (∀ u, u < 16 → gA m' 148 u = 1 → gA m 148 u = 1) := by
  obtain ⟨c', a1, a2, a3⟩ := c_shelf (c := c) (o := 41) p FU 0 c (FU_gt (by omega)) (by omega) Fr.refl (fun j => by rw [if_neg (by omega)])
  obtain ⟨m', b1, b2, b3⟩ := m_macrosGo (m := m) p (fun u hu => by
    obtain ⟨a, b, x, y, _⟩ := h u hu
    exact ⟨a, b, x, y⟩) FU 0 m (FU_gt (by omega)) (by omega) Fr.refl (fun j => by rw [if_neg (by omega)])
  refine ⟨c', m', a1, b1, a2, b2, fun u hu => ?_, fun u hu => ?_, fun u hu hh => ?_⟩
  · obtain ⟨a, b, x, y, z⟩ := h u hu
    have a3' : gA c' 42 u = _ := a3 u
    rw [a3', b3, if_pos hu, if_pos hu, b2.a (show (149 == 148) = false from rfl), x, y, show gA c (41 + 1) u = sv a b from z]
    exact ⟨p && a && !b, b, by cases p <;> cases a <;> cases b <;> rfl, rfl, by cases p <;> cases a <;> cases b <;> rfl⟩
  · have a3' : gA c' 42 u = _ := a3 u
    rw [a3', if_pos hu]
  · obtain ⟨a, b, x, y, z⟩ := h u hu
    rw [b3, if_pos hu, x, y] at hh
    rw [x]
    cases a
    · cases p <;> cases b <;> exact absurd hh (by decide)
    · rfl
theorem goS1 (v : Int32) : ¬ goS true v = 1 := by
  unfold goS
  rw [if_pos rfl]
  by_cases q : v = 1
  · rw [if_pos q]; decide
  · rw [if_neg q]; exact q
/-- what is temporary goes, on both sides -/
theorem P2_drop9 (ft : FT c m) (ka : KA c) (tl : TL c m) (mc : MCq c m) : P2 (f_X9_dropTemporary c) (f_X12_temporaryGo m) (fun _ c2 _ m2 => FT c2 m2 ∧ KA c2 ∧ TL c2 m2 ∧ MCq c2 m2 ∧ NT c2 ∧ Fr cDr cDA c c2 ∧ Fr mDr mDA m m2) := by
  unfold f_X9_dropTemporary f_X12_temporaryGo f_X2_removeMany f_X12_fontsGo
  refine P2_bd (P2_fontsGo (c0 := c) (m0 := m) true FU FU 0 c m (FU_gt (by omega)) (FU_gt (by omega)) (by omega) ft ka Fr.refl Fr.refl (fun u hu => by omega) (fun _ _ => rfl)) ?_
  rintro _ c1 _ m1 ⟨x1, x2, x3, x4, x5⟩
  have tl1 : TL c1 m1 := tl.fr x3 x4 rfl ⟨rfl, rfl, rfl, rfl, rfl⟩ (fun f i a b => by unfold cRF; simp; omega) (fun i a b => by unfold cRA; simp; omega)
  have mc1 : MCq c1 m1 := mc.fr x3 x4 ⟨rfl, rfl, rfl⟩ ⟨rfl, rfl, rfl, rfl⟩
  obtain ⟨c2, m2, a1, a2, a3, a4, a5, a6, a7⟩ := P2_usersGo true tl1.s
  have a1' : f_X8_removeMany 36 1 c1 = some ((), c2) := a1
  have a2' : f_X12_usersGo 1 m1 = some ((), m2) := a2
  rw [a1', a2', bd_eq, bd_eq]
  have mc2 : MCq c2 m2 := mc1.fr a3 a4 ⟨rfl, rfl, rfl⟩ ⟨rfl, rfl, rfl, rfl⟩
  obtain ⟨c3, m3, b1, b2, b3, b4, b5, b6, b7⟩ := P2_macrosGo true mc2.s
  have b1' : f_X8_removeMany 41 1 c2 = some ((), c3) := b1
  have b2' : f_X12_macrosGo 1 m2 = some ((), m3) := b2
  rw [b1', b2', bd_eq, bd_eq]
  have fc : Fr cDr cDA c c3 := ((x3.weak (fun f i e => by unfold cDr at e; unfold cRF; revert e; simp; intro e; simp [e]) (fun a e => by unfold cDA at e; unfold cRA; revert e; simp; omega)).trans (a3.weak (fun _ _ _ => rfl) (fun a e => by unfold cDA at e; revert e; simp; omega))).trans (b3.weak (fun _ _ _ => rfl) (fun a e => by unfold cDA at e; revert e; simp))
  have fm : Fr mDr mDA m m3 := ((x4.weak (fun _ _ e => e) (fun a e => by unfold mDA at e; unfold mRA; revert e; simp; omega)).trans (a4.weak (fun _ _ _ => rfl) (fun a e => by unfold mDA at e; revert e; simp; omega))).trans (b4.weak (fun _ _ _ => rfl) (fun a e => by unfold mDA at e; revert e; simp))
  refine P2_ret ⟨?_, ?_, ?_, ?_, ?_, fc, fm⟩
  · exact (x1.fr a3 a4 ⟨rfl, rfl, rfl, rfl, rfl, rfl⟩ ⟨rfl, rfl, rfl, rfl, rfl, rfl, rfl⟩ rfl).fr b3 b4 ⟨rfl, rfl, rfl, rfl, rfl, rfl⟩ ⟨rfl, rfl, rfl, rfl, rfl, rfl, rfl⟩ rfl
  · exact (x2.fr a3 ⟨rfl, rfl⟩ ⟨rfl, rfl, rfl⟩).fr b3 ⟨rfl, rfl⟩ ⟨rfl, rfl, rfl⟩
  · have t2 : TL c2 m2 := by
      refine TL_mk a5 (fun u hu h1 => ?_)
      have := tl1.t u hu (a7 u hu h1)
      have eu : ur m2 u = ur m1 u := by unfold ur; rw [a4.a (show (145 == 143) = false from rfl), a4.a (show (146 == 143) = false from rfl), a4.a (show (147 == 143) = false from rfl)]
      rw [eu]
      exact this.fr (a3.i rfl) (a3.i rfl) (a3.i rfl) (a3.b (by simp; omega))
    exact t2.fr b3 b4 rfl ⟨rfl, rfl, rfl, rfl, rfl⟩ (fun _ _ _ _ => rfl) (fun i a b => by simp; omega)
  · refine MCq_mk b5 (fun u hu => ?_) ?_
    · obtain ⟨k, k1, k2, k3, k4⟩ := mc2.z u hu
      refine ⟨k, k1, by rw [b3.a rfl]; exact k2, by rw [b4.a rfl]; exact k3, fun h1 => ?_⟩
      rw [b3.a rfl, b4.a (show (151 == 148) = false from rfl)]
      exact k4 (b7 u hu h1)
    · rw [b3.a rfl, b4.a (show (151 == 148) = false from rfl)]; exact mc2.b
  · intro u hu
    refine ⟨?_, ?_, ?_⟩
    · rw [b3.a (show (29 == 42) = false from rfl), a3.a (show (29 == 37) = false from rfl), x5 u hu]; exact goS1 _
    · rw [b3.a (show (37 == 42) = false from rfl), a6 u hu]; exact goS1 _
    · rw [b6 u hu]; exact goS1 _
theorem SHt.of (ft : FT c m) (tl : TL c m) (mc : MCq c m) : SHt c m := fun c' m' fc fm ka => P2_drop9 (ft.fr fc fm ⟨rfl, rfl, rfl, rfl, rfl, rfl⟩ ⟨rfl, rfl, rfl, rfl, rfl, rfl, rfl⟩ rfl) ka (tl.fr fc fm rfl ⟨rfl, rfl, rfl, rfl, rfl⟩ (fun f i a b => by unfold cNS; simp; omega) (fun i a b => by unfold cNA; simp; omega)) (mc.fr fc fm ⟨rfl, rfl, rfl⟩ ⟨rfl, rfl, rfl, rfl⟩)
end B0
