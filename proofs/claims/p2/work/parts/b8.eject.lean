/-! A page comes, on both sides. -/
def OU (d : Nat) (ov : Bool) (c m c' m' : Mm) : Prop := (RR d ov c' m' ∨ MU d ov c' m') ∧ KP d ov c m c' m' ∧ (ov = true → gA m' 134 0 = gA m 134 0 ∧ gA m' 134 1 = gA m 134 1)
def MUQ (d : Nat) (ov : Bool) (c m c' : Mm) : Prop := MU d ov c' m ∧ Fr (skF d ov) (skA d ov) c c'
abbrev Gty : Type := Int32 → Mm → Option (Unit × Mm)
def GS (Gc Gm : Gty) (d : Nat) : Prop := (∀ c m ov u, RR d ov c m → d < 3 → u < 16 → gA m 148 u = 1 → P2 (Gc (nI u) c) (Gm (nI u) m) (fun _ c' _ m' => OU d ov c m c' m')) ∧ (∀ c z, -1 ≤ z → z ≤ 15 → gI c 914 23 = nI d → (3 ≤ d ∨ z = -1 ∨ gA c 42 z.toNat = 0) → Gc (iz z) c = some ((), c)) ∧ (∀ c m ov z, -1 ≤ z → z ≤ 15 → MU d ov c m → wp (Gc (iz z) c) (fun _ c' => MUQ d ov c m c'))
theorem GS.a {Gc Gm : Gty} {d : Nat} (h : GS Gc Gm d) : ∀ c m ov u, RR d ov c m → d < 3 → u < 16 → gA m 148 u = 1 → P2 (Gc (nI u) c) (Gm (nI u) m) (fun _ c' _ m' => OU d ov c m c' m') := h.1
theorem GS.b {Gc Gm : Gty} {d : Nat} (h : GS Gc Gm d) : ∀ c z, -1 ≤ z → z ≤ 15 → gI c 914 23 = nI d → (3 ≤ d ∨ z = -1 ∨ gA c 42 z.toNat = 0) → Gc (iz z) c = some ((), c) := h.2.1
theorem GS.u {Gc Gm : Gty} {d : Nat} (h : GS Gc Gm d) : ∀ c m ov z, -1 ≤ z → z ≤ 15 → MU d ov c m → wp (Gc (iz z) c) (fun _ c' => MUQ d ov c m c') := h.2.2
theorem GS_mk {Gc Gm : Gty} {d : Nat} (a : ∀ c m ov u, RR d ov c m → d < 3 → u < 16 → gA m 148 u = 1 → P2 (Gc (nI u) c) (Gm (nI u) m) (fun _ c' _ m' => OU d ov c m c' m')) (b : ∀ c z, -1 ≤ z → z ≤ 15 → gI c 914 23 = nI d → (3 ≤ d ∨ z = -1 ∨ gA c 42 z.toNat = 0) → Gc (iz z) c = some ((), c)) (u : ∀ c m ov z, -1 ≤ z → z ≤ 15 → MU d ov c m → wp (Gc (iz z) c) (fun _ c' => MUQ d ov c m c')) : GS Gc Gm d := ⟨a, b, u⟩
def cS2A (a : Nat) : Bool := a == 6 || a == 7 || a == 8 || (decide (10 ≤ a) && decide (a ≤ 22))
section B8
variable {c c' c0 c1 c2 m m' m0 m1 m2 T : Mm} {d : Nat} {ov : Bool} {PF QF : Nat → Nat → Bool} {PA QA : Nat → Bool} {g : Nat → Int32} {Gc Gm : Int32 → Mm → Option (Unit × Mm)}
theorem MU.fr (h : MU d ov c m) (fc : Fr PF PA c c') (fm : Fr QF QA m m') (e1 : ∀ f i, PF f i = true → cNS f i = true) (e2 : ∀ a, PA a = true → cNA a = true) (e3 : ∀ f i, QF f i = true → mNS f i = true) (e4 : ∀ a, QA a = true → mNA a = true) (e5 : PF 913 23 = false ∧ PF 914 23 = false ∧ PF 915 23 = false) (ev : ∃ g, EVq c' 45 g ∧ EB g) (ka : KA c') (mu : f_X9_isMuch c' = some (1, c')) (m1 : gI m' 1233 133 = 1) : MU d ov c' m' := by
  refine MU_mk (WC_mk mu ev ((fc.i e5.2.1).trans h.wc.d1) h.wc.d3 ((fc.i e5.2.2).trans h.wc.o1) ka ((fc.r e5.1).trans h.wc.rd) (h.wc.fk.fr fc ⟨by
    cases y : PA 30
    · rfl
    · exact absurd (e2 _ y) (by decide), by
    cases y : PA 31
    · rfl
    · exact absurd (e2 _ y) (by decide), by
    cases y : PA 33
    · rfl
    · exact absurd (e2 _ y) (by decide)⟩)) m1 (h.st.fr (fc.weak (fun f i z => ?_) (fun a z => ?_)) (fm.weak (fun f i z => ?_) (fun a z => ?_)))
  · cases y : PF f i
    · rfl
    · rw [e1 f i y] at z; cases z
  · cases y : PA a
    · rfl
    · rw [e2 a y] at z; cases z
  · cases y : QF f i
    · rfl
    · rw [e3 f i y] at z; cases z
  · cases y : QA a
    · rfl
    · rw [e4 a y] at z; cases z
theorem ns_e {f i : Nat} (e : eF f i = true) : cNS f i = true := by
  unfold eF at e
  have : 45 ≤ i ∧ i ≤ 53 := by simpa using e
  unfold cNS
  have h1 : (i != 27) = true := by simp; omega
  have h2 : (decide (66 ≤ i) && decide (i ≤ 97)) = false := by simp; omega
  rw [h1, h2]; simp
theorem na_e {i : Nat} (e : eA i = true) : cNA i = true := by
  unfold eA at e
  have : 45 ≤ i ∧ i ≤ 53 := by simpa using e
  unfold cNA; simp; omega
/-- the class's environment alone goes on -/
theorem MU.env (h : MU d ov c m) (fc : Fr eF eA c c') (ev : ∃ g, EVq c' 45 g ∧ EB g) : MUQ d ov c m c' := by
  refine ⟨h.fr fc (Fr.refl (PF := nF) (PA := noA)) (fun _ _ => ns_e) (fun _ => na_e) (fun _ _ e => by cases e) (fun _ e => by cases e) ⟨rfl, rfl, rfl⟩ ev (h.wc.ka.fr fc ⟨rfl, rfl⟩ ⟨rfl, rfl, rfl⟩) (mu_fr h.wc.mu (fc.i rfl) (fc.i rfl) (fc.i rfl)) h.m1, fc.weak (fun f i e => ?_) (fun a e => ?_)⟩
  · cases y : eF f i
    · rfl
    · unfold eF at y; unfold skF at e; rw [y] at e; simp at e
  · cases y : eA a
    · rfl
    · unfold eA at y; unfold skA at e; rw [y] at e; simp at e
theorem MUQ.refl (h : MU d ov c m) : MUQ d ov c m c := ⟨h, Fr.refl⟩
theorem MUQ.trans (h : MUQ d ov c m c1) (h2 : MUQ d ov c1 m c2) : MUQ d ov c m c2 := ⟨h2.1, h.2.trans h2.2⟩
theorem c_clear (c : Mm) : ∃ c', f_X0_clear c = some ((), c') ∧ Fr (fun f i => i == 24 && f == 2) (fun a => a == 25) c c' ∧ gI c' 2 24 = 0 ∧ ∀ j, j < 20000 → gA c' 25 j = 0 := by
  unfold f_X0_clear
  rw [lb_eq, f_fill (by decide), bd_eq]
  refine ⟨_, rfl, (Fr.refl.uI _ (by rfl)).vA _ (by rfl), ?_, fun j hj => ?_⟩
  · rw [gI_vA, gI_uI, if_pos ⟨rfl, rfl⟩]
  · rw [gA_vA, if_pos rfl, if_pos (show j < LN 25 from hj)]
theorem sk_cv {d : Nat} {ov : Bool} {f i : Nat} (e : skF d ov f i = false) : cvF f i = false := by
  cases y : cvF f i
  · rfl
  · unfold cvF at y; unfold skF at e; rw [y] at e; simp at e
theorem ska_cv {d : Nat} {ov : Bool} {a : Nat} (e : skA d ov a = false) : cvA a = false := by
  cases y : cvA a
  · rfl
  · unfold cvA at y
    rcases (show a = 25 ∨ a = 26 by simpa using y) with rfl | rfl <;> (unfold skA at e; simp at e)
/-- the canvas alone goes on -/
theorem MU.cv (h : MU d ov c m) (fc : Fr cvF cvA c c') (e5 : gI c' 5 24 = gI c 5 24) : MUQ d ov c m c' := by
  obtain ⟨g, ev, eb⟩ := h.wc.ev
  refine ⟨h.fr fc (Fr.refl (PF := nF) (PA := noA)) (fun f i e => ?_) (fun a e => ?_) (fun _ _ e => by cases e) (fun _ e => by cases e) ⟨rfl, rfl, rfl⟩ ⟨g, ev.fr fc (fun f i a b => by unfold cvF; simp; omega) (fun i a b => by unfold cvA; simp; omega), eb⟩ (h.wc.ka.fr fc ⟨rfl, rfl⟩ ⟨rfl, rfl, rfl⟩) (mu_fr h.wc.mu (fc.i rfl) e5 (fc.i rfl)) h.m1, fc.weak (fun _ _ e => sk_cv e) (fun _ e => ska_cv e)⟩
  · have : i = 24 := by simpa [cvF] using e
    subst this; rfl
  · unfold cvA at e
    rcases (show a = 25 ∨ a = 26 by simpa using e) with rfl | rfl <;> rfl
theorem u_clear (h : MU d ov c m) : wp (f_X0_clear c) (fun _ c' => MUQ d ov c m c') := by
  obtain ⟨c', e1, e2, _, _⟩ := c_clear c
  rw [e1]
  exact wp_ret (h.cv (e2.weak (fun f i e => by unfold cvF at e; revert e; simp; intro a b; exact absurd b a) (fun a e => by unfold cvA at e; revert e; simp; omega)) (e2.i (by rfl)))
theorem RR.white (h : RR d ov c m) : ∃ c' m', f_X0_clear c = some ((), c') ∧ f_X12_white m = some ((), m') ∧ RR d ov c' m' ∧ (∃ v, CV c' m' (gA m' 134) 0 v) ∧ KP d ov c m c' m' ∧ gA m' 134 = gA m 134 := by
  obtain ⟨k, v, hcv⟩ := h.cv
  obtain ⟨c', e1, e2, e3, e4⟩ := c_clear c
  obtain ⟨m', f1, f2, f3, f4⟩ := m_white m
  have fc : Fr cvF cvA c c' := e2.weak (fun f i e => by unfold cvF at e; revert e; simp; intro a b; exact absurd b a) (fun a e => by unfold cvA at e; revert e; simp; omega)
  have fm : Fr mM0 mvA m m' := f4.weak (fun f i e => by unfold mM0 at e; unfold mWhF; revert e; simp; omega) (fun a e => by unfold mvA at e; revert e; simp; omega)
  have pb : ∀ x y, x < 640 → y < 800 → pbit m' x y = false := fun x y hx hy => by
    unfold pbit
    rw [f2 _ (by omega), b_0]
  have cv0 : CV c' m' (gA m 134) 0 v := by
    have hH := lgH_le (gA m 134)
    have hW := lgW_le (gA m 134)
    have hp := pg_le (gA m 134 0)
    refine CV_mk e3 f3 (by omega) ((e2.i (by rfl)).trans hcv.v1) ((f4.j (by rfl)).trans hcv.v2) hcv.v3 ((e2.i (by rfl)).trans hcv.u) (fun x y hx hy => ?_) (fun _ => pb)
    show bt (gA c' 25 (25 * y + x / 32)) (31 - x % 32) = _
    rw [e4 _ (by omega), b_0]
    by_cases q : x < lgW (gA m 134) ∧ y < lgH (gA m 134)
    · have hin := ph_in q.1 q.2
      rw [pb _ _ (by omega) (by omega), Bool.and_false]
    · have : (decide (x < lgW (gA m 134)) && decide (y < lgH (gA m 134))) = false := by
        by_cases q1 : x < lgW (gA m 134)
        · rw [decide_eq_false (fun z => q ⟨q1, z⟩), Bool.and_false]
        · rw [decide_eq_false q1, Bool.false_and]
      rw [this, Bool.false_and]
  have e34 : gA m' 134 = gA m 134 := f4.a (by rfl)
  exact ⟨c', m', e1, f1, h.pg fc fm cv0, ⟨v, by rw [e34]; exact cv0⟩, KP.pg fc (fm.weak (fun f i e => by unfold mvF at e; unfold mM0; revert e; simp; omega) (fun _ e => e)), e34⟩
/-- the pages that came have changed -/
theorem RR.shf (h : RR d ov c m) (fc : Fr cShF cS2A c c') (fm : Fr mShF mShA m m') (sh : Sh c' m') : RR d ov c' m' := by
  obtain ⟨q, q1, q2, q3⟩ := h.gn
  obtain ⟨k, v, hcv⟩ := h.cv
  have e34 : gA m' 134 = gA m 134 := fm.a rfl
  exact RR_mk (by rw [e34]; exact h.ev.fr fc (fun f i a b => by unfold cShF; simp; omega) (fun i a b => by unfold cS2A; simp; omega)) (by rw [e34]; exact h.eb) ((fc.i rfl).trans h.d1) ((fm.i (by rfl)).trans h.d2) h.d3 ((fc.i rfl).trans h.o1) ((fm.i (by rfl)).trans h.o2) ((fm.i (by rfl)).trans h.im) ⟨q, (fc.i rfl).trans q1, (fm.i (by rfl)).trans q2, q3⟩
    ⟨k, v, hcv.fr fc fm (by rw [e34]) (by rw [e34]) ⟨rfl, rfl, rfl⟩ ⟨rfl, rfl⟩ rfl rfl⟩ sh (h.tb.fr fm rfl rfl) (h.ft.fr fc fm ⟨rfl, rfl, rfl, rfl, rfl, rfl⟩ ⟨rfl, rfl, rfl, rfl, rfl, rfl, rfl⟩ rfl)
    (h.ka.fr fc ⟨rfl, rfl⟩ ⟨rfl, rfl, rfl⟩) (h.tl.fr fc fm rfl ⟨rfl, rfl, rfl, rfl, rfl⟩ (fun f i a b => by unfold cShF; simp; omega) (fun i a b => by unfold cS2A; simp; omega)) (h.mc.fr fc fm ⟨rfl, rfl, rfl⟩ ⟨rfl, rfl, rfl, rfl⟩) ((fc.r rfl).trans h.rd) (by rw [fm.r (by rfl)]; exact h.sc)
theorem KP.shf (fc : Fr cShF cS2A c c') (fm : Fr mShF mShA m m') : KP d ov c m c' m' := by
  refine KP.of fc fm (fun f i h => ?_) (fun a h => ?_) (fun f i h => ?_) (fun a h => ?_)
  · unfold cShF at h; unfold skF; rw [h]; simp
  · unfold cS2A at h
    unfold skA
    simp only [Bool.or_eq_true] at h ⊢
    rcases h with ((h | h) | h) | h
    · simp [h]
    · simp [h]
    · simp [h]
    · rw [h]; simp
  · unfold mShF at h
    have : i = 133 ∧ (f = 1242 ∨ f = 1233 ∨ f = 1264 ∨ f = 1265 ∨ f = 1261 ∨ f = 1262 ∨ f = 1263 ∨ f = 1260 ∨ f = 1266 ∨ f = 1240) := by simpa [or_assoc] using h
    obtain ⟨rfl, rfl | rfl | rfl | rfl | rfl | rfl | rfl | rfl | rfl | rfl⟩ := this <;> exact ⟨rfl, by decide⟩
  · unfold mShA at h
    have : a = 161 ∨ a = 167 ∨ a = 168 ∨ a = 158 ∨ a = 159 ∨ a = 160 := by simpa [or_assoc] using h
    rcases this with rfl | rfl | rfl | rfl | rfl | rfl <;> exact ⟨rfl, by decide, by decide⟩
/-- what comes of the copies -/
def EJQ (d : Nat) (ov : Bool) (c m c' m' : Mm) : Prop := ((RR d ov c' m' ∧ ∃ v, CV c' m' (gA m' 134) 0 v) ∨ MU d ov c' m') ∧ KP d ov c m c' m' ∧ gA m' 134 = gA m 134
theorem EJQ.pre (h : KP d ov c m c1 m1) (e : gA m1 134 = gA m 134) (h2 : EJQ d ov c1 m1 c' m') : EJQ d ov c m c' m' := ⟨h2.1, h.trans h2.2.1, h2.2.2.trans e⟩
/-- much came by a page -/
theorem u_end (h : MU d ov c m) : ∃ c' m', f_X0_clear c = some ((), c') ∧ f_X12_white m = some ((), m') ∧ EJQ d ov c m c' m' := by
  obtain ⟨u, c', e1, e2, e3⟩ := u_clear h
  obtain ⟨m', f1, f2, f3, f4⟩ := m_white m
  have fm : Fr mM0 mvA m m' := f4.weak (fun f i e => by unfold mM0 at e; unfold mWhF; revert e; simp; omega) (fun a e => by unfold mvA at e; revert e; simp; omega)
  refine ⟨c', m', e1, f1, Or.inr (e2.fr (Fr.refl (PF := nF) (PA := noA)) fm (fun _ _ e => by cases e) (fun _ e => by cases e) (fun f i e => ?_) (fun a e => ?_) ⟨rfl, rfl, rfl⟩ e2.wc.ev e2.wc.ka e2.wc.mu ((fm.i (by rfl)).trans e2.m1)), ?_, f4.a (by rfl)⟩
  · unfold mM0 at e
    have : i = 133 ∧ (f = 1235 ∨ f = 1236 ∨ f = 1249) := by simpa [or_assoc] using e
    obtain ⟨rfl, rfl | rfl | rfl⟩ := this <;> rfl
  · unfold mvA at e
    rcases (show a = 157 ∨ a = 163 by simpa using e) with rfl | rfl <;> rfl
  · have k0 : KP d ov c m c m' := KP.pg Fr.refl (fm.weak (fun f i e => by unfold mvF at e; unfold mM0; revert e; simp; omega) (fun _ e => e))
    exact KP_mk e3 k0.fm k0.p1 k0.p2 k0.p3 k0.p4
theorem P2_copies {C : Nat} (hC : C ≤ 4) : ∀ (n n' k : Nat) (c m : Mm), C + 1 - k < n → C + 1 - k < n' → k ≤ C → RR d ov c m → gA m 134 8 = nI C → P2 (f_X9_eject_l115 Gc n (nI k) c) (f_X12_eject_l107 Gm n' (nI C) (nI k) m) (fun _ c' _ m' => EJQ d ov c m c' m') := by
  intro n
  induction n with
  | zero => intro n' k c m h; omega
  | succ n ih =>
    intro n' k c m h1 h2 h3 h4 h5
    cases n' with
    | zero => omega
    | succ n' =>
      have e106 : gI c 106 45 = nI C := (h4.ev.i (106, 0, 8) (by decide)).trans h5
      show P2 (f_X9_eject_b115 Gc (f_X9_eject_l115 Gc n) (nI k) c) (f_X12_eject_b107 Gm (f_X12_eject_l107 Gm n') (nI C) (nI k) m) _
      unfold f_X9_eject_b115 f_X12_eject_b107
      rw [e106]
      by_cases q : C ≤ k
      · obtain ⟨c', m', a1, a2, a3, a4, a5, a6⟩ := h4.white
        rw [if_pos (nI_le q (by omega)), if_pos (nI_le q (by omega)), a1, a2, bd_eq, bd_eq]
        exact P2_ret ⟨Or.inl ⟨a3, a4⟩, a5, a6⟩
      · obtain ⟨p, hp1, hp2⟩ := h4.sh.pp
        obtain ⟨kk, v, hcv⟩ := h4.cv
        have kd := kq_dots p (by omega)
        have hp := pg_le (gA m 134 0)
        have hp3 : 1 ≤ pgW (gA m 134 0) ∧ 1 ≤ pgH (gA m 134 0) := by unfold pgW pgH; split <;> (try split) <;> (try split) <;> omega
        rw [if_neg (nI_ge (by omega) (by omega)), if_neg (nI_ge (by omega) (by omega)), h4.nm, bd_eq, if_pos rfl, h4.sh.z.2, if_pos rfl, next_page hp2 hp1, bd_eq, gd_eq kd.1]
        have sf := h4.ev.sf h4.eb
        obtain ⟨c1, b1, b2, b3, b4⟩ := c_copyTo (v := 10 + p) kd.2 (by omega) sf hcv
        have sf1 : SF c1 46 (gA m 134) := sf.fr b2 ⟨rfl, rfl⟩
        rw [b1, bd_eq, c_pw sf1, bd_eq, c_ph sf1, bd_eq, m_pw, bd_eq, m_ph, bd_eq]
        have sh1 : Sh c1 m := h4.sh.fr hp1 hp2 b2 (Fr.refl (PF := nF) (PA := noA)) (fun _ => rfl) ⟨by unfold pgA; simp; omega, by unfold pgA; simp; omega, by unfold pgA; simp; omega, fun i hi => by unfold pgA; simp; omega⟩ ⟨rfl, rfl, rfl, rfl⟩ ⟨rfl, rfl, rfl, rfl⟩
        have fc1 : Fr cShF cS2A c c1 := b2.weak (fun _ _ _ => rfl) (fun a e => by
          by_cases z : a = 10 + p
          · rw [z] at e
            unfold cS2A at e
            rw [decide_eq_true (show 10 ≤ 10 + p by omega), decide_eq_true (show 10 + p ≤ 22 by omega)] at e
            simp at e
          · unfold pgA; simp [z])
        refine P2_bd (P2_come sh1 ((b2.i rfl).trans hp1) hp2 h4.tb hp3.1 hp.1 hp3.2 hp.2 ⟨b3, b4⟩) ?_
        rintro _ c2 _ m2 ⟨⟨y, y1, y2, y3⟩, fc2, fm2⟩
        have fc3 : Fr cShF cS2A c c2 := fc1.trans (fc2.weak (fun _ _ e => e) (fun a e => by unfold cS2A at e; unfold cShA; revert e; simp; omega))
        have e34 : gA m2 134 = gA m 134 := fm2.a rfl
        rw [show nI k + 1 = nI (k + 1) from nI_add k 1]
        cases y
        · have rr2 := h4.shf fc3 fm2 (y3 rfl)
          refine P2_mono (ih n' (k + 1) c2 m2 (by omega) (by omega) (by omega) rr2 (by rw [e34]; exact h5)) ?_
          intro _ c' _ m' hq
          exact EJQ.pre (KP.shf fc3 fm2) e34 hq
        · have mu2 : MU d ov c2 m2 := by
            refine h4.mu (g' := gA m 134) fc3 fm2 (fun f i e => ?_) (fun a e => ?_) (fun f i e => ?_) (fun a e => ?_) ⟨rfl, rfl, rfl⟩ (h4.ev.fr fc3 (fun f i a b => by unfold cShF; simp; omega) (fun i a b => by unfold cS2A; simp; omega)) h4.eb (h4.ka.fr fc3 ⟨rfl, rfl⟩ ⟨rfl, rfl, rfl⟩) (mu_mk (Or.inr (Or.inr (by rw [y1]; decide)))) y2
            · have : i = 5 := by simpa [cShF] using e
              subst this; rfl
            · unfold cS2A at e
              have : a = 6 ∨ a = 7 ∨ a = 8 ∨ (10 ≤ a ∧ a ≤ 22) := by simpa [or_assoc] using e
              unfold cNA; simp; omega
            · unfold mShF at e
              have : i = 133 ∧ (f = 1242 ∨ f = 1233 ∨ f = 1264 ∨ f = 1265 ∨ f = 1261 ∨ f = 1262 ∨ f = 1263 ∨ f = 1260 ∨ f = 1266 ∨ f = 1240) := by simpa [or_assoc] using e
              obtain ⟨rfl, rfl | rfl | rfl | rfl | rfl | rfl | rfl | rfl | rfl | rfl⟩ := this <;> rfl
            · unfold mShA at e
              have : a = 161 ∨ a = 167 ∨ a = 168 ∨ a = 158 ∨ a = 159 ∨ a = 160 := by simpa [or_assoc] using e
              rcases this with rfl | rfl | rfl | rfl | rfl | rfl <;> rfl
          obtain ⟨c', m', z1, z2, z3⟩ := u_end mu2
          cases n with
          | zero => omega
          | succ n =>
            cases n' with
            | zero => omega
            | succ n' =>
              have ec : f_X9_eject_l115 Gc (n + 1) (nI (k + 1)) c2 = some ((), c') := by
                show f_X9_eject_b115 Gc (f_X9_eject_l115 Gc n) (nI (k + 1)) c2 = _
                unfold f_X9_eject_b115
                rw [mu2.wc.mu, bd_eq, if_neg (show ¬ (1 : Int32) = 0 by decide), z1, bd_eq]
                split <;> rfl
              have em : f_X12_eject_l107 Gm (n' + 1) (nI C) (nI (k + 1)) m2 = some ((), m') := by
                show f_X12_eject_b107 Gm (f_X12_eject_l107 Gm n') (nI C) (nI (k + 1)) m2 = _
                unfold f_X12_eject_b107
                rw [mu2.m1, if_neg (show ¬ (1 : Int32) = 0 by decide), z2, bd_eq]
                split <;> rfl
              rw [ec, em]
              exact P2_ret (EJQ.pre (KP.shf fc3 fm2) e34 z3)
end B8
