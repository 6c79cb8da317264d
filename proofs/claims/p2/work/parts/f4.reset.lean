/-! The reset, on both sides. -/
section F4
variable {c c' c0 c1 c2 c3 m m' m0 m1 m2 m3 T : Mm} {d w b s : Nat} {ov ov' ng sg : Bool} {g L : Nat → Int32} {Gc Gm : Gty} {PF QF : Nat → Nat → Bool} {PA QA : Nat → Bool}
theorem fonts_0 (h : ∀ u, u < 16 → ¬ gA c 29 u = 1) : ∀ n u, 16 - u < n → u ≤ 16 → f_X2_removeMany_l2 n 1 (nI u) c = some ((), c) := by
  intro n
  induction n with
  | zero => intro u h; omega
  | succ n ih =>
    intro u h1 h2
    show f_X2_removeMany_b2 (f_X2_removeMany_l2 n) 1 (nI u) c = _
    unfold f_X2_removeMany_b2
    by_cases q : u = 16
    · rw [if_pos (show (16 : Int32) ≤ nI u from nI_le (a := 16) (by omega) (by omega))]
    · have e : f_X8_isTemporary 28 (nI u) c = some (0, c) := by
        unfold f_X8_isTemporary
        rw [sp_has (by omega), bd_eq]
        by_cases y : gA c (28 + 1) u = 0
        · rw [decide_eq_true y]; rfl
        · rw [decide_eq_false y, if_neg (show ¬ cI (!false) = 0 by decide), ix_in (j := u) (nI_pos (by omega)) (nI_clamp (by omega)) (by omega), if_neg (h u (by omega))]
      rw [if_neg (show ¬ (16 : Int32) ≤ nI u from nI_ge (b := 16) (by omega) (by omega)), if_neg (by decide), e, bd_eq, if_pos rfl, show nI u + 1 = nI (u + 1) from nI_add u 1]
      exact ih (u + 1) (by omega) (by omega)
theorem shelf_0 {o : Nat} (h : ∀ u, u < 16 → ¬ gA c (o + 1) u = 1) : ∀ n u, 16 - u < n → u ≤ 16 → f_X8_removeMany_l2 n o 1 (nI u) c = some ((), c) := by
  intro n
  induction n with
  | zero => intro u h; omega
  | succ n ih =>
    intro u h1 h2
    show f_X8_removeMany_b2 (f_X8_removeMany_l2 n) o 1 (nI u) c = _
    unfold f_X8_removeMany_b2
    by_cases q : u = 16
    · rw [if_pos (show (16 : Int32) ≤ nI u from nI_le (a := 16) (by omega) (by omega))]
    · rw [if_neg (show ¬ (16 : Int32) ≤ nI u from nI_ge (b := 16) (by omega) (by omega)), if_neg (by decide), ix_in (j := u) (nI_pos (by omega)) (nI_clamp (by omega)) (by omega), if_neg (h u (by omega)), show nI u + 1 = nI (u + 1) from nI_add u 1]
      exact ih (u + 1) (by omega) (by omega)
/-- nothing temporary is there: nothing goes -/
theorem drop_0 (h : NT c) : f_X9_dropTemporary c = some ((), c) := by
  unfold f_X9_dropTemporary f_X2_removeMany f_X8_removeMany
  rw [show f_X2_removeMany_l2 FU 1 0 c = some ((), c) from fonts_0 (fun u hu => (h u hu).1) FU 0 (FU_gt (by omega)) (by omega), bd_eq, show f_X8_removeMany_l2 FU 36 1 0 c = some ((), c) from shelf_0 (o := 36) (fun u hu => (h u hu).2.1) FU 0 (FU_gt (by omega)) (by omega), bd_eq, show f_X8_removeMany_l2 FU 41 1 0 c = some ((), c) from shelf_0 (o := 41) (fun u hu => (h u hu).2.2) FU 0 (FU_gt (by omega)) (by omega), bd_eq]
theorem Fr_cns : Fr cNS cNA c c := Fr.refl
/-- what is temporary goes on the class's side alone -/
theorem SHt.drop (h : SHt c m) (ka : KA c) : ∃ c2, f_X9_dropTemporary c = some ((), c2) ∧ Fr cDr cDA c c2 ∧ KA c2 ∧ FCs c2 ∧ SHt c2 m := by
  obtain ⟨_, c2, _, m2, e1, e2, x1, x2, x3, x4, x5, x6, x7⟩ := h c m Fr.refl Fr.refl ka
  refine ⟨c2, e1, x6, x2, x1.fcs, fun c' m' fc fm ka' => ?_⟩
  obtain ⟨_, c3, _, m3, f1, f2, y1, y2, y3, y4, y5, y6, y7⟩ := h c m' Fr.refl fm ka
  have ec : c3 = c2 := by
    rw [e1] at f1
    exact (congrArg Prod.snd (Option.some.inj f1)).symm
  subst ec
  have nt : NT c' := fun u hu => by rw [fc.a rfl, fc.a rfl, fc.a rfl]; exact x5 u hu
  rw [drop_0 nt, f2]
  exact P2_ret ⟨y1.fr fc (Fr.refl (PF := nF) (PA := noA)) ⟨rfl, rfl, rfl, rfl, rfl, rfl⟩ ⟨rfl, rfl, rfl, rfl, rfl, rfl, rfl⟩ rfl, ka', y3.fr fc (Fr.refl (PF := nF) (PA := noA)) rfl ⟨rfl, rfl, rfl, rfl, rfl⟩ (fun f i a b => by unfold cNS; simp; omega) (fun i a b => by unfold cNA; simp; omega), y4.fr fc (Fr.refl (PF := nF) (PA := noA)) ⟨rfl, rfl, rfl⟩ ⟨rfl, rfl, rfl, rfl⟩, nt, Fr.refl, y7⟩
/-- the environment anew, and what is temporary goes: the class alone -/
theorem u_rs (h : MU d ov c m) : wp (bd (f_X1_reset 45 1 0 c) fun _ T2 => bd (f_X9_dropTemporary T2) fun _ T3 => some ((), T3)) (fun _ c' => MUQ d ov c m c') := by
  obtain ⟨c1, a1, a2, a3⟩ := c_reset9 (c := c) (f := 1) (o := 0) (by omega) (by omega)
  have a1' : f_X1_reset 45 1 0 c = some ((), c1) := a1
  have q := h.env a2 ⟨_, a3, gE_b (by omega) (by omega)⟩
  obtain ⟨c2, b1, b2, b3, b4, b5⟩ := q.1.st.drop q.1.wc.ka
  rw [a1', bd_eq, b1, bd_eq]
  refine wp_ret ⟨MU_mk (WC_mk (mu_fr q.1.wc.mu (b2.i rfl) (b2.i rfl) (b2.i rfl)) ?_ ((b2.i rfl).trans q.1.wc.d1) q.1.wc.d3 ((b2.i rfl).trans q.1.wc.o1) b3 ((b2.r rfl).trans q.1.wc.rd) b4) q.1.m1 b5, q.2.trans (b2.weak (fun f i e => ?_) (fun a e => ?_))⟩
  · obtain ⟨g, ev, eb⟩ := q.1.wc.ev
    exact ⟨g, ev.fr b2 (fun f i a b => by unfold cDr; simp; omega) (fun i a b => by unfold cDA; simp; omega), eb⟩
  · unfold skF at e; unfold cDr
    cases y : (i == 27)
    · rfl
    · rw [y] at e; simp at e
  · unfold skA at e; unfold cDA; revert e; simp; omega
/-- the same on both sides, the page being white -/
theorem two_rs {v : Nat} (h : RR d ov c m) (cv : CV c m (gA m 134) 0 v) : ∃ c' m', (bd (f_X1_reset 45 1 0 c) fun _ T2 => bd (f_X9_dropTemporary T2) fun _ T3 => some ((), T3)) = some ((), c') ∧ (bd (f_X12_reset 1 0 m) fun _ T8 => bd (f_X12_temporaryGo T8) fun _ T9 => some ((), T9)) = some ((), m') ∧ RR d ov c' m' ∧ KP d ov c m c' m' := by
  obtain ⟨c1, a1, a2, a3⟩ := c_reset9 (c := c) (f := 1) (o := 0) (by omega) (by omega)
  have a1' : f_X1_reset 45 1 0 c = some ((), c1) := a1
  obtain ⟨m1, b1, b2, b3⟩ := m_reset9 (m := m) (f := 1) (o := 0) (by omega) (by omega)
  have b1' : f_X12_reset 1 0 m = some ((), m1) := b1
  have h1 : RR d ov c1 m1 := h.newp a2 b2 (a3.congr b3) ((gE_b (by omega) (by omega)).congr b3) cv
  obtain ⟨_, c2, _, m2, e1, e2, x1, x2, x3, x4, x5, x6, x7⟩ := P2_drop9 h1.ft h1.ka h1.tl h1.mc
  rw [a1', b1', bd_eq, bd_eq, e1, e2, bd_eq, bd_eq]
  refine ⟨c2, m2, rfl, rfl, h1.upd x6 x7 (fun f i e => ?_) (fun a e => ?_) (fun f e => ?_) (fun a e => ?_) x1 x2 x3 x4, (KP.env a2 b2).trans (KP.of x6 x7 (fun f i e => ?_) (fun a e => ?_) (fun f i e => ?_) (fun a e => ?_))⟩
  · unfold rcF at e; unfold cDr; revert e; simp; omega
  · unfold rcA at e; unfold cDA; revert e; simp; omega
  · unfold rcM at e; unfold mDr; revert e; simp; omega
  · unfold rcN at e; unfold mDA; revert e; simp; omega
  · unfold cDr at e
    have : i = 27 := by simpa using e
    subst this; unfold skF; simp
  · unfold cDA at e; unfold skA
    have : (29 ≤ a ∧ a ≤ 35) ∨ a = 37 ∨ a = 42 := by revert e; simp; omega
    simp; omega
  · unfold mDr at e
    have : i = 133 ∧ f = 1209 := by simpa using e
    obtain ⟨rfl, rfl⟩ := this
    exact ⟨rfl, by decide⟩
  · unfold mDA at e
    have : a = 136 ∨ a = 139 ∨ a = 140 ∨ a = 143 ∨ a = 148 := by simpa [or_assoc] using e
    rcases this with rfl | rfl | rfl | rfl | rfl <;> exact ⟨rfl, by decide, by decide⟩
theorem P2_reset9 (h : RR d false c m) (gs : GS Gc Gm d) : P2 (f_X9_reset Gc c) (bd (f_X12_eject Gm m) fun _ T7 => if (gI T7 1233 133) = 0 then (bd (f_X12_reset 1 0 T7) fun _ T8 => bd (f_X12_temporaryGo T8) fun _ T9 => some ((), T9)) else (some ((), T7))) (fun _ c' _ m' => OU d false c m c' m') := by
  unfold f_X9_reset
  refine P2_bd (P2_eject h gs) ?_
  rintro _ c1 _ m1 ⟨ou, wh⟩
  rcases ou.1 with rr | mu
  · obtain ⟨v, cv⟩ := wh rfl rr
    obtain ⟨c2, m2, x1, x2, x3, x4⟩ := two_rs rr cv
    rw [rr.sh.z.2, if_pos rfl, x1, x2]
    exact P2_ret ⟨Or.inl x3, ou.2.1.trans x4, fun z => by cases z⟩
  · obtain ⟨_, c2, x1, x2⟩ := u_rs mu
    rw [if_neg (show ¬ gI m1 1233 133 = 0 by rw [mu.m1]; decide), x1]
    exact P2_ret (ou.muc x2)
end F4
