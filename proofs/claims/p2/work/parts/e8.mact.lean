/-! The task of macros but telling, on both sides. -/
section E8
variable {c c' c0 c1 c2 c3 m m' m0 m1 m2 m3 T : Mm} {d w b : Nat} {ov ov' ng sg : Bool} {g L : Nat → Int32} {Gc Gm : Gty} {PF QF : Nat → Nat → Bool} {PA QA : Nat → Bool}
def b42 (a : Nat) : Bool := a == 42
def b148 (a : Nat) : Bool := a == 148 || a == 149
/-- the shelf of macros has changed -/
theorem OU.mcs (h : RR d ov c m) (fc : Fr nF b42 c c') (fm : Fr nF b148 m m') (sv : SV c' m' 42 148 149) (t : ∀ u, u < 16 → gA m' 148 u = 1 → gA m 148 u = 1) : OU d ov c m c' m' := by
  have e34 : gA m' 134 = gA m 134 := fm.a rfl
  refine ⟨Or.inl (h.upd fc fm (fun _ _ _ => rfl) (fun a e => ?_) (fun _ _ => rfl) (fun a e => ?_) (h.ft.fr fc fm ⟨rfl, rfl, rfl, rfl, rfl, rfl⟩ ⟨rfl, rfl, rfl, rfl, rfl, rfl, rfl⟩ rfl) (h.ka.fr fc ⟨rfl, rfl⟩ ⟨rfl, rfl, rfl⟩) (h.tl.fr fc fm rfl ⟨rfl, rfl, rfl, rfl, rfl⟩ (fun _ _ _ _ => rfl) (fun i a b => by unfold b42; simp; omega)) (MCq_mk sv (fun u hu => ?_) ?_)), KP.of fc fm (fun _ _ e => by cases e) (fun a e => ?_) (fun _ _ e => by cases e) (fun a e => ?_), fun _ => by rw [e34]; exact ⟨rfl, rfl⟩⟩
  · cases q : b42 a
    · rfl
    · have : a = 42 := by simpa [b42] using q
      subst this; unfold rcA at e; simp at e
  · cases q : b148 a
    · rfl
    · have : a = 148 ∨ a = 149 := by simpa [b148] using q
      rcases this with rfl | rfl <;> (unfold rcN at e; simp at e)
  · obtain ⟨n, n1, n2, n3, n4⟩ := h.mc.z u hu
    refine ⟨n, n1, by rw [fc.a rfl]; exact n2, by rw [fm.a rfl]; exact n3, fun z => ?_⟩
    rw [fc.a rfl, fm.a rfl]; exact n4 (t u hu z)
  · rw [fc.a rfl, fm.a rfl]; exact h.mc.b
  · have : a = 42 := by simpa [b42] using e
    subst this; unfold skA; simp
  · have : a = 148 ∨ a = 149 := by simpa [b148] using e
    rcases this with rfl | rfl <;> exact ⟨rfl, by decide, by decide⟩
theorem P2_macTask (h : RR d ov c m) (gs : GS Gc Gm d) (v : VL c m d w b ng sg) (n0 : ¬ iz (vz w ng) = 0) : P2 (f_X9_macroTask Gc (iz (vz w ng)) c) (f_X12_macroAct Gm m) (fun _ c' _ m' => OW d ov c m c' m') := by
  have zb := vz_b (ng := ng) v.1
  have stay : P2 (some ((), c)) (some ((), m)) (fun _ c' _ m' => OW d ov c m c' m') := P2_ret (OU.refl h).ow
  obtain ⟨u, u0, u1⟩ := h.eb.k145
  have e119 : gI c 119 45 = nI u := (h.ev.i (119, 0, 145) (by decide)).trans u0
  obtain ⟨a, p, s1, s2, s3⟩ := h.mc.s u (by omega)
  have ixu : ∀ {α : Type} (K : Nat → Option α), ix (nI u) 16 K = K u := fun K => ix_in (j := u) (nI_pos (by omega)) (nI_clamp (by omega)) (by omega)
  have n3 : 3 ≤ d → (3 : Int32) ≤ nI d := fun q => nI_le (a := 3) q (by have := h.d3; omega)
  have n3' : ¬ 3 ≤ d → ¬ (3 : Int32) ≤ nI d := fun q => nI_ge (b := 3) (by omega) (by omega)
  unfold f_X9_macroTask f_X12_macroAct
  rw [v.nm, u0, lb_eq (a := nI u), e119, if_neg n0, if_neg n0]
  by_cases q1 : iz (vz w ng) = 1
  · rw [if_pos q1, q1, if_neg (by decide), if_neg (by decide), if_neg (by decide), if_neg (by decide), if_neg (by decide), if_neg (by decide), if_neg (by decide), if_neg (by decide), if_neg (by decide)]
    exact stay
  rw [if_neg q1]
  by_cases q2 : iz (vz w ng) = 2
  · rw [if_pos q2, if_pos q2, ixu, s1, h.d2, bd_u]
    cases a
    · have gb := gs.b c (u : Int) (by omega) (by omega) h.d1 (Or.inr (Or.inr (by show gA c 42 u = 0; rw [s3]; rfl)))
      rw [← nI_iz] at gb
      rw [if_pos (show cI false = 0 from rfl), gb]; exact stay
    · rw [if_neg (show ¬ cI true = 0 by decide)]
      by_cases q3 : 3 ≤ d
      · have gb := gs.b c (u : Int) (by omega) (by omega) h.d1 (Or.inl q3)
        rw [← nI_iz] at gb
        rw [if_pos (n3 q3), gb]; exact stay
      · rw [if_neg (n3' q3), bd_u]
        exact P2_mono (gs.a c m ov u h (by omega) (by omega) (by rw [s1]; rfl)) (fun _ _ _ _ q => q.ow)
  rw [if_neg q2, if_neg q2]
  by_cases q3 : iz (vz w ng) = 3
  · rw [if_pos q3, if_pos q3, bd_u]
    exact P2_call (by omega) h gs
  rw [if_neg q3, if_neg q3]
  by_cases q4 : iz (vz w ng) = 4
  · rw [if_pos q4, if_pos q4, lb_eq, lb_eq]
    have ei := iz_int (a := (u : Int)) (by omega) (by omega)
    exact P2_ret (OU.env h (EP.one h.ev h.eb (f := 120) (o := 0) (k := 187) (by decide) (by decide) (by decide) (nI u) (by rw [nI_iz, ei]; show (-1 : Int) ≤ _; omega) (by rw [nI_iz, ei]; show _ ≤ (15 : Int); omega))).ow
  rw [if_neg q4, if_neg q4]
  by_cases q5 : iz (vz w ng) = 5
  · rw [if_pos q5, if_pos q5, lb_eq, lb_eq]
    exact P2_ret (OU.env h (EP.one h.ev h.eb (f := 120) (o := 0) (k := 187) (by decide) (by decide) (by decide) (-1) (by decide) (by decide))).ow
  rw [if_neg q5, if_neg q5]
  have go : ∀ p : Bool, P2 (bd (f_X8_removeMany 41 (cI p) c) fun _ T3 => some ((), T3)) (bd (f_X12_macrosGo (cI p) m) fun _ T5 => some ((), T5)) (fun _ c' _ m' => OW d ov c m c' m') := fun p => by
    obtain ⟨c2, m2, x1, x2, x3, x4, x5, x6, x7⟩ := P2_macrosGo p h.mc.s
    rw [x1, x2, bd_eq, bd_eq]
    exact P2_ret (OU.mcs h x3 (x4.weak (fun _ _ y => y) (fun a y => by
      have : ¬ (a = 148 ∨ a = 149) := by simpa [b148] using y
      simp; omega)) x5 x7).ow
  by_cases q6 : iz (vz w ng) = 6
  · rw [if_pos q6, if_pos q6, if_neg (by rw [q6]; decide)]
    exact go false
  rw [if_neg q6, if_neg q6]
  by_cases q7 : iz (vz w ng) = 7
  · rw [if_pos q7, if_pos q7, if_pos q7]
    exact go true
  rw [if_neg q7, if_neg q7]
  by_cases q8 : iz (vz w ng) = 8
  · rw [if_pos q8, if_pos q8, bd_u, ixu, lb_eq]
    unfold f_X8_remove
    rw [if_neg (nI_pos (by omega)), if_neg (show ¬ (16 : Int32) ≤ nI u from nI_ge (b := 16) (by omega) (by omega)), ixu, lb_eq]
    refine P2_ret (OU.mcs h (Fr.refl.uA _ _ (by rfl)) (Fr.refl.uA _ _ (by rfl)) (SV.oneG (u := u) (a := false) (b := p) h.mc.s (by cases p <;> rfl) (fun j _ => gA_one) (fun j _ => gA_one) (fun j _ => ?_)) (fun j hj => ?_)).ow
    · rw [gA_wo _ _ _ (by decide)]
      by_cases q : j = u
      · rw [if_pos q, q, s2]
      · rw [if_neg q]
    · rw [gA_one]
      by_cases q : j = u
      · rw [if_pos q]; intro y; exact absurd y (by decide)
      · rw [if_neg q]; exact id
  rw [if_neg q8, if_neg q8]
  have mk : ∀ t : Bool, P2 (bd (f_X8_mark 41 (nI u) (cI t) c) fun _ T => some ((), T)) (ix (nI u) 16 fun j4 => lb (uA m 149 j4 (cI t)) fun T6 => some ((), T6)) (fun _ c' _ m' => OW d ov c m c' m') := fun t => by
    obtain ⟨c1, x1, x2, x3⟩ := sh_mk (t := t) (show u < 16 by omega) s3
    rw [bd_u, x1, ixu, lb_eq]
    have sm : ∀ j, gA (uA m 149 u (cI t)) 148 j = gA m 148 j := fun j => by rw [gA_wo _ _ _ (by decide)]
    refine P2_ret (OU.mcs h (x2.weak (fun _ _ _ => rfl) (fun a e => by unfold b42 at e; simpa using e)) (Fr.refl.uA _ _ (by rfl)) (SV.oneG (u := u) (a := a) (b := t) h.mc.s rfl (fun j _ => x3 j) (fun j _ => ?_) (fun j _ => gA_one)) (fun j _ => by rw [sm]; exact id)).ow
    rw [sm]
    by_cases q : j = u
    · rw [if_pos q, q, s1]
    · rw [if_neg q]
  unfold f_X12_macroAct_281
  rw [v.nm]
  by_cases q9 : iz (vz w ng) = 9
  · rw [if_pos q9, if_pos q9, if_pos q9, if_pos q9]
    exact mk true
  rw [if_neg q9, if_neg q9]
  by_cases q10 : iz (vz w ng) = 10
  · rw [if_pos q10, if_pos q10, if_neg q9, if_neg q9]
    exact mk false
  · simp only [if_neg q9, if_neg q10]
    exact stay
end E8
