/-! The end of a print, on both sides. -/
section J8
variable {c c' c0 c1 c2 c3 m m' m0 m1 m2 m3 T T' M' : Mm} {s p a ps N : Nat} {PF QF : Nat → Nat → Bool} {PA QA : Nat → Bool}
def PGJ (c m : Mm) : Prop := ∃ s p, OJ c m s ∧ gI c 602 5 = nI p ∧ gI m 1240 133 = nI p ∧ p ≤ 12 ∧ ∀ i, i < p → Pg c m i
def FLT (c m : Mm) : Prop := gI c 1109 0 = gI m 1243 133 ∧ gI c 1110 0 = gI m 1244 133 ∧ gI c 1111 0 = gI m 1245 133
/-- behind a print -/
def JE (c m : Mm) : Prop := PI 0 c m ∧ ST c m ∧ FLT c m ∧ PGJ c m ∧ FT c m ∧ KA c ∧ TL c m ∧ MCq c m
theorem Sh.pgj (h : Sh c m) : PGJ c m := by
  obtain ⟨s, p, w, z1, z2, z3, z4, _⟩ := h
  exact ⟨s, p, ⟨w.1, w.2.1, w.2.2.1, w.2.2.2.1⟩, z1, z2, z3, z4⟩
theorem PI.zero (h : PI ps c m) (fc : Fr PF PA c c') (fm : Fr QF QA m m') (z1 : gI c' 1105 0 = 0) (z2 : gI m' 1222 133 = 0) (e1 : PF 1101 0 = false) (e2 : PA 2 = false ∧ PA 3 = false ∧ PA 4 = false ∧ PA 132 = false ∧ PA 1 = false) (e3 : QF 1224 133 = false) (e4 : QA 152 = false ∧ QA 153 = false ∧ QA 154 = false ∧ QA 165 = false ∧ QA 166 = false ∧ QA 155 = false) : PI 0 c' m' := by
  obtain ⟨a1, a2, a3, a4, ⟨st, a5⟩, a6, a7, a8, a9, tn, t1, t2, t3, t4⟩ := h
  obtain ⟨b1, b2, b3, b4, b5⟩ := e2
  obtain ⟨d1, d2, d3, d4, d5, d6⟩ := e4
  refine ⟨z1, z2, by omega, fun a ha => absurd ha (Nat.not_lt_zero a), ⟨st, fun a ha => ?_⟩, ?_, ?_, a8.fr fc b4, a9.fr fm d4 d5, tn, (fc.i e1).trans t1, (fm.i e3).trans t2, t3, by rw [fc.a b5, fm.a d6]; exact t4⟩
  · have ha0 : a = 0 := by omega
    subst ha0
    obtain ⟨y1, y2, y3, _⟩ := a5 0 (by omega)
    rw [fc.a b3, fm.a d2]
    exact ⟨y1, y2, y3, fun y => absurd y (by omega)⟩
  · rw [fc.a b1, fm.a d1]; exact a6
  · rw [fm.a d1]; exact a7
def e05 (f i : Nat) : Bool := i == 0 && f == 1105
def e22 (f i : Nat) : Bool := i == 133 && f == 1222
theorem P2_pEnd (h : PJ ps c m) : P2 (f_X11_print_191 c) (f_X12_print_153 m) (fun r c' r' m' => r = r' ∧ JE c' m') := by
  obtain ⟨pi, st, hh⟩ := h
  unfold f_X11_print_191 f_X12_print_153
  obtain ⟨c1, hc1⟩ : ∃ c1, c1 = uI c 1105 0 0 := ⟨_, rfl⟩
  obtain ⟨m1, hm1⟩ : ∃ m1, m1 = uI m 1222 133 0 := ⟨_, rfl⟩
  have fc : Fr e05 noA c c1 := by rw [hc1]; exact Fr.refl.uI _ (by rfl)
  have fm : Fr e22 noA m m1 := by rw [hm1]; exact Fr.refl.uI _ (by rfl)
  have z1 : gI c1 1105 0 = 0 := by rw [hc1, gI_uI, if_pos ⟨rfl, rfl⟩]
  have z2 : gI m1 1222 133 = 0 := by rw [hm1, gI_uI, if_pos ⟨rfl, rfl⟩]
  rw [lb_eq, lb_eq, ← hc1, ← hm1]
  have st1 : ST c1 m1 := st.fr fc fm rfl rfl rfl rfl
  rcases hh with ⟨bt, n1, n2, n3, n4, n5, n6⟩ | ⟨sht, ka, e, a, x, e1, e2, e3, n1, n2, n3, n4, n5, n6⟩
  · rw [show gI c1 1109 0 = 0 from (fc.i rfl).trans n1, if_pos rfl, show gI m1 1243 133 = 0 from (fm.i rfl).trans n2, if_pos rfl]
    obtain ⟨_, _, _, sh, tb, ft, kb, tl, mc, _⟩ := bt
    obtain ⟨p, hp1, hp2⟩ := sh.pp
    have sh1 : Sh c1 m1 := sh.fr hp1 hp2 fc fm (fun _ => rfl) ⟨rfl, rfl, rfl, fun _ _ => rfl⟩ ⟨rfl, rfl, rfl, rfl⟩ ⟨rfl, rfl, rfl, rfl⟩
    have pg := sh1.pgj
    refine P2_ret ⟨?_, pi.zero fc fm z1 z2 rfl ⟨rfl, rfl, rfl, rfl, rfl⟩ rfl ⟨rfl, rfl, rfl, rfl, rfl, rfl⟩, st1, ⟨?_, ?_, ?_⟩, pg, ft.fr fc fm ⟨rfl, rfl, rfl, rfl, rfl, rfl⟩ ⟨rfl, rfl, rfl, rfl, rfl, rfl, rfl⟩ rfl, kb.fr fc ⟨rfl, rfl⟩ ⟨rfl, rfl, rfl⟩, tl.fr fc fm rfl ⟨rfl, rfl, rfl, rfl, rfl⟩ (fun f i a b => by unfold e05; simp; omega) (fun _ _ _ => rfl), mc.fr fc fm ⟨rfl, rfl, rfl⟩ ⟨rfl, rfl, rfl, rfl⟩⟩
    · obtain ⟨s, p, _, y1, y2, _⟩ := pg
      rw [y1, y2]
    · rw [fc.i rfl, fm.i rfl, n1, n2]
    · rw [fc.i rfl, fm.i rfl, n3, n4]
    · rw [fc.i rfl, fm.i rfl, n5, n6]
  · have he0 : ¬ nI e = 0 := nI_ne0 (by omega) (by omega)
    rw [show gI c1 1109 0 = nI e from (fc.i rfl).trans n1, if_neg he0, show gI m1 1243 133 = nI e from (fm.i rfl).trans n2, if_neg he0]
    obtain ⟨c2, hc2⟩ : ∃ c2, c2 = uI (uI (uI c1 601 5 0) 602 5 0) 603 5 0 := ⟨_, rfl⟩
    have fc2 : Fr (fun _ i => i == 5) noA c1 c2 := by rw [hc2]; exact ((Fr.refl.uI _ (by rfl)).uI _ (by rfl)).uI _ (by rfl)
    have ecl : f_X6_clear c1 = some ((), c2) := by rw [hc2]; rfl
    have g2 : Fr cNS cNA c c2 := (fc.weak (fun f i z => by unfold cNS at z; unfold e05; revert z; simp; omega) (fun _ _ => rfl)).trans (fc2.weak (fun f i z => by unfold cNS at z; revert z; simp; omega) (fun _ _ => rfl))
    have k2 : Fr mNS mNA m m1 := fm.weak (fun f i z => by unfold mNS at z; unfold e22; revert z; simp; omega) (fun _ _ => rfl)
    have ka2 : KA c2 := (ka.fr fc ⟨rfl, rfl⟩ ⟨rfl, rfl, rfl⟩).fr fc2 ⟨rfl, rfl⟩ ⟨rfl, rfl, rfl⟩
    obtain ⟨_, c3, _, m3, w1, w2, ft, kb, tl, mc, _, f3, h3⟩ := sht c2 m1 g2 k2 ka2
    rw [ecl, bd_eq, w1, w2, bd_eq, bd_eq, lb_eq, lb_eq]
    obtain ⟨m4, hm4⟩ : ∃ m4, m4 = uI (uI m3 1240 133 0) 1242 133 0 := ⟨_, rfl⟩
    rw [← hm4]
    have h4 : Fr (fun f i => i == 133 && (f == 1240 || f == 1242)) noA m3 m4 := by rw [hm4]; exact (Fr.refl.uI _ (by rfl)).uI _ (by rfl)
    have x1109 : gI c3 1109 0 = nI e := by rw [f3.i rfl, fc2.i rfl, fc.i rfl, n1]
    have y1243 : gI m4 1243 133 = nI e := by rw [h4.i rfl, h3.i rfl, fm.i rfl, n2]
    have y1243' : gI (uI (uI m3 1240 133 0) 1242 133 0) 1243 133 = nI e := by rw [← hm4]; exact y1243
    have rc : Fr nF noA c3 c3 := Fr.refl
    have rm : Fr nF noA m1 m1 := Fr.refl
    have pi4 : PI 0 c3 m4 := ((((pi.zero fc fm z1 z2 rfl ⟨rfl, rfl, rfl, rfl, rfl⟩ rfl ⟨rfl, rfl, rfl, rfl, rfl, rfl⟩).fr fc2 rm ⟨rfl, rfl⟩ ⟨rfl, rfl, rfl, rfl, rfl⟩ ⟨rfl, rfl⟩ ⟨rfl, rfl, rfl, rfl, rfl, rfl⟩).fr f3 h3 ⟨rfl, rfl⟩ ⟨rfl, rfl, rfl, rfl, rfl⟩ ⟨rfl, rfl⟩ ⟨rfl, rfl, rfl, rfl, rfl, rfl⟩).fr rc h4 ⟨rfl, rfl⟩ ⟨rfl, rfl, rfl, rfl, rfl⟩ ⟨rfl, rfl⟩ ⟨rfl, rfl, rfl, rfl, rfl, rfl⟩)
    have st4 : ST c3 m4 := ((st1.fr fc2 rm rfl rfl rfl rfl).fr f3 h3 rfl rfl rfl rfl).fr rc h4 rfl rfl rfl rfl
    have e601 : gI c2 601 5 = 0 := by rw [hc2, gI_uI, if_neg (by omega), gI_uI, if_neg (by omega), gI_uI, if_pos ⟨rfl, rfl⟩]
    have e602 : gI c2 602 5 = 0 := by rw [hc2, gI_uI, if_neg (by omega), gI_uI, if_pos ⟨rfl, rfl⟩]
    have e1242 : gI m4 1242 133 = 0 := by rw [hm4, gI_uI, if_pos ⟨rfl, rfl⟩]
    have e1240 : gI m4 1240 133 = 0 := by rw [hm4, gI_uI, if_neg (by omega), gI_uI, if_pos ⟨rfl, rfl⟩]
    refine P2_ret ⟨by rw [x1109, y1243], pi4, st4, ⟨by rw [x1109, y1243], ?_, ?_⟩, ⟨0, 0, ⟨(f3.i rfl).trans e601, e1242, by omega, fun j hj => absurd hj (Nat.not_lt_zero j)⟩, (f3.i rfl).trans e602, e1240, by omega, fun j hj => absurd hj (Nat.not_lt_zero j)⟩, ft.fr rc h4 ⟨rfl, rfl, rfl, rfl, rfl, rfl⟩ ⟨rfl, rfl, rfl, rfl, rfl, rfl, rfl⟩ rfl, kb, tl.fr rc h4 rfl ⟨rfl, rfl, rfl, rfl, rfl⟩ (fun _ _ _ _ => rfl) (fun _ _ _ => rfl), mc.fr rc h4 ⟨rfl, rfl, rfl⟩ ⟨rfl, rfl, rfl, rfl⟩⟩
    · rw [f3.i rfl, fc2.i rfl, fc.i rfl, n3, h4.i rfl, h3.i rfl, fm.i rfl, n4]
    · rw [f3.i rfl, fc2.i rfl, fc.i rfl, n5, h4.i rfl, h3.i rfl, fm.i rfl, n6]
end J8
