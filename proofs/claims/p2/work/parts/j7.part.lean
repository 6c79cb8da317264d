/-! A part of a job, on both sides. -/
section J7
variable {c c' c0 c1 c2 c3 m m' m0 m1 m2 m3 T T' M' : Mm} {d w b A o M o' n p p1 r q a i s f k u h rb t v kd gp L N st en ps : Nat} {F : Nat → Nat} {ov ov' ng sg z sm wt : Bool} {g : Nat → Int32} {PF QF : Nat → Nat → Bool} {PA QA : Nat → Bool}
/-- what a job is, while its parts are gone through -/
def PI (ps : Nat) (c m : Mm) : Prop := gI c 1105 0 = nI ps ∧ gI m 1222 133 = nI ps ∧ ps ≤ 6 ∧ (∀ a, a < ps → gA c 3 a = gA m 154 a) ∧ (∃ st : Nat → Nat, ∀ a, a ≤ ps → gA c 4 a = nI (st a) ∧ gA m 153 a = nI (st a) ∧ st a ≤ 12000 ∧ (a < ps → st a ≤ st (a + 1))) ∧ (∀ i, i < 12000 → gA c 2 i = gA m 152 i) ∧ (∀ i, byt (gA m 152 i)) ∧ RunT c ∧ Tab m ∧ ∃ tn, TJ c m tn
theorem PI.fr (h : PI ps c m) (fc : Fr PF PA c c') (fm : Fr QF QA m m') (e1 : PF 1105 0 = false ∧ PF 1101 0 = false) (e2 : PA 2 = false ∧ PA 3 = false ∧ PA 4 = false ∧ PA 132 = false ∧ PA 1 = false) (e3 : QF 1222 133 = false ∧ QF 1224 133 = false) (e4 : QA 152 = false ∧ QA 153 = false ∧ QA 154 = false ∧ QA 165 = false ∧ QA 166 = false ∧ QA 155 = false) : PI ps c' m' := by
  obtain ⟨a1, a2, a3, a4, a5, a6, a7, a8, a9, tn, t1, t2, t3, t4⟩ := h
  obtain ⟨b1, b2, b3, b4, b5⟩ := e2
  obtain ⟨d1, d2, d3, d4, d5, d6⟩ := e4
  refine ⟨(fc.i e1.1).trans a1, (fm.i e3.1).trans a2, a3, ?_, ?_, ?_, ?_, a8.fr fc b4, a9.fr fm d4 d5, tn, (fc.i e1.2).trans t1, (fm.i e3.2).trans t2, t3, by rw [fc.a b5, fm.a d6]; exact t4⟩
  · rw [fc.a b2, fm.a d3]; exact a4
  · rw [fc.a b3, fm.a d2]; exact a5
  · rw [fc.a b1, fm.a d1]; exact a6
  · rw [fm.a d1]; exact a7
/-- the states of the last stream -/
def ST (c m : Mm) : Prop := gI c 918 23 = gI m 1247 133 ∧ (gI m 1247 133 = 0 ∨ gI m 1247 133 = 1) ∧ (gI m 1247 133 = 1 → ∀ k, k < 12 → gA c 65 k = gA m 162 k)
theorem ST.fr (h : ST c m) (fc : Fr PF PA c c') (fm : Fr QF QA m m') (e1 : PF 918 23 = false) (e2 : PA 65 = false) (e3 : QF 1247 133 = false) (e4 : QA 162 = false) : ST c' m' := by
  unfold ST
  rw [fc.i e1, fm.i e3, fc.a e2, fm.a e4]; exact h
def NF (c m : Mm) : Prop := BT c m ∧ gI c 1109 0 = 0 ∧ gI m 1243 133 = 0 ∧ gI c 1110 0 = -1 ∧ gI m 1244 133 = -1 ∧ gI c 1111 0 = -1 ∧ gI m 1245 133 = -1
def FA (c m : Mm) : Prop := SHt c m ∧ KA c ∧ ∃ e a x, 1 ≤ e ∧ e ≤ 5 ∧ a < 6 ∧ gI c 1109 0 = nI e ∧ gI m 1243 133 = nI e ∧ gI c 1110 0 = nI a ∧ gI m 1244 133 = nI a ∧ gI c 1111 0 = x ∧ gI m 1245 133 = x
def PJ (ps : Nat) (c m : Mm) : Prop := PI ps c m ∧ ST c m ∧ (NF c m ∨ FA c m)
theorem BT.fr (h : BT c m) (fc : Fr PF PA c c') (fm : Fr QF QA m m') (sh : Sh c' m') (e1 : PF 916 23 = false ∧ PF 4 24 = false ∧ PF 5 24 = false) (e2 : PF 208 27 = false ∧ PF 209 27 = false) (e3 : ∀ f i, 66 ≤ i → i ≤ 97 → PF f i = false) (e4 : PA 29 = false ∧ PA 30 = false ∧ PA 31 = false ∧ PA 32 = false ∧ PA 33 = false ∧ PA 34 = false) (e5 : PA 35 = false ∧ PA 37 = false ∧ PA 42 = false ∧ PA 43 = false ∧ PA 44 = false) (e6 : ∀ i, 66 ≤ i → i ≤ 97 → PA i = false) (q1 : QF 1232 133 = false ∧ QF 1249 133 = false ∧ QF 1231 133 = false ∧ QF 1209 133 = false) (q2 : QA 136 = false ∧ QA 137 = false ∧ QA 138 = false ∧ QA 139 = false ∧ QA 140 = false ∧ QA 141 = false ∧ QA 142 = false) (q3 : QA 143 = false ∧ QA 144 = false ∧ QA 145 = false ∧ QA 146 = false ∧ QA 147 = false) (q4 : QA 148 = false ∧ QA 149 = false ∧ QA 150 = false ∧ QA 151 = false) (q5 : QA 165 = false ∧ QA 166 = false) : BT c' m' := by
  obtain ⟨⟨q, g1, g2, g3⟩, ⟨v, v3, v1, v2⟩, hu, _, tb, ft, ka, tl, mc, o2⟩ := h
  exact ⟨⟨q, (fc.i e1.1).trans g1, (fm.i q1.1).trans g2, g3⟩, ⟨v, v3, (fc.i e1.2.1).trans v1, (fm.j q1.2.1).trans v2⟩, (fc.i e1.2.2).trans hu, sh, tb.fr fm q5.1 q5.2, ft.fr fc fm e4 q2 q1.2.2.2, ka.fr fc e2 ⟨e4.1, e4.2.1, e5.1⟩, tl.fr fc fm e5.2.1 q3 e3 e6, mc.fr fc fm ⟨e5.2.2.1, e5.2.2.2.1, e5.2.2.2.2⟩ q4, (fm.i q1.2.2.1).trans o2⟩
def o0F (f i : Nat) : Bool := i == 0 && (f == 1109 || f == 1110 || f == 1111)
def m3F (f i : Nat) : Bool := i == 133 && (f == 1243 || f == 1244 || f == 1245)
theorem BT.o0 (h : BT c m) (fc : Fr o0F noA c c') : BT c' m := by
  have sh := h.2.2.2.1
  obtain ⟨p, hp1, hp2⟩ := sh.pp
  exact h.fr fc (Fr.refl (PF := nF) (PA := noA)) (sh.fr hp1 hp2 fc (Fr.refl (PF := nF) (PA := noA)) (fun _ => rfl) ⟨rfl, rfl, rfl, fun _ _ => rfl⟩ ⟨rfl, rfl, rfl, rfl⟩ ⟨rfl, rfl, rfl, rfl⟩) ⟨rfl, rfl, rfl⟩ ⟨rfl, rfl⟩ (fun f i a b => by unfold o0F; simp; omega) ⟨rfl, rfl, rfl, rfl, rfl, rfl⟩ ⟨rfl, rfl, rfl, rfl, rfl⟩ (fun _ _ _ => rfl) ⟨rfl, rfl, rfl, rfl⟩ ⟨rfl, rfl, rfl, rfl, rfl, rfl, rfl⟩ ⟨rfl, rfl, rfl, rfl, rfl⟩ ⟨rfl, rfl, rfl, rfl⟩ ⟨rfl, rfl⟩
theorem SHt.o0 (h : SHt c m) (fc : Fr o0F noA c c') (fm : Fr m3F noA m m') : SHt c' m' := h.fr (fc.weak (fun f i z => by
    unfold cNS at z; unfold o0F; revert z; simp; omega) (fun _ _ => rfl)) (fm.weak (fun f i z => by
    unfold mNS at z; unfold m3F; revert z; simp; omega) (fun _ _ => rfl))
abbrev KcT : Type := Int32 → Mm → Option (Int32 × Mm)
/-- a stream among the parts -/
theorem part_s (h : PI ps c m) (nf : NF c m) (ha : a < ps) : ∃ c' m', (∀ k : KcT, (bd (f_X9_run 2 (gA c 4 a) (gA c 4 (a + 1)) c) fun _ T14 => bd (f_X9_isMuch T14) fun v15 T16 => if v15 = 0 then (lb (uI T16 1109 0 0) fun T17 => f_X11_print_169 k (nI a) T17) else (lb (uI T16 1109 0 1) fun T18 => f_X11_print_169 k (nI a) T18)) = k (nI a + 1) c') ∧ (∀ k : KcT, (bd (f_X12_stream (nI a) m) fun _ T5 => f_X12_print_118 k (nI a) T5) = k (nI a + 1) m') ∧ PJ ps c' m' := by
  obtain ⟨a1, a2, a3, a4, ⟨sp, hst⟩, a6, a7, a8, a9, _⟩ := id h
  obtain ⟨bt, n1, n2, n3, n4, n5, n6⟩ := nf
  obtain ⟨s1, s2, s3, s4⟩ := hst a (by omega)
  obtain ⟨r1, r2, r3, _⟩ := hst (a + 1) (by omega)
  obtain ⟨_, c1, _, m1, w1, w2, sq, fc, fm⟩ := P2_stream bt (show a < 6 by omega) (s4 ha) r3 s2 r2 a6 a7
  rw [s1, r1]
  have h1 : PI ps c1 m1 := h.fr fc fm ⟨rfl, rfl⟩ ⟨rfl, rfl, rfl, rfl, rfl⟩ ⟨rfl, rfl⟩ ⟨rfl, rfl, rfl, rfl, rfl, rfl⟩
  have x1110 : gI c1 1110 0 = -1 := (fc.i rfl).trans n3
  have x1111 : gI c1 1111 0 = -1 := (fc.i rfl).trans n5
  have y1243 : gI m1 1243 133 = 0 := (fm.i rfl).trans n2
  have y1244 : gI m1 1244 133 = -1 := (fm.i rfl).trans n4
  have y1245 : gI m1 1245 133 = -1 := (fm.i rfl).trans n6
  rcases sq with ⟨b1, b2, b3, b4, b5, b6⟩ | ⟨mu, b5, b6⟩
  · obtain ⟨c2, hc2⟩ : ∃ c2, c2 = uI (uI c1 1109 0 0) 1110 0 (-1) := ⟨_, rfl⟩
    have f2 : Fr o0F noA c1 c2 := by rw [hc2]; exact (Fr.refl.uI _ (by rfl)).uI _ (by rfl)
    have st1 : ST c1 m1 := ⟨by rw [b5, b6], Or.inr b6, fun _ => b4⟩
    refine ⟨c2, m1, fun k => ?_, fun k => ?_, h1.fr f2 (Fr.refl (PF := nF) (PA := noA)) ⟨rfl, rfl⟩ ⟨rfl, rfl, rfl, rfl, rfl⟩ ⟨rfl, rfl⟩ ⟨rfl, rfl, rfl, rfl, rfl, rfl⟩, st1.fr f2 (Fr.refl (PF := nF) (PA := noA)) rfl rfl rfl rfl, Or.inl ⟨b1.o0 f2, ?_, y1243, ?_, y1244, ?_, y1245⟩⟩
    · rw [w1, bd_eq, b2, bd_eq, if_pos rfl, lb_eq]
      unfold f_X11_print_169
      rw [show gI (uI c1 1109 0 0) 1109 0 = 0 from by rw [gI_uI, if_pos ⟨rfl, rfl⟩], if_pos rfl, lb_eq, hc2]
    · rw [w2, bd_eq]
      unfold f_X12_print_118 f_X12_print_135
      rw [b3, if_pos rfl, y1243, if_pos rfl]
    · rw [hc2, gI_uI, if_neg (by omega), gI_uI, if_pos ⟨rfl, rfl⟩]
    · rw [hc2, gI_uI, if_pos ⟨rfl, rfl⟩]
    · rw [hc2, gI_uI, if_neg (by omega), gI_uI, if_neg (by omega)]; exact x1111
  · obtain ⟨c2, hc2⟩ : ∃ c2, c2 = uI (uI c1 1109 0 1) 1110 0 (nI a) := ⟨_, rfl⟩
    obtain ⟨m2, hm2⟩ : ∃ m2, m2 = uI (uI (uI m1 1243 133 1) 1245 133 (-1)) 1244 133 (nI a) := ⟨_, rfl⟩
    have f2 : Fr o0F noA c1 c2 := by rw [hc2]; exact (Fr.refl.uI _ (by rfl)).uI _ (by rfl)
    have g2 : Fr m3F noA m1 m2 := by rw [hm2]; exact ((Fr.refl.uI _ (by rfl)).uI _ (by rfl)).uI _ (by rfl)
    have st1 : ST c1 m1 := ⟨by rw [b5, b6], Or.inl b6, fun z => by rw [b6] at z; exact absurd z (by decide)⟩
    refine ⟨c2, m2, fun k => ?_, fun k => ?_, h1.fr f2 g2 ⟨rfl, rfl⟩ ⟨rfl, rfl, rfl, rfl, rfl⟩ ⟨rfl, rfl⟩ ⟨rfl, rfl, rfl, rfl, rfl, rfl⟩, st1.fr f2 g2 rfl rfl rfl rfl, Or.inr ⟨mu.st.o0 f2 g2, mu.wc.ka.fr f2 ⟨rfl, rfl⟩ ⟨rfl, rfl, rfl⟩, 1, a, -1, by omega, by omega, by omega, ?_, ?_, ?_, ?_, ?_, ?_⟩⟩
    · rw [w1, bd_eq, mu.wc.mu, bd_eq, if_neg (show ¬ (1 : Int32) = 0 by decide), lb_eq]
      unfold f_X11_print_169
      rw [show gI (uI c1 1109 0 1) 1109 0 = 1 from by rw [gI_uI, if_pos ⟨rfl, rfl⟩], if_neg (show ¬ (1 : Int32) = 0 by decide), lb_eq, hc2]
    · rw [w2, bd_eq]
      unfold f_X12_print_118 f_X12_print_135
      rw [mu.m1, if_neg (show ¬ (1 : Int32) = 0 by decide), lb_eq, lb_eq, show gI (uI (uI m1 1243 133 1) 1245 133 (-1)) 1243 133 = 1 from by rw [gI_uI, if_neg (by omega), gI_uI, if_pos ⟨rfl, rfl⟩], if_neg (show ¬ (1 : Int32) = 0 by decide), lb_eq, hm2]
    · rw [hc2, gI_uI, if_neg (by omega), gI_uI, if_pos ⟨rfl, rfl⟩]; rfl
    · rw [hm2, gI_uI, if_neg (by omega), gI_uI, if_neg (by omega), gI_uI, if_pos ⟨rfl, rfl⟩]; rfl
    · rw [hc2, gI_uI, if_pos ⟨rfl, rfl⟩]
    · rw [hm2, gI_uI, if_pos ⟨rfl, rfl⟩]
    · rw [hc2, gI_uI, if_neg (by omega), gI_uI, if_neg (by omega)]; exact x1111
    · rw [hm2, gI_uI, if_neg (by omega), gI_uI, if_pos ⟨rfl, rfl⟩]
/-- a picture among the parts -/
theorem part_p (h : PI ps c m) (hs : ST c m) (nf : NF c m) (ha : a < ps) : ∃ c' m', (∀ k : KcT, (bd (f_X3_read 2 (gA c 4 a) (gA c 4 (a + 1)) c) fun _ T7 => lb (uI T7 1109 0 (gI T7 304 129)) fun T8 => lb (uI T8 1111 0 (gI T8 305 129)) fun T9 => f_X11_print_169 k (nI a) T9) = k (nI a + 1) c') ∧ (∀ k : KcT, (bd (f_X12_pictures (nI a) m) fun _ T4 => f_X12_print_118 k (nI a) T4) = k (nI a + 1) m') ∧ PJ ps c' m' := by
  obtain ⟨a1, a2, a3, a4, ⟨sp, hst⟩, a6, a7, a8, a9, _⟩ := id h
  obtain ⟨bt, n1, n2, n3, n4, n5, n6⟩ := nf
  obtain ⟨s1, s2, s3, s4⟩ := hst a (by omega)
  obtain ⟨r1, r2, r3, _⟩ := hst (a + 1) (by omega)
  have s5 := s4 ha
  obtain ⟨sz, hsz⟩ : ∃ sz, sp (a + 1) = sp a + sz := ⟨sp (a + 1) - sp a, by omega⟩
  rw [hsz] at r1 r2 r3
  obtain ⟨_, c1, _, m1, w1, w2, fc, fm, fq⟩ := P2_file (show a < 6 by omega) s2 r2 r3 a6 a7 a8 a9 bt.2.2.2.1
  rw [s1, r1]
  have h1 : PI ps c1 m1 := h.fr fc fm ⟨rfl, rfl⟩ ⟨rfl, rfl, rfl, rfl, rfl⟩ ⟨rfl, rfl⟩ ⟨rfl, rfl, rfl, rfl, rfl, rfl⟩
  have st1 : ST c1 m1 := hs.fr fc fm rfl rfl rfl rfl
  have y1244 : gI m1 1244 133 = -1 := (fm.i rfl).trans n4
  have x66 : ∀ f i, 66 ≤ i → i ≤ 97 → cFlF f i = false := fun f i p q => by unfold cFlF cRdrF cDrF; simp; omega
  have x67' : ∀ i, i < 98 → 66 ≤ i → cRdrA i = false := by decide
  have x67 : ∀ i, 66 ≤ i → i ≤ 97 → cRdrA i = false := fun i p q => x67' i (by omega) p
  have ka1 : KA c1 := bt.2.2.2.2.2.2.1.fr fc ⟨rfl, rfl⟩ ⟨rfl, rfl, rfl⟩
  have sht : SHt c1 m1 := SHt.of (bt.2.2.2.2.2.1.fr fc fm ⟨rfl, rfl, rfl, rfl, rfl, rfl⟩ ⟨rfl, rfl, rfl, rfl, rfl, rfl, rfl⟩ rfl) (bt.2.2.2.2.2.2.2.1.fr fc fm rfl ⟨rfl, rfl, rfl, rfl, rfl⟩ x66 x67) (bt.2.2.2.2.2.2.2.2.1.fr fc fm ⟨rfl, rfl, rfl⟩ ⟨rfl, rfl, rfl, rfl⟩)
  rcases fq with ⟨q1, q2, q3, q4, sh⟩ | ⟨q1, q2, q3, q4, q5, q6⟩ | ⟨e, p, he, q1, q2, q3, q4, q5, q6⟩
  · have bt1 : BT c1 m1 := bt.fr fc fm sh ⟨rfl, rfl, rfl⟩ ⟨rfl, rfl⟩ x66 ⟨rfl, rfl, rfl, rfl, rfl, rfl⟩ ⟨rfl, rfl, rfl, rfl, rfl⟩ x67 ⟨rfl, rfl, rfl, rfl⟩ ⟨rfl, rfl, rfl, rfl, rfl, rfl, rfl⟩ ⟨rfl, rfl, rfl, rfl, rfl⟩ ⟨rfl, rfl, rfl, rfl⟩ ⟨rfl, rfl⟩
    obtain ⟨c2, hc2⟩ : ∃ c2, c2 = uI (uI (uI c1 1109 0 0) 1111 0 (-1)) 1110 0 (-1) := ⟨_, rfl⟩
    have f2 : Fr o0F noA c1 c2 := by rw [hc2]; exact ((Fr.refl.uI _ (by rfl)).uI _ (by rfl)).uI _ (by rfl)
    refine ⟨c2, m1, fun k => ?_, fun k => ?_, h1.fr f2 (Fr.refl (PF := nF) (PA := noA)) ⟨rfl, rfl⟩ ⟨rfl, rfl, rfl, rfl, rfl⟩ ⟨rfl, rfl⟩ ⟨rfl, rfl, rfl, rfl, rfl, rfl⟩, st1.fr f2 (Fr.refl (PF := nF) (PA := noA)) rfl rfl rfl rfl, Or.inl ⟨bt1.o0 f2, ?_, q3.trans n2, ?_, y1244, ?_, q4.trans n6⟩⟩
    · rw [w1, bd_eq, q1, lb_eq, show gI (uI c1 1109 0 0) 305 129 = -1 by rw [gI_uI, if_neg (by omega)]; exact q2, lb_eq]
      unfold f_X11_print_169
      rw [show gI (uI (uI c1 1109 0 0) 1111 0 (-1)) 1109 0 = 0 from by rw [gI_uI, if_neg (by omega), gI_uI, if_pos ⟨rfl, rfl⟩], if_pos rfl, lb_eq, hc2]
    · rw [w2, bd_eq]
      unfold f_X12_print_118 f_X12_print_135
      rw [sh.z.2, if_pos rfl, q3, n2, if_pos rfl]
    · rw [hc2, gI_uI, if_neg (by omega), gI_uI, if_neg (by omega), gI_uI, if_pos ⟨rfl, rfl⟩]
    · rw [hc2, gI_uI, if_pos ⟨rfl, rfl⟩]
    · rw [hc2, gI_uI, if_neg (by omega), gI_uI, if_pos ⟨rfl, rfl⟩]
  · obtain ⟨c2, hc2⟩ : ∃ c2, c2 = uI (uI (uI c1 1109 0 1) 1111 0 (-1)) 1110 0 (nI a) := ⟨_, rfl⟩
    obtain ⟨m2, hm2⟩ : ∃ m2, m2 = uI (uI (uI m1 1243 133 1) 1245 133 (-1)) 1244 133 (nI a) := ⟨_, rfl⟩
    have f2 : Fr o0F noA c1 c2 := by rw [hc2]; exact ((Fr.refl.uI _ (by rfl)).uI _ (by rfl)).uI _ (by rfl)
    have g2 : Fr m3F noA m1 m2 := by rw [hm2]; exact ((Fr.refl.uI _ (by rfl)).uI _ (by rfl)).uI _ (by rfl)
    refine ⟨c2, m2, fun k => ?_, fun k => ?_, h1.fr f2 g2 ⟨rfl, rfl⟩ ⟨rfl, rfl, rfl, rfl, rfl⟩ ⟨rfl, rfl⟩ ⟨rfl, rfl, rfl, rfl, rfl, rfl⟩, st1.fr f2 g2 rfl rfl rfl rfl, Or.inr ⟨sht.o0 f2 g2, ka1.fr f2 ⟨rfl, rfl⟩ ⟨rfl, rfl, rfl⟩, 1, a, -1, by omega, by omega, by omega, ?_, ?_, ?_, ?_, ?_, ?_⟩⟩
    · rw [w1, bd_eq, q1, lb_eq, show gI (uI c1 1109 0 1) 305 129 = -1 by rw [gI_uI, if_neg (by omega)]; exact q2, lb_eq]
      unfold f_X11_print_169
      rw [show gI (uI (uI c1 1109 0 1) 1111 0 (-1)) 1109 0 = 1 from by rw [gI_uI, if_neg (by omega), gI_uI, if_pos ⟨rfl, rfl⟩], if_neg (show ¬ (1 : Int32) = 0 by decide), lb_eq, hc2]
    · rw [w2, bd_eq]
      unfold f_X12_print_118 f_X12_print_135
      rw [q4, if_neg (show ¬ (1 : Int32) = 0 by decide), lb_eq, lb_eq, show gI (uI (uI m1 1243 133 1) 1245 133 (-1)) 1243 133 = 1 from by rw [gI_uI, if_neg (by omega), gI_uI, if_pos ⟨rfl, rfl⟩], if_neg (show ¬ (1 : Int32) = 0 by decide), lb_eq, hm2]
    · rw [hc2, gI_uI, if_neg (by omega), gI_uI, if_neg (by omega), gI_uI, if_pos ⟨rfl, rfl⟩]; rfl
    · rw [hm2, gI_uI, if_neg (by omega), gI_uI, if_neg (by omega), gI_uI, if_pos ⟨rfl, rfl⟩]; rfl
    · rw [hc2, gI_uI, if_pos ⟨rfl, rfl⟩]
    · rw [hm2, gI_uI, if_pos ⟨rfl, rfl⟩]
    · rw [hc2, gI_uI, if_neg (by omega), gI_uI, if_pos ⟨rfl, rfl⟩]
    · rw [hm2, gI_uI, if_neg (by omega), gI_uI, if_pos ⟨rfl, rfl⟩]
  · have he0 : ¬ nI e = 0 := nI_ne0 (by omega) (by omega)
    obtain ⟨c2, hc2⟩ : ∃ c2, c2 = uI (uI (uI c1 1109 0 (nI e)) 1111 0 (nI p)) 1110 0 (nI a) := ⟨_, rfl⟩
    obtain ⟨m2, hm2⟩ : ∃ m2, m2 = uI m1 1244 133 (nI a) := ⟨_, rfl⟩
    have f2 : Fr o0F noA c1 c2 := by rw [hc2]; exact ((Fr.refl.uI _ (by rfl)).uI _ (by rfl)).uI _ (by rfl)
    have g2 : Fr m3F noA m1 m2 := by rw [hm2]; exact Fr.refl.uI _ (by rfl)
    refine ⟨c2, m2, fun k => ?_, fun k => ?_, h1.fr f2 g2 ⟨rfl, rfl⟩ ⟨rfl, rfl, rfl, rfl, rfl⟩ ⟨rfl, rfl⟩ ⟨rfl, rfl, rfl, rfl, rfl, rfl⟩, st1.fr f2 g2 rfl rfl rfl rfl, Or.inr ⟨sht.o0 f2 g2, ka1.fr f2 ⟨rfl, rfl⟩ ⟨rfl, rfl, rfl⟩, e, a, nI p, by omega, by omega, by omega, ?_, ?_, ?_, ?_, ?_, ?_⟩⟩
    · rw [w1, bd_eq, q1, lb_eq, show gI (uI c1 1109 0 (nI e)) 305 129 = nI p by rw [gI_uI, if_neg (by omega)]; exact q2, lb_eq]
      unfold f_X11_print_169
      rw [show gI (uI (uI c1 1109 0 (nI e)) 1111 0 (nI p)) 1109 0 = (nI e) from by rw [gI_uI, if_neg (by omega), gI_uI, if_pos ⟨rfl, rfl⟩], if_neg he0, lb_eq, hc2]
    · rw [w2, bd_eq]
      unfold f_X12_print_118 f_X12_print_135
      rw [q6, if_pos rfl, q3, if_neg he0, lb_eq, hm2]
    · rw [hc2, gI_uI, if_neg (by omega), gI_uI, if_neg (by omega), gI_uI, if_pos ⟨rfl, rfl⟩]
    · rw [hm2, gI_uI, if_neg (by omega)]; exact q3
    · rw [hc2, gI_uI, if_pos ⟨rfl, rfl⟩]
    · rw [hm2, gI_uI, if_pos ⟨rfl, rfl⟩]
    · rw [hc2, gI_uI, if_neg (by omega), gI_uI, if_pos ⟨rfl, rfl⟩]
    · rw [hm2, gI_uI, if_neg (by omega)]; exact q4
end J7
