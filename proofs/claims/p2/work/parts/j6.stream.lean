/-! A stream, whole, on both sides. -/
section J6
variable {c c' c0 c1 c2 c3 m m' m0 m1 m2 m3 T T' M' : Mm} {d w b A o M o' n p p1 r q a i s f k u h rb t v kd gp L N st en : Nat} {F : Nat → Nat} {ov ov' ng sg z sm wt e : Bool} {g : Nat → Int32} {Gc Gm : Gty} {PF QF : Nat → Nat → Bool} {PA QA : Nat → Bool}
def stF (_ i : Nat) : Bool := !(i == 0 || i == 129)
def stA (a : Nat) : Bool := !(a == 1 || a == 2 || a == 3 || a == 4 || a == 132)
def stQ (f i : Nat) : Bool := !(i == 133 && (f == 1222 || f == 1224 || f == 1243 || f == 1244 || f == 1245))
def stN (a : Nat) : Bool := !(a == 152 || a == 153 || a == 154 || a == 155 || a == 165 || a == 166)
theorem BT.of (h : RR d false c m) : BT c m := by
  obtain ⟨k, v, cv⟩ := h.cv
  exact ⟨h.gn, ⟨v, cv.v3, cv.v1, cv.v2⟩, cv.u, h.sh, h.tb, h.ft, h.ka, h.tl, h.mc, h.o2⟩
theorem st_f {f i : Nat} (z : stF f i = false) : i = 0 ∨ i = 129 := by
  unfold stF at z; simp at z; omega
theorem st_a {a : Nat} (z : stA a = false) : a = 1 ∨ a = 2 ∨ a = 3 ∨ a = 4 ∨ a = 132 := by
  unfold stA at z; simp at z; omega
theorem st_q {f i : Nat} (z : stQ f i = false) : i = 133 ∧ (f = 1222 ∨ f = 1224 ∨ f = 1243 ∨ f = 1244 ∨ f = 1245) := by
  unfold stQ at z; simp at z; omega
theorem st_n {a : Nat} (z : stN a = false) : a = 152 ∨ a = 153 ∨ a = 154 ∨ a = 155 ∨ a = 165 ∨ a = 166 := by
  unfold stN at z; simp at z; omega
theorem kx_st {f i : Nat} (z : stF f i = false) : kxF 0 false f i = false := by
  have := st_f z
  rcases this with rfl | rfl <;> (unfold kxF kwF skF; simp)
theorem kw_st {a : Nat} (z : stA a = false) : kwA 0 false a = false := by
  have := st_a z
  rcases this with rfl | rfl | rfl | rfl | rfl <;> rfl
theorem km_st {f i : Nat} (z : stQ f i = false) : kxM f i = false := by
  have := st_q z
  obtain ⟨rfl, rfl | rfl | rfl | rfl | rfl⟩ := this <;> rfl
theorem kn_st {a : Nat} (z : stN a = false) : mkA a = false := by
  have := st_n z
  rcases this with rfl | rfl | rfl | rfl | rfl | rfl <;> rfl
theorem KX.stc (k : KX 0 false c m c' m') : Fr stF stA c c' := k.1.weak (fun _ _ z => kx_st z) (fun _ z => kw_st z)
theorem KX.stm (k : KX 0 false c m c' m') : Fr stQ stN m m' := k.2.1.weak (fun _ _ z => km_st z) (fun _ z => kn_st z)
/-- behind a stream -/
def SQ (c m c' m' : Mm) : Prop := ((BT c' m' ∧ f_X9_isMuch c' = some (0, c') ∧ gI m' 1233 133 = 0 ∧ (∀ k, k < 12 → gA c' 65 k = gA m' 162 k) ∧ gI c' 918 23 = 1 ∧ gI m' 1247 133 = 1) ∨ (MU 0 false c' m' ∧ gI c' 918 23 = 0 ∧ gI m' 1247 133 = 0)) ∧ Fr stF stA c c' ∧ Fr stQ stN m m'
theorem st_918 {x : Int32} : Fr stF stA c (uI c 918 23 x) := Fr.refl.uI _ (by rfl)
theorem MU.f918 (h : MU d ov c m) {x : Int32} : MU d ov (uI c 918 23 x) m := by
  have fc : Fr (fun f i => i == 23 && f == 918) noA c (uI c 918 23 x) := Fr.refl.uI _ (by rfl)
  obtain ⟨g, ev, eb⟩ := h.wc.ev
  exact h.fr fc (Fr.refl (PF := nF) (PA := noA)) (fun f i e => by
    have : i = 23 ∧ f = 918 := by simpa using e
    obtain ⟨rfl, rfl⟩ := this; rfl) (fun _ e => by cases e) (fun _ _ e => by cases e) (fun _ e => by cases e) ⟨rfl, rfl, rfl⟩ ⟨g, ev.fr fc (fun f i a b => by simp; omega) (fun _ _ _ => rfl), eb⟩ (h.wc.ka.fr fc ⟨rfl, rfl⟩ ⟨rfl, rfl, rfl⟩) (mu_fr h.wc.mu (fc.i rfl) (fc.i rfl) (fc.i rfl)) h.m1
theorem run48_mu (h : MU d ov c m) : f_X9_run_48 c = some ((), uI c 918 23 0) := by
  unfold f_X9_run_48
  rw [h.wc.mu, bd_eq, if_neg (by decide), lb_eq]
theorem run48_rr {q : Nat} (h : NMs c d q) : f_X9_run_48 c = some ((), uI c 918 23 1) := by
  unfold f_X9_run_48
  rw [nm_of h, bd_eq, if_pos rfl, lb_eq]
theorem SQ.mu (h : MU 0 false c1 m') (e : gI m' 1247 133 = 0) (fc : Fr stF stA c c1) (fm : Fr stQ stN m m') : SQ c m (uI c1 918 23 0) m' := ⟨Or.inr ⟨h.f918, by rw [gI_uI, if_pos ⟨rfl, rfl⟩], e⟩, fc.trans st_918, fm⟩
/-- the end of a stream that wasn't much -/
theorem P2_sEnd (h : RR 0 false c m) (e47 : gI m 1247 133 = 0) : P2 (bd (f_X9_keepStates c) fun _ T8 => bd (f_X9_reset (gmC 5) T8) fun _ T9 => f_X9_run_48 T9) (toldK m (fun T27 => bd (f_X12_eject (gmM 5) T27) fun _ T28 => if (gI T28 1233 133) = 0 then (lb (uI T28 1247 133 1) fun T29 => bd (f_X12_reset 1 0 T29) fun _ T30 => bd (f_X12_temporaryGo T30) fun _ T31 => some ((), T31)) else (some ((), T28)))) (fun _ c' _ m' => SQ c m c' m') := by
  obtain ⟨c7, m7, t1, t2, h7, t3, t4, t5⟩ := two_told h
  rw [t1, bd_eq, t2]
  unfold f_X9_reset
  rw [bd_as]
  have e47' : gI m7 1247 133 = 0 := (t5.i rfl).trans e47
  have fc7 : Fr stF stA c c7 := t4.weak (fun f i z => by
    have := st_f z
    rcases this with rfl | rfl <;> rfl) (fun a z => by
    have := st_a z
    rcases this with rfl | rfl | rfl | rfl | rfl <;> rfl)
  have fm7 : Fr stQ stN m m7 := t5.weak (fun _ _ _ => rfl) (fun a z => by
    have := st_n z
    rcases this with rfl | rfl | rfl | rfl | rfl | rfl <;> rfl)
  refine P2_bd (P2_eject h7 GS_0) ?_
  rintro _ c8 _ m8 ⟨ou, wh⟩
  have k8 := ou.2.1.kw.kx
  have e478 : gI m8 1247 133 = 0 := (ou.2.1.fm.i (by rfl)).trans e47'
  rcases ou.1 with rr | mu
  · obtain ⟨v, cv⟩ := wh rfl rr
    obtain ⟨m9, hm9⟩ : ∃ m9, m9 = uI m8 1247 133 1 := ⟨_, rfl⟩
    have f9 : Fr (fun f i => i == 133 && f == 1247) noA m8 m9 := by rw [hm9]; exact Fr.refl.uI _ (by rfl)
    have rr9 : RR 0 false c8 m9 := rr.frG (Fr.refl (PF := nF) (PA := noA)) f9 (fun _ _ _ => rfl) (fun _ _ => rfl) (fun f e => by
      cases y : ((133 : Nat) == 133 && f == 1247)
      · rfl
      · have : f = 1247 := by simpa using y
        subst this; exact absurd e (by decide)) (fun _ _ => rfl)
    have cv9 : CV c8 m9 (gA m9 134) 0 v := by
      rw [f9.a rfl]
      exact cv.fr (Fr.refl (PF := nF) (PA := noA)) f9 rfl rfl ⟨rfl, rfl, rfl⟩ ⟨rfl, rfl⟩ rfl rfl
    obtain ⟨c2, m2, x1, x2, x3, x4⟩ := two_rs rr9 cv9
    rw [rr.sh.z.2, if_pos rfl, lb_eq, ← hm9, x1, x2, bd_eq]
    obtain ⟨q2, n2, _, z2⟩ := x3.nms
    rw [run48_rr n2]
    have g4 : Fr (fun f i => i == 23 && f == 918) noA c2 (uI c2 918 23 1) := Fr.refl.uI _ (by rfl)
    have rr2 : RR 0 false (uI c2 918 23 1) m2 := x3.frG g4 (Fr.refl (PF := nF) (PA := noA)) (fun f i e => by
      cases y : (i == 23 && f == 918)
      · rfl
      · have : i = 23 ∧ f = 918 := by simpa using y
        obtain ⟨rfl, rfl⟩ := this; exact absurd e (by decide)) (fun _ _ => rfl) (fun _ _ => rfl) (fun _ _ => rfl)
    obtain ⟨q3, n3, _, z3⟩ := rr2.nms
    have k9 := x4.kw.kx
    refine P2_ret ⟨Or.inl ⟨BT.of rr2, nm_of n3, z3, fun k hk => ?_, by rw [gI_uI, if_pos ⟨rfl, rfl⟩], ?_⟩, ((fc7.trans k8.stc).trans k9.stc).trans st_918, ((fm7.trans k8.stm).trans (f9.weak (fun f i z => ?_) (fun _ _ => rfl))).trans k9.stm⟩
    · rw [g4.a rfl, x4.fc.a rfl, ou.2.1.fc.a rfl, t3 k hk, x4.fm.a rfl, f9.a rfl, ou.2.1.fm.a rfl]
    · rw [x4.fm.i (by rfl), hm9, gI_uI, if_pos ⟨rfl, rfl⟩]
    · cases y : (i == 133 && f == 1247)
      · rfl
      · have : i = 133 ∧ f = 1247 := by simpa using y
        obtain ⟨rfl, rfl⟩ := this; exact absurd z (by decide)
  · obtain ⟨_, c2, x1, x2⟩ := u_rs mu
    rw [if_neg (show ¬ gI m8 1233 133 = 0 by rw [mu.m1]; decide), x1, bd_eq, run48_mu x2.1]
    have kq : Fr stF stA c8 c2 := x2.2.weak (fun f i z => by
      have := kx_st z
      exact (Bool.or_eq_false_iff.mp (Bool.or_eq_false_iff.mp this).1).1) (fun a z => (Bool.or_eq_false_iff.mp (kw_st z)).1)
    exact P2_ret (SQ.mu x2.1 e478 ((fc7.trans k8.stc).trans kq) (fm7.trans k8.stm))
theorem P2_stream (h : BT c m) (ha : a < 6) (hs : st ≤ en) (he : en ≤ 12000) (s1 : gA m 153 a = nI st) (s2 : gA m 153 (a + 1) = nI en) (hj : ∀ i, i < 12000 → gA c 2 i = gA m 152 i) (hb : ∀ i, byt (gA m 152 i)) : P2 (f_X9_run 2 (nI st) (nI en) c) (f_X12_stream (nI a) m) (fun _ c' _ m' => SQ c m c' m') := by
  obtain ⟨hgn, ⟨v, v3, v1, v2⟩, hu, sh, tb, ft, ka, tl, mc, o2⟩ := h
  obtain ⟨c5, x1, xf, xe, x2, x25, x914, x915, x913, x500, x501, x502, x503⟩ := cs_start (c := c) he (show st ≤ 12000 by omega)
  obtain ⟨m5, y1, yf, ye, y157, y35, y47, y26, y27, y28, y29, y30⟩ := ms_start ha s1 s2
  obtain ⟨pp, hp1, hp2⟩ := sh.pp
  have hR : RR 0 false c5 m5 := by
    obtain ⟨q, q1, q2, q3⟩ := hgn
    exact RR_mk (xe.congr ye) ((gE_b (by omega) (by omega)).congr ye) x914 y29 (by decide) x915 ((yf.i (by rfl)).trans o2) (by rw [y30]; rfl) ⟨q, (xf.i (by rfl)).trans q1, (yf.i (by rfl)).trans q2, q3⟩
      ⟨0, v, pk_white x2 x25 y157 y35 ((xf.i (by rfl)).trans v1) ((yf.j (by rfl)).trans v2) v3 ((xf.i (by rfl)).trans hu)⟩ (sh.fr hp1 hp2 xf yf (fun f => by unfold sF; simp) ⟨rfl, rfl, rfl, fun i hi => by unfold sA; simp; omega⟩ ⟨rfl, rfl, rfl, rfl⟩ ⟨rfl, rfl, rfl, rfl⟩) (tb.fr yf rfl rfl) (ft.fr xf yf ⟨rfl, rfl, rfl, rfl, rfl, rfl⟩ ⟨rfl, rfl, rfl, rfl, rfl, rfl, rfl⟩ rfl)
      (ka.fr xf ⟨rfl, rfl⟩ ⟨rfl, rfl, rfl⟩) (tl.fr xf yf rfl ⟨rfl, rfl, rfl, rfl, rfl⟩ (fun f i a b => by unfold sF; simp; omega) (fun i a b => by unfold sA; simp; omega)) (mc.fr xf yf ⟨rfl, rfl, rfl⟩ ⟨rfl, rfl, rfl, rfl⟩) x913 (Or.inl y26)
  have hF : ∀ j, ∃ f, f < 256 ∧ gA m 152 (st + j) &&& 255 = nI f := fun j => byte_nat _
  have e2 : gA c5 2 = gA c 2 := xf.a rfl
  have e152 : gA m5 152 = gA m 152 := yf.a rfl
  have hS : SRC c5 m5 0 2 st 152 st (en - st) (fun j => Classical.choose (hF j)) := by
    refine SRC_mk x500 (Or.inl ⟨rfl, by omega⟩) y26 (Or.inl ⟨rfl, by omega⟩) ?_ ?_ ?_ ?_ (fun i => (Classical.choose_spec (hF i)).1) ?_
    · rw [show st + (en - st) = en by omega]; exact x502
    · rw [show st + (en - st) = en by omega]; exact y28
    · intro i hi
      rw [e2, e152]; exact hj _ (by omega)
    · intro i hi
      rw [e152]; exact (Classical.choose_spec (hF i)).2
    · intro i hi
      rw [e152]; exact hb _
  have lp := (P2_loop GS_0 (show 0 ≤ 3 by decide) (show en - st ≤ 24000 by omega) (fun _ => rfl) (fun _ => rfl) FU FU 0 0 0 c5 m5 (by omega) (by omega) (FU_gt (by omega)) (FU_gt (by omega)) (by omega) hR hS ⟨x501, y27⟩).1 x503
  obtain ⟨_, c6, _, m6, w1, w2, ox⟩ := lp
  have w1' : f_X9_goThrough_l60 (gmC 5) FU 125 0 c5 = some ((), c6) := w1
  have w2' : f_X12_run (gmM 5) m5 = some ((), m6) := w2
  rw [x1 2 rfl, y1, w1', w2', bd_eq, bd_eq]
  have e47 : gI m6 1247 133 = 0 := (ox.2.1.2.1.i (by rfl)).trans y47
  have fc5 : Fr stF stA c c5 := xf.weak (fun f i z => by
    have := st_f z
    rcases this with rfl | rfl <;> (unfold sF; simp)) (fun a z => by
    have := st_a z
    rcases this with rfl | rfl | rfl | rfl | rfl <;> rfl)
  have fm5 : Fr stQ stN m m5 := yf.weak (fun f i z => by
    have := st_q z
    obtain ⟨rfl, rfl | rfl | rfl | rfl | rfl⟩ := this <;> rfl) (fun a z => by
    have := st_n z
    rcases this with rfl | rfl | rfl | rfl | rfl | rfl <;> rfl)
  have fc6 := fc5.trans ox.2.1.stc
  have fm6 := fm5.trans ox.2.1.stm
  rcases ox.1 with rr | mu
  · obtain ⟨q6, n6, _, z6⟩ := rr.nms
    rw [nm_of n6, bd_eq, if_pos rfl, if_pos z6]
    exact P2_mono (P2_sEnd rr e47) (fun _ _ _ _ s => ⟨s.1, fc6.trans s.2.1, fm6.trans s.2.2⟩)
  · rw [mu.wc.mu, bd_eq, if_neg (show ¬ (1 : Int32) = 0 by decide), if_neg (show ¬ gI m6 1233 133 = 0 by rw [mu.m1]; decide), run48_mu mu]
    exact P2_ret (SQ.mu mu e47 fc6 fm6)
end J6
