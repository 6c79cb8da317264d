/-! A directory whose entries are told: its lists, its strips, the page that comes. -/
def cDrF (f i : Nat) : Bool := i == 5 || (i == 129 && (f == 304 || f == 305 || f == 309 || f == 310 || f == 311 || f == 312 || f == 313 || f == 314 || f == 315 || f == 316 || f == 318 || f == 319))
def cDrA (b : Nat) : Bool := b == 6 || b == 7 || b == 8 || b == 131 || (Nat.ble 10 b && Nat.ble b 22)
def mDrF (f i : Nat) : Bool := mSsF f i || mShF f i || mWhF f i
def mDrA (b : Nat) : Bool := b == 157 || b == 158 || b == 159 || b == 160 || b == 161 || b == 167 || b == 168 || b == 170 || b == 171 || b == 172 || b == 173
theorem Sh.fr {c c' m m' : Mm} {p : Nat} (h : Sh c m) (hp : gI c 602 5 = nI p) (hp12 : p ≤ 12) {PF QF : Nat → Nat → Bool} {PA QA : Nat → Bool} (f : Fr PF PA c c') (g : Fr QF QA m m') (k1 : ∀ f, PF f 5 = false) (k2 : PA 6 = false ∧ PA 7 = false ∧ PA 8 = false ∧ ∀ i, i < p → PA (10 + i) = false) (k3 : QF 1242 133 = false ∧ QF 1233 133 = false ∧ QF 1240 133 = false ∧ QF 1266 133 = false) (k4 : QA 158 = false ∧ QA 159 = false ∧ QA 160 = false ∧ QA 161 = false) : Sh c' m' := by
  obtain ⟨s, p', hW, e1, e2, e3, e4, e5, e6⟩ := h
  have : p' = p := by rw [e1] at hp; exact (nI_eq (by omega) (by omega)).mp hp
  subst this
  refine ⟨s, p', hW.fr f g (k1 _) (k1 _) k2.1 k3.1 k3.2.1 k4.2.2.2, by rw [f.i (k1 _)]; exact e1, by rw [g.i k3.2.2.1]; exact e2, e3, fun i hi => (e4 i hi).fr (f.a k2.2.1) (f.a k2.2.2.1) (f.a (k2.2.2.2 i hi)) (by rw [g.a k4.2.1]) (by rw [g.a k4.2.2.1]) (fun j _ => by rw [g.a k4.1]), fun hp => ?_, e6⟩
  obtain ⟨l, l1, l2, l3⟩ := e5 hp
  exact ⟨l, by rw [f.i (k1 _)]; exact l1, by rw [g.i k3.2.2.2]; exact l2, l3⟩
def mPreF (f i : Nat) : Bool := mSsF f i || mWhF f i
def mPreA (b : Nat) : Bool := mStA b || b == 172 || b == 173
theorem Sh.white {c m m' : Mm} (h : Sh c m) (f : Fr mWhF (fun b => b == 157) m m') : Sh c m' := by
  have h0 := h
  obtain ⟨s, p, _, e1, _, e3, _⟩ := h
  exact h0.fr (PF := fun _ _ => false) (PA := fun _ => false) e1 e3 Fr.refl f (fun _ => rfl) ⟨rfl, rfl, rfl, fun _ _ => rfl⟩ ⟨rfl, rfl, rfl, rfl⟩ ⟨rfl, rfl, rfl, rfl⟩
section MID
variable {β : Type} {Q : β → Mm → Int32 → Mm → Prop} {K : Int64 → Mm → Option (β × Mm)} {st sz p w h rc rm ns foc fom ph po pn nx : Nat} {F : Nat → Nat} {lo inv : Bool} {c m : Mm}
theorem P2_mid (pc : PicC c st sz F) (pm : PicM m st sz F) (hl : gI c 306 129 = cI lo) (hlm : gI m 1269 133 = cI (!lo)) (rt : RunT c) (tb : Tab m) (sh : Sh c m) (hp : gI c 602 5 = nI p) (hp12 : p ≤ 12) (wc : gJ c 309 129 = lN w) (hc : gJ c 310 129 = lN h) (rcc : gJ c 314 129 = lN rc) (phc : gJ c 312 129 = lN ph) (foc' : gJ c 313 129 = lN foc) (hfoc : foc < 2 ^ 40) (fom' : gB m 171 266 = lN fom) (hfom : fom < 2 ^ 40) (hfo : foc = 2 ↔ fom = 2) (poc : gJ c 315 129 = lN po) (pnc : gJ c 316 129 = lN pn) (hpo : po + 12 ≤ sz) (hpn : pn + 12 ≤ sz) (gpo : gA m 170 273 = nI po) (gpn : gA m 170 279 = nI pn) (f0 : gI c 304 129 = 0) (hph : gB m 171 262 = 0 ↔ inv = false) (hph2 : ph < 2) (hph3 : inv = decide (ph = 1)) (hw1 : 1 ≤ w) (hw : w ≤ 640) (hh1 : 1 ≤ h) (hh : h ≤ 800) (hrc1 : 1 ≤ rc) (hrc : rc ≤ h) (hrm : rm < 2 ^ 40) (hr : rc = rm ∨ (rc = h ∧ h ≤ rm)) (hns : ns = (h + rc - 1) / rc) (hnx : nx < 2 ^ 40)
    (good : ∀ c' m' y, Fr cDrF cDrA c c' → Fr mDrF mDrA m m' → gI c' 603 5 = cI y → gI m' 1233 133 = cI y → (y = false → Sh c' m' ∧ gI c' 304 129 = 0) → (y = true → gI c' 304 129 = 1) → (∀ j, j < 64000 → gA m' 157 j = 0) → K3 c m c' m' → P2 (K (lN (nm F lo nx 4)) c') (some (1, m')) Q)
    (bad : ∀ c' m' k p, Fr cDrF cDrA c c' → Fr mDrF mDrA m m' → (k = 4 ∨ k = 5) → gI c' 304 129 = nI k → gI c' 305 129 = nI p → gI m' 1243 133 = nI k → gI m' 1245 133 = nI p → p ≤ sz → gI m' 1233 133 = gI m 1233 133 → P2 (K (lN (nm F lo nx 4)) c') (some (0, m')) Q) :
    P2 (bd (bd (f_X3_isList (lN po) c) fun v2 T3 => if v2 = 0 then (bd (f_X3_fail 4 (gJ T3 315 129) T3) fun _ T4 => f_X3_checkEntries_133 T4) else (f_X3_checkEntries_133 T3)) fun _ T1 => bd (if (gI T1 304 129) = 0 then (bd (f_X3_readStrips T1) fun _ T2 => f_X3_readDirectory_117 (lN nx) T2) else (f_X3_readDirectory_117 (lN nx) T1)) K) (f_X12_directory_l343 FU (nI w) (nI h) (lN rm) (nI ns) (nI 273) m) Q := by
  have hsz := pc.2.2.2.1
  have hF := pc.2.2.2.2.2.1
  have hnsl : ns ≤ h + rc - 1 := by rw [hns]; exact Nat.div_le_self _ _
  have h603 : gI c 603 5 = 0 := by
    obtain ⟨s0, p0, hW0, _⟩ := sh
    exact hW0.2.2.2.2.1
  -- the end of a directory that failed
  have eK : ∀ c' k, PicC c' st sz F → gI c' 306 129 = cI lo → gI c' 304 129 = nI k → (k = 4 ∨ k = 5) → bd (if (gI c' 304 129) = 0 then (bd (f_X3_readStrips c') fun _ T2 => f_X3_readDirectory_117 (lN nx) T2) else (f_X3_readDirectory_117 (lN nx) c')) K = K (lN (nm F lo nx 4)) c' ∧ bd (f_X3_readDirectory_117 (lN nx) c') K = K (lN (nm F lo nx 4)) c' := by
    intro c' k q1 q2 q3 q4
    have hne : ¬ gI c' 304 129 = 0 := by rw [q3]; rcases q4 with rfl | rfl <;> decide
    have e117 : f_X3_readDirectory_117 (lN nx) c' = some (lN (nm F lo nx 4), c') := by
      unfold f_X3_readDirectory_117 f_X3_readDirectory_141
      rw [if_neg hne, if_neg hne, show (4 : Int32) = nI 4 from rfl, pic_num q1 q2 (by omega) (by omega), bd_eq]
    exact ⟨by rw [if_neg hne, e117, bd_eq], by rw [e117, bd_eq]⟩
  have evm : ∀ (n : Nat) (t : Int32) m, f_X12_directory_l343 (n + 1) (nI w) (nI h) (lN rm) (nI ns) t m = f_X12_directory_b343 (f_X12_directory_l343 n) (nI w) (nI h) (lN rm) (nI ns) t m := fun n t m => rfl
  rw [show FU = 3999999997 + 1 + 1 + 1 from rfl, evm]
  obtain ⟨b1, i1, i2⟩ := c_isList (p := po) (h := h) (rc := rc) pc hl (by omega) hc rcc hh hrc1 (by omega)
  obtain ⟨b2, j1, j2⟩ := c_isList (p := pn) (h := h) (rc := rc) pc hl (by omega) hc rcc hh hrc1 (by omega)
  rw [← hns] at i2 j2
  obtain ⟨l1, l2⟩ := m_list (a3 := nI w) (a4 := nI h) (a5 := lN rm) (ns := ns) (3999999997 + 1 + 1) 273 172 (Or.inl ⟨rfl, rfl⟩) pm hlm hpo (by omega) gpo
  rw [i1, bd_eq]
  have failS : ∀ pl, pl ≤ sz → Fr cDrF cDrA c (uI (uI c 304 129 (nI 4)) 305 129 (nI pl)) := fun pl _ => (Fr.refl.uI _ (by rfl)).uI _ (by rfl)
  have failE : ∀ pl (m' : Mm), pl ≤ sz → Fr mDrF mDrA m m' → gI m' 1233 133 = gI m 1233 133 → P2 (bd (some ((), uI (uI c 304 129 (nI 4)) 305 129 (nI pl))) fun _ T1 => bd (if (gI T1 304 129) = 0 then (bd (f_X3_readStrips T1) fun _ T2 => f_X3_readDirectory_117 (lN nx) T2) else (f_X3_readDirectory_117 (lN nx) T1)) K) (some (0, uI (uI m' 1243 133 4) 1245 133 (nI pl))) Q := by
    intro pl m' hpl fm h33
    have e304 : gI (uI (uI c 304 129 (nI 4)) 305 129 (nI pl)) 304 129 = nI 4 := by rw [gI_uI, if_neg (by decide), gI_uI, if_pos ⟨rfl, rfl⟩]
    rw [bd_eq, (eK _ 4 (pc.fr (failS pl hpl) rfl rfl rfl rfl) (by rw [(failS pl hpl).i rfl]; exact hl) e304 (Or.inl rfl)).1]
    exact bad _ _ 4 pl (failS pl hpl) ((fm.uI _ (by rfl)).uI _ (by rfl)) (Or.inl rfl) e304 (by rw [gI_uI, if_pos ⟨rfl, rfl⟩]) (by rw [gI_uI, if_neg (by decide), gI_uI, if_pos ⟨rfl, rfl⟩]; rfl) (by rw [gI_uI, if_pos ⟨rfl, rfl⟩]) hpl (by rw [gI_uI, if_neg (by decide), gI_uI, if_neg (by decide)]; exact h33)
  cases b1 with
  | false =>
    have hno : ¬ lOk F lo sz ns po := fun y => by have := i2.mpr y; cases this
    rw [if_pos (by decide), poc, show (4 : Int32) = nI 4 from rfl, f_fail (sz := sz) f0 pc.2.2.1 (by omega) (by omega), bd_eq, if_neg (show ¬ sz < po by omega), l2 hno]
    have fS := failS po (by omega)
    obtain ⟨b3, t1, _⟩ := c_isList (c := uI (uI c 304 129 (nI 4)) 305 129 (nI po)) (p := pn) (h := h) (rc := rc) (pc.fr fS rfl rfl rfl rfl) (by rw [fS.i rfl]; exact hl) (by omega) hc rcc hh hrc1 (by omega)
    have e133 : f_X3_checkEntries_133 (uI (uI c 304 129 (nI 4)) 305 129 (nI po)) = some ((), uI (uI c 304 129 (nI 4)) 305 129 (nI po)) := by
      unfold f_X3_checkEntries_133
      rw [show gJ (uI (uI c 304 129 (nI 4)) 305 129 (nI po)) 316 129 = lN pn from pnc, t1, bd_eq]
      cases b3 with
      | false => rw [if_pos (by decide), f_failed (by rw [gI_uI, if_neg (by decide), gI_uI, if_pos ⟨rfl, rfl⟩]; decide), bd_eq]
      | true => rw [if_neg (by decide)]
    rw [e133]
    exact failE po m (by omega) Fr.refl rfl
  | true =>
    have hok := i2.mp rfl
    obtain ⟨m1, e1, f1, v1⟩ := l1 hok
    rw [if_neg (by decide), e1, show 273 + 6 = 279 from rfl, evm]
    have pm1 : PicM m1 st sz F := pm.fr f1 rfl rfl rfl
    obtain ⟨l3, l4⟩ := m_list (m := m1) (a3 := nI w) (a4 := nI h) (a5 := lN rm) (ns := ns) (3999999997 + 1) 279 173 (Or.inr ⟨rfl, rfl⟩) pm1 (by rw [f1.i rfl]; exact hlm) hpn (by omega) (by rw [f1.a rfl]; exact gpn)
    have fm1 : Fr mDrF mDrA m m1 := f1.weak (fun _ _ _ => rfl) (fun b e => by unfold mDrA at e; revert e; simp <;> (intros; assumption))
    unfold f_X3_checkEntries_133
    rw [pnc, j1, bd_eq]
    cases b2 with
    | false =>
      have hno : ¬ lOk F lo sz ns pn := fun y => by have := j2.mpr y; cases this
      rw [if_pos (by decide), pnc, show (4 : Int32) = nI 4 from rfl, f_fail (sz := sz) f0 pc.2.2.1 (by omega) (by omega), bd_eq, if_neg (show ¬ sz < pn by omega), l4 hno]
      exact failE pn m1 (by omega) fm1 (f1.i rfl)
    | true =>
      have hok2 := j2.mp rfl
      obtain ⟨m2, e2, f2, v2⟩ := l3 hok2
      rw [if_neg (by decide), e2, show 279 + 6 = 285 from rfl, evm, bd_eq, if_pos f0]
      have fm2 : Fr mDrF mDrA m m2 := fm1.trans (f2.weak (fun _ _ _ => rfl) (fun b e => by unfold mDrA at e; revert e; simp <;> (intros; assumption)))
      -- white pages
      have eb : f_X12_directory_b343 (f_X12_directory_l343 3999999997) (nI w) (nI h) (lN rm) (nI ns) (nI 285) m2 = bd (f_X12_white m2) fun _ T1 => f_X12_directory_l552 FU (nI w) (nI h) (lN rm) (nI ns) 0 0 T1 := by
        unfold f_X12_directory_b343
        rw [if_pos (by decide)]
      rw [eb]
      obtain ⟨m3, w1, w2, w3, w4⟩ := m_white m2
      rw [w1, bd_eq]
      have fm3 : Fr mDrF mDrA m m3 := fm2.trans (w4.weak (fun f i e => by unfold mDrF at e; revert e; simp <;> (intros; assumption)) (fun b e => by unfold mDrA at e; revert e; simp <;> (intros; assumption)))
      have ha : 10 ≤ 10 + p ∧ 10 + p ≤ 22 := by omega
      have hkq := kq_dots p (by omega)
      unfold f_X3_readStrips
      rw [next_page hp12 hp, bd_eq, gd_eq hkq.1]
      obtain ⟨c1, x1, x2, x3⟩ := c_fill hkq.2 c
      rw [x1, bd_eq]
      have fa : ∀ b, cDrA b = false → (b == 10 + p) = false := fun b e => by
        cases hb : (b == 10 + p) with
        | false => rfl
        | true =>
          have : b = 10 + p := by simpa using hb
          subst this
          unfold cDrA at e
          rw [Nat.ble_eq_true_of_le ha.1, Nat.ble_eq_true_of_le ha.2] at e
          simp at e
      have fc1 : Fr cDrF cDrA c c1 := x3.weak (fun _ _ _ => rfl) fa
      have hd0 : ∀ v, v < 800 → ∀ x, x < 640 → dotW (gA c1 (10 + p)) (20 * v) x = false := fun v hv x hx => by
        unfold dotW
        rw [x2 _ (by omega)]
        have : ∀ k, k < 32 → bt (0 : Int32) k = false := by decide
        exact this _ (by omega)
      have S : SI c1 m3 (10 + p) w 0 inv := ⟨fun v hv => by omega, fun v hv => by omega, fun v _ hv2 x hx => hd0 v hv2 x hx, fun v _ hv2 x hx => by
        rw [w2 _ (by omega)]
        have : ∀ k, k < 32 → bt (0 : Int32) k = false := by decide
        exact this _ (by omega)⟩
      have wF : ∀ f i, cDrF f i = false → cSsF f i = false := fun f i e => by unfold cDrF at e; unfold cSsF; revert e; simp; omega
      have wA : ∀ b, cDrA b = false → cSsA (10 + p) b = false := fun b e => by
        unfold cSsA
        rw [fa b e, Bool.false_or]
        unfold cDrA at e; revert e; simp <;> (intros; assumption)
      have wM : ∀ f i, mDrF f i = false → mSsF f i = false := fun f i e => by unfold mDrF at e; revert e; simp <;> (intros; assumption)
      have wN : ∀ b, mDrA b = false → mStA b = false := fun b e => by unfold mDrA at e; unfold mStA; revert e; simp; omega
      rw [show (0 : Int32) = nI 0 from rfl, bd_assoc, show FU = 3999999999 + 1 from rfl]
      refine P2_strips (K := fun u T2 => bd (f_X3_readDirectory_117 (lN nx) T2) K) (inv := inv) (rc := rc) (rm := rm) (w := w) (h := h) (lo := lo) (F := F) (st := st) (sz := sz) (po := po) (pn := pn) (ph := ph) (foc := foc) (fom := fom) (c0 := c1) (m0 := m3) (pc.fr fc1 rfl rfl rfl rfl) (pm.fr fm3 rfl rfl rfl) (by rw [x3.i rfl]; exact hl) (rt.fr fc1 rfl) (tb.fr fm3 rfl rfl) (by rw [x3.j rfl]; exact wc) (by rw [x3.j rfl]; exact hc) (by rw [x3.j rfl]; exact rcc) (by rw [x3.j rfl]; exact phc) (by rw [x3.j rfl]; exact foc') hfoc (by rw [w4.b rfl, f2.b rfl, f1.b rfl]; exact fom') hfom hfo (by rw [x3.j rfl]; exact poc) (by rw [x3.j rfl]; exact pnc) (by omega) (by omega) (fun s hs => by rw [w4.b rfl, f2.b rfl]; exact v1 s hs) (fun s hs => by rw [w4.b rfl]; exact v2 s hs) (by rw [x3.i rfl]; exact f0) (by rw [w4.b rfl, f2.b rfl, f1.b rfl]; exact hph) hph2 hph3 hw1 hw hh1 hh ha.1 ha.2 hkq.2 hrc1 hrc hrm hr hns hok.2.2.1 (fun c' m' g1 g2 g3 k3 g4 g5 => ?_) (fun c' m' pl g1 g2 g3 g4 g5 g6 g7 => ?_) 3999999999 0 0 c1 m3 ?_ (by omega) (by rw [Nat.zero_mul, if_pos (by omega)]) Fr.refl Fr.refl (by rw [x3.i rfl]; exact f0) ⟨rfl, rfl, rfl⟩ S
      · -- the page comes
        have fcc : Fr cDrF cDrA c c' := fc1.trans (g1.weak wF wA)
        have fmm : Fr mDrF mDrA m m' := fm3.trans (g2.weak wM wN)
        have e117 : bd (f_X3_readDirectory_117 (lN nx) c') K = bd (f_X6_come (nI w) (nI h) c') fun u T => bd (f_X3_readDirectory_141 (lN nx) T) K := by
          unfold f_X3_readDirectory_117
          rw [if_pos g3, show gJ c' 309 129 = lN w from by rw [g1.j rfl, x3.j rfl]; exact wc, show gJ c' 310 129 = lN h from by rw [g1.j rfl, x3.j rfl]; exact hc, lN_i, lN_i, bd_assoc]
        show P2 (bd (f_X3_readDirectory_117 (lN nx) c') K) _ Q
        rw [e117]
        have gc : Fr cSsF (cSsA (10 + p)) c c' := (x3.weak (fun _ _ _ => rfl) (fun b e => by unfold cSsA at e; revert e; simp <;> (intros; assumption))).trans g1
        have gm : Fr mPreF mPreA m m' := (((f1.weak (QF := mPreF) (QA := mPreA) (fun _ _ _ => rfl) (fun b e => by unfold mPreA at e; revert e; simp <;> (intros; assumption))).trans (f2.weak (fun _ _ _ => rfl) (fun b e => by unfold mPreA at e; revert e; simp <;> (intros; assumption)))).trans (w4.weak (fun f i e => by unfold mPreF at e; revert e; simp <;> (intros; assumption)) (fun b e => by unfold mPreA mStA at e; revert e; simp <;> (intros; assumption)))).trans (g2.weak (fun f i e => by unfold mPreF at e; revert e; simp <;> (intros; assumption)) (fun b e => by unfold mPreA at e; revert e; simp <;> (intros; assumption)))
        have sh' : Sh c' m' := sh.fr hp hp12 gc gm (fun _ => rfl) ⟨by unfold cSsA; simp; omega, by unfold cSsA; simp; omega, by unfold cSsA; simp; omega, fun i hi => by unfold cSsA; simp; omega⟩ ⟨rfl, rfl, rfl, rfl⟩ ⟨rfl, rfl, rfl, rfl⟩
        refine P2_bd (P2_come sh' (by rw [gc.i rfl]; exact hp) hp12 (tb.fr gm rfl rfl) hw1 hw hh1 hh ⟨g4, g5⟩) ?_
        rintro _ c4 _ m4 ⟨⟨y, y1, y2, y3⟩, k1, k2⟩
        obtain ⟨m5, z1, z2, z3, z4⟩ := m_white m4
        rw [z1, bd_eq]
        have fc4 : Fr cDrF cDrA c c4 := fcc.trans (k1.weak (fun f i e => by unfold cDrF at e; unfold cShF; revert e; simp <;> (intros; assumption)) (fun b e => by unfold cDrA at e; unfold cShA; revert e; simp; omega))
        have fm5 : Fr mDrF mDrA m m5 := (fmm.trans (k2.weak (fun f i e => by unfold mDrF at e; revert e; simp <;> (intros; assumption)) (fun b e => by unfold mDrA at e; unfold mShA; revert e; simp; omega))).trans (z4.weak (fun f i e => by unfold mDrF at e; revert e; simp <;> (intros; assumption)) (fun b e => by unfold mDrA at e; revert e; simp <;> (intros; assumption)))
        have c40 : gI c4 304 129 = 0 := by rw [k1.i rfl]; exact g3
        have kk : K3 c m c4 m5 := ⟨by rw [k1.i rfl, k3.1, x3.i rfl], by rw [z4.i rfl, k2.i rfl, k3.2.1, w4.i rfl, f2.i rfl, f1.i rfl], by rw [z4.i rfl, k2.i rfl, k3.2.2, w4.i rfl, f2.i rfl, f1.i rfl]⟩
        unfold f_X3_readDirectory_141
        rw [if_pos c40, y1]
        have pc4 : PicC c4 st sz F := pc.fr fc4 rfl rfl rfl rfl
        have hl4 : gI c4 306 129 = cI lo := by rw [fc4.i rfl]; exact hl
        cases y with
        | false =>
          rw [if_pos (by decide), show (4 : Int32) = nI 4 from rfl, pic_num pc4 hl4 (by omega) (by omega), bd_eq, bd_eq]
          exact good c4 m5 false fc4 fm5 y1 (by rw [z4.i rfl]; exact y2) (fun _ => ⟨(y3 rfl).white z4, c40⟩) (fun y => by cases y) z2 kk
        | true =>
          rw [if_neg (by decide), lb_eq, show (4 : Int32) = nI 4 from rfl, pic_num (c := uI c4 304 129 1) (st := st) (sz := sz) (F := F) (lo := lo) (pc4.fr (Fr.refl.uI (PF := cDrF) (PA := cDrA) 1 (by rfl)) rfl rfl rfl rfl) hl4 (by omega) (by omega), bd_eq, bd_eq]
          exact good _ m5 true (fc4.uI 1 (by rfl)) fm5 y1 (by rw [z4.i rfl]; exact y2) (fun y => by cases y) (fun _ => by rw [gI_uI, if_pos ⟨rfl, rfl⟩]) z2 ⟨by rw [gI_uI, if_neg (by decide)]; exact kk.1, kk.2.1, kk.2.2⟩
      · have fcc : Fr cDrF cDrA c c' := fc1.trans (g1.weak wF wA)
        have fmm : Fr mDrF mDrA m m' := fm3.trans (g2.weak wM wN)
        show P2 (bd (f_X3_readDirectory_117 (lN nx) c') K) _ Q
        rw [(eK c' 5 (pc.fr fcc rfl rfl rfl rfl) (by rw [fcc.i rfl]; exact hl) g3 (Or.inr rfl)).2]
        exact bad c' m' 5 pl fcc fmm (Or.inr rfl) g3 g4 g5 g6 g7 (by rw [g2.i rfl, w4.i rfl, f2.i rfl, f1.i rfl])
      · omega
end MID
