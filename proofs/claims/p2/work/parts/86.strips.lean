/-! All strips of a picture. -/
def cSsF (f i : Nat) : Bool := i == 129 && (f == 304 || f == 305 || f == 318 || f == 319)
def cSsA (a b : Nat) : Bool := b == a || b == 131
def mSsF (f i : Nat) : Bool := i == 133 && (f == 1243 || f == 1245 || f == 1260 || f == 1261 || f == 1262 || f == 1263 || f == 1276 || f == 1277 || f == 1278 || f == 1279)
def K3 (c0 m0 c m : Mm) : Prop := gI c 305 129 = gI c0 305 129 ∧ gI m 1243 133 = gI m0 1243 133 ∧ gI m 1245 133 = gI m0 1245 133
theorem c_strips {c : Mm} {h rc : Nat} (e1 : gJ c 310 129 = lN h) (e2 : gJ c 314 129 = lN rc) (hh : h ≤ 800) (hr1 : 1 ≤ rc) (hr : rc ≤ 800) : f_X3_strips c = some (lN ((h + rc - 1) / rc), c) := by
  unfold f_X3_strips
  rw [e1, e2, f_maxl, bd_eq, if_neg (fun y => by have := (pk_lLT (b := 1) (by omega) (by omega)).mp y; omega), gd_eq (fun y => by have := (lN3 (k := 0) (by omega) (by omega)).mp y; omega), lN_add, show lN (h + rc) - 1 = lN (h + rc - 1) from lN_sub (b := 1) (by omega), pk_lDiv (by omega) (by omega) (by omega)]
section SS
variable {β : Type} {Q : β → Mm → Int32 → Mm → Prop} {K : Unit → Mm → Option (β × Mm)} {a w h rc rm ns st sz foc fom ph po pn : Nat} {F : Nat → Nat} {lo inv : Bool} {c0 m0 : Mm}
theorem P2_strips (pc : PicC c0 st sz F) (pm : PicM m0 st sz F) (hl : gI c0 306 129 = cI lo) (rt : RunT c0) (tb : Tab m0) (wc : gJ c0 309 129 = lN w) (hc : gJ c0 310 129 = lN h) (rcc : gJ c0 314 129 = lN rc) (phc : gJ c0 312 129 = lN ph) (foc' : gJ c0 313 129 = lN foc) (hfoc : foc < 2 ^ 40) (fom' : gB m0 171 266 = lN fom) (hfom : fom < 2 ^ 40) (hfo : foc = 2 ↔ fom = 2) (poc : gJ c0 315 129 = lN po) (pnc : gJ c0 316 129 = lN pn) (hpo : po < 2 ^ 40) (hpn : pn < 2 ^ 40) (om : ∀ s, s < ns → gB m0 172 s = lN (lsv F lo po s)) (nm' : ∀ s, s < ns → gB m0 173 s = lN (lsv F lo pn s)) (f0 : gI c0 304 129 = 0) (hph : gB m0 171 262 = 0 ↔ inv = false) (hph2 : ph < 2) (hph3 : inv = decide (ph = 1)) (hw1 : 1 ≤ w) (hw : w ≤ 640) (hh1 : 1 ≤ h) (hh : h ≤ 800) (ha1 : 10 ≤ a) (ha2 : a ≤ 22) (hN : LN a = 16000) (hrc1 : 1 ≤ rc) (hrc : rc ≤ h) (hrm : rm < 2 ^ 40) (hr : rc = rm ∨ (rc = h ∧ h ≤ rm)) (hns : ns = (h + rc - 1) / rc) (hns40 : ns ≤ 40)
    (good : ∀ c' m', Fr cSsF (cSsA a) c0 c' → Fr mSsF mStA m0 m' → gI c' 304 129 = 0 → K3 c0 m0 c' m' → (∀ v, v < h → ∀ x, x < w → bt (gA m' 157 (80 * v + x / 8)) (7 - x % 8) = dotW (gA c' a) (20 * v) x) → (∀ v, v < h → ∀ x, w ≤ x → x < 640 → dotW (gA c' a) (20 * v) x = false) → P2 (K () c') (bd (f_X12_comes (nI w) (nI h) m') fun _ T1 => bd (f_X12_white T1) fun _ T2 => some (1, T2)) Q)
    (bad : ∀ c' m' p, Fr cSsF (cSsA a) c0 c' → Fr mSsF mStA m0 m' → gI c' 304 129 = 5 → gI c' 305 129 = nI p → gI m' 1243 133 = 5 → gI m' 1245 133 = nI p → p ≤ sz → P2 (K () c') (some (0, m')) Q) :
    ∀ n s y c m, ns - s < n → s ≤ ns → y = (if s * rc ≤ h then s * rc else h) → Fr cSsF (cSsA a) c0 c → Fr mSsF mStA m0 m → gI c 304 129 = 0 → K3 c0 m0 c m → SI c m a w y inv → P2 (bd (f_X3_readStrips_l17 (n + 1) a (nI y) (nI s) c) K) (f_X12_directory_l552 (n + 1) (nI w) (nI h) (lN rm) (nI ns) (nI y) (nI s) m) Q := by
  have hsz := pc.2.2.2.1
  have hF := pc.2.2.2.2.2.1
  have hdiv : ns * rc ≥ h ∧ ∀ s, s < ns → s * rc < h := by
    have h1 := Nat.div_add_mod (h + rc - 1) rc
    have h2 := Nat.mod_lt (h + rc - 1) (show rc > 0 by omega)
    rw [← hns, Nat.mul_comm] at h1
    refine ⟨by omega, fun s hs => ?_⟩
    have : (s + 1) * rc ≤ ns * rc := Nat.mul_le_mul_right rc hs
    rw [Nat.add_mul] at this
    omega
  -- the end on the class's side
  have e194 : ∀ c, Fr cSsF (cSsA a) c0 c → ∃ c', f_X3_readStrips_194 a c = some ((), c') ∧ Fr (fun _ _ => false) (fun b => b == a) c c' ∧ (∀ v, v < h → ∀ x, x < 640 → dotW (gA c' a) (20 * v) x = xor (dotW (gA c a) (20 * v) x) (inv && decide (x < w))) := by
    intro c fc
    unfold f_X3_readStrips_194
    rw [fc.j rfl, phc]
    by_cases z : ph = 1
    · obtain ⟨c', r1, r2, r3⟩ := c_invert (a := a) (w := w) (h := h) (c := c) (by omega) hN hw hh (by rw [fc.j rfl]; exact wc) (by rw [fc.j rfl]; exact hc)
      rw [if_pos (by rw [c_eq, z]; rfl), r1, bd_eq]
      refine ⟨c', rfl, r3, fun v hv x hx => ?_⟩
      rw [r2 v (by omega) x hx, hph3, decide_eq_true z, decide_eq_true hv]
    · rw [if_neg (show ¬ lg_cmp (lN ph) 1 = 0 from fun y => z ((lN3 (k := 1) (by omega) (by omega)).mp (c_eq.mp y)))]
      refine ⟨c, rfl, Fr.refl, fun v hv x hx => ?_⟩
      rw [hph3, decide_eq_false z, Bool.false_and, Bool.xor_false]
  have wka : ∀ b, cSsA a b = false → (b == a) = false := fun b e => by unfold cSsA at e; revert e; simp; omega
  -- a fault ends the class's loop
  have estop : ∀ n y s c p, Fr cSsF (cSsA a) c0 c → gI c 304 129 = 5 → gI c 305 129 = nI p → s ≤ 40 → ∃ c', f_X3_readStrips_l17 (n + 1) a (nI y) (nI s) c = some ((), c') ∧ Fr cSsF (cSsA a) c0 c' ∧ gI c' 304 129 = 5 ∧ gI c' 305 129 = nI p := by
    intro n y s c p fc g1 g2 hs
    obtain ⟨c', r1, r2, _⟩ := e194 c fc
    have fin : f_X3_readStrips_194 a c = some ((), c') ∧ Fr cSsF (cSsA a) c0 c' ∧ gI c' 304 129 = 5 ∧ gI c' 305 129 = nI p := ⟨r1, fc.trans (r2.weak (fun _ _ _ => rfl) wka), by rw [r2.i rfl]; exact g1, by rw [r2.i rfl]; exact g2⟩
    refine ⟨c', ?_, fin.2⟩
    show f_X3_readStrips_b17 (f_X3_readStrips_l17 n) a (nI y) (nI s) c = _
    unfold f_X3_readStrips_b17
    by_cases z : (40 : Int32) ≤ nI s
    · rw [if_pos z]; exact r1
    · rw [if_neg z, c_strips (by rw [fc.j rfl]; exact hc) (by rw [fc.j rfl]; exact rcc) hh hrc1 (by omega), bd_eq]
      split
      · exact r1
      · rw [if_neg (show ¬ gI c 304 129 = 0 by rw [g1]; decide)]; exact r1
  intro n
  induction n with
  | zero => intro s y c m hh; omega
  | succ n ih =>
    intro s y c m hn hs hy fc fm g0 k3 S
    have hs' := hdiv.2 s
    have evc : f_X3_readStrips_l17 (n + 1 + 1) a (nI y) (nI s) c = f_X3_readStrips_b17 (f_X3_readStrips_l17 (n + 1)) a (nI y) (nI s) c := rfl
    have evm : f_X12_directory_l552 (n + 1 + 1) (nI w) (nI h) (lN rm) (nI ns) (nI y) (nI s) m = f_X12_directory_b552 (f_X12_directory_l552 (n + 1)) (nI w) (nI h) (lN rm) (nI ns) (nI y) (nI s) m := rfl
    rw [evc, evm]
    unfold f_X3_readStrips_b17 f_X12_directory_b552
    rw [c_strips (by rw [fc.j rfl]; exact hc) (by rw [fc.j rfl]; exact rcc) hh hrc1 (by omega), bd_eq, ← hns, nI_l (by omega), g0]
    rcases Nat.lt_or_ge s ns with hlt | hge
    · have hyy : y = s * rc := by rw [hy, if_pos (by have := hs' hlt; omega)]
      have hyh := hs' hlt
      rw [if_neg (show ¬ (40 : Int32) ≤ nI s from nI_ge (b := 40) (by omega) (by omega)), if_neg (by rw [c_ge, pk_lLE (by omega) (by omega)]; omega), if_pos rfl, if_neg (nI_ge hlt (by omega))]
      have b1 := nm_lt hF (lo := lo) (a := lbs F lo po + s * lk F lo po) (lk_le F lo po)
      have b2 := nm_lt hF (lo := lo) (a := lbs F lo pn + s * lk F lo pn) (lk_le F lo pn)
      have pc1 : PicC c st sz F := pc.fr fc rfl rfl rfl (by show (2 == a || false) = false; simp; omega)
      have hl1 : gI c 306 129 = cI lo := by rw [fc.i rfl]; exact hl
      rw [show gJ c 315 129 = lN po from by rw [fc.j rfl]; exact poc, c_listed pc1 hl1 hpo (by omega), bd_eq, show gJ c 316 129 = lN pn from by rw [fc.j rfl]; exact pnc, c_listed pc1 hl1 hpn (by omega), bd_eq]
      have ho : gB m 172 s = lN (lsv F lo po s) := by rw [fm.b rfl]; exact om s hlt
      have hn' : gB m 173 s = lN (lsv F lo pn s) := by rw [fm.b rfl]; exact nm' s hlt
      have b1' : lsv F lo po s < 2 ^ 32 := b1
      have b2' : lsv F lo pn s < 2 ^ 32 := b2
      generalize lsv F lo po s = off at ho b1'
      generalize lsv F lo pn s = len at hn' b2'
      have pm1 : PicM m st sz F := pm.fr fm rfl rfl rfl
      obtain ⟨ye, hye, hyel⟩ : ∃ ye, ye = (if y + rc ≤ h then y + rc else h) ∧ ye ≤ h := ⟨_, rfl, by split <;> omega⟩
      have hye2 : ye = (if y + rm ≤ h then y + rm else h) := by
        rcases hr with hr | ⟨h1, h2⟩
        · rw [hye, hr]
        · rw [hye]; split <;> split <;> omega
      have hnx : ye = (if (s + 1) * rc ≤ h then (s + 1) * rc else h) := by rw [hye, hyy, Nat.add_mul, Nat.one_mul]
      have emin : (if lN h < lN (y + rc) then lN h else lN (y + rc)) = lN ye := by
        rw [hye]
        by_cases z : y + rc ≤ h
        · rw [if_pos z, if_neg (by rw [pk_lLT (by omega) (by omega)]; omega)]
        · rw [if_neg z, if_pos (by rw [pk_lLT (by omega) (by omega)]; omega)]
      rw [show gJ c 314 129 = lN rc from by rw [fc.j rfl]; exact rcc, show gJ c 310 129 = lN h from by rw [fc.j rfl]; exact hc, nI_l (by omega), lN_add, f_minl, bd_eq, emin, lN_i, lb_eq, lN_add, show gI c 303 129 = nI sz from pc1.2.2.1, nI_l (by omega)]
      rw [ix_in (j := s) (nI_pos (by omega)) (nI_clamp (by omega)) (by omega), ix_in (j := s) (nI_pos (by omega)) (nI_clamp (by omega)) (by omega), ho, hn', lN_add, show gI m 1268 133 = nI sz from pm1.2.1, nI_l (by omega)]
      have sA131 : cSsA a 132 = false := by show (132 == a || 132 == 131) = false; simp; omega
      have wkc : ∀ f i, cSsF f i = false → cRdF f i = false := fun f i e => by unfold cSsF at e; unfold cRdF; revert e; simp; omega
      have wkm : ∀ f i, mSsF f i = false → mRdF f i = false := fun f i e => by unfold mSsF at e; unfold mRdF; revert e; simp; omega
      unfold f_X3_readStrips_98
      by_cases z : off + len ≤ sz
      · rw [if_neg (show ¬ 0 < lg_cmp (lN (off + len)) (lN sz) from by rw [c_gt, pk_lLT (by omega) (by omega)]; omega), if_neg (show ¬ (1 : Int32) = 0 by decide), if_pos (show lg_cmp (lN (off + len)) (lN sz) ≤ 0 from by rw [c_le, pk_lLE (by omega) (by omega)]; exact z), lN_i, lN_i]
        obtain ⟨c1, o1, o2, o3, o4⟩ := c_open (c := c) (len := len) pc1 z (by rw [fc.j rfl]; exact foc') hfoc
        obtain ⟨m1, u1, u2, u3, u4, u5, u6, u7⟩ := m_open (m := m) (w := w) (s := s) (a4 := nI h) (a7 := nI ns) (a8 := nI y) (a5 := lN rm) (k552 := f_X12_directory_l552 (n + 1)) pm1 z (by rw [fm.b rfl]; exact fom') hfom hw (by omega) ho hn'
        rw [o1, bd_eq, u1]
        have efo : decide (fom = 2) = decide (foc = 2) := decide_eq_decide.mpr hfo.symm
        rw [efo] at u2
        have fc1 : Fr cSsF (cSsA a) c0 c1 := fc.trans (o4.weak (fun f i e => by unfold cSsF at e; unfold cOpF; revert e; simp; omega) (fun b e => by unfold cSsA at e; revert e; simp))
        have fm1 : Fr mSsF mStA m0 m1 := fm.trans (u7.weak (fun f i e => by unfold mSsF at e; unfold mOpF; revert e; simp; omega) (fun b e => by unfold mStA at e; revert e; simp; omega))
        have ea : gA c1 a = gA c a := o4.a (by show (a == 131) = false; simp; omega)
        have S1 : SI c1 m1 a w y inv := by
          unfold SI; rw [ea, show gA m1 157 = gA m 157 from u7.a rfl]; exact S
        have zz : (0 : Int64) = lN (y - y) := by rw [Nat.sub_self]; rfl
        rw [zz]
        refine P2_srows (h := h) (off := off) (sz := sz) (rps := rm) (y0 := y) (inv := inv) (K := K) (Q := Q) (a3 := nI s) (a7 := nI ns) (a9 := nI s) (k17 := f_X3_readStrips_l17 (n + 1)) (k552 := f_X12_directory_l552 (n + 1)) o2 u2 (rt.fr fc1 sA131) (tb.fr fm1 rfl rfl) u5 (by rw [fc1.j rfl]; exact wc) (by rw [o4.i rfl]; exact g0) (by rw [o4.i rfl]; exact pc1.2.2.1) u4 (by omega) (by omega) (by rw [fm1.b rfl]; exact hph) hw1 hw hh ha1 ha2 hN hrm ye hye2 (fun c' m' g1 g2 S' => ?_) (fun c' m' g1 g2 => ?_) FU y 0 c1 m1 (FU_gt (by omega)) (Nat.le_refl _) (by rw [hye]; split <;> omega) Fr.refl Fr.refl (by omega) o3 u3 S1 (fun x hx => by rw [if_pos rfl, u6 x hx]; rfl)
        · rw [nI_1]
          have f1 := fc1.trans (g1.weak (QF := cSsF) (QA := cSsA a) wkc wka)
          have f2 := fm1.trans (g2.weak (QF := mSsF) (QA := mStA) wkm (fun _ e => e))
          exact ih (s + 1) ye c' m' (by omega) hlt hnx f1 f2 (by rw [g1.i rfl, o4.i rfl]; exact g0) ⟨by rw [g1.i rfl, o4.i rfl]; exact k3.1, by rw [g2.i rfl, u7.i rfl]; exact k3.2.1, by rw [g2.i rfl, u7.i rfl]; exact k3.2.2⟩ S'
        · rw [nI_1]
          have f1 := fc1.trans (g1.weak (QF := cSsF) (QA := cSsA a) wkc wka)
          have f2 := fm1.trans (g2.weak (QF := mSsF) (QA := mStA) wkm (fun _ e => e))
          obtain ⟨c2, r1, r2, r3, r4⟩ := estop n ye (s + 1) (uI (uI c' 304 129 5) 305 129 (nI off)) off ((f1.uI 5 (by rfl)).uI (nI off) (by rfl)) (by rw [gI_uI, if_neg (by decide), gI_uI, if_pos ⟨rfl, rfl⟩]) (by rw [gI_uI, if_pos ⟨rfl, rfl⟩]) (by omega)
          rw [r1, bd_eq]
          exact bad c2 _ off r2 ((f2.uI 5 (by rfl)).uI (nI off) (by rfl)) r3 r4 (by rw [gI_uI, if_neg (by decide), gI_uI, if_pos ⟨rfl, rfl⟩]) (by rw [gI_uI, if_pos ⟨rfl, rfl⟩]) (by omega)
      · rw [if_pos (show 0 < lg_cmp (lN (off + len)) (lN sz) from by rw [c_gt, pk_lLT (by omega) (by omega)]; omega), if_pos (show (0 : Int32) = 0 from rfl), if_neg (show ¬ lg_cmp (lN (off + len)) (lN sz) ≤ 0 from by rw [c_le, pk_lLE (by omega) (by omega)]; exact z), ix_in (j := s) (nI_pos (by omega)) (nI_clamp (by omega)) (by omega), ho]
        have e118 : f_X3_readStrips_l118 (f_X3_readStrips_l17 (n + 1)) FU a (nI y) (nI s) (lN off) (nI ye) 0 (nI y) c = f_X3_readStrips_l17 (n + 1) a (nI ye) (nI (s + 1)) (uI (uI c 304 129 5) 305 129 (nI (if sz < off then sz else off))) := by
          show f_X3_readStrips_b118 (f_X3_readStrips_l17 (n + 1)) (f_X3_readStrips_l118 (f_X3_readStrips_l17 (n + 1)) 3999999999) _ _ _ _ _ _ _ _ = _
          unfold f_X3_readStrips_b118
          rw [if_pos rfl]
          unfold f_X3_readStrips_173
          rw [if_pos rfl, f_fail (sz := sz) g0 pc1.2.2.1 (by omega) (by omega), bd_eq, nI_1]
        obtain ⟨p, hp, hpl⟩ : ∃ p, p = (if sz < off then sz else off) ∧ p ≤ sz := ⟨_, rfl, by split <;> omega⟩
        rw [e118, ← hp]
        obtain ⟨c2, r1, r2, r3, r4⟩ := estop n ye (s + 1) (uI (uI c 304 129 5) 305 129 (nI p)) p ((fc.uI 5 (by rfl)).uI (nI p) (by rfl)) (by rw [gI_uI, if_neg (by decide), gI_uI, if_pos ⟨rfl, rfl⟩]) (by rw [gI_uI, if_pos ⟨rfl, rfl⟩]) (by omega)
        rw [r1, bd_eq]
        have ew : (if lg_cmp (lN off) (lN sz) ≤ 0 then ix (nI s) 40 fun j9 => bd (f_X12_wrong 5 (gB m 172 j9).toInt32 m) fun v11 T12 => gd (v11 = 0 ∨ v11 = 1) (some (v11, T12)) else bd (f_X12_wrong 5 (nI sz) m) fun v14 T15 => gd (v14 = 0 ∨ v14 = 1) (some (v14, T15))) = some ((0 : Int32), uI (uI m 1243 133 5) 1245 133 (nI p)) := by
          by_cases q : off ≤ sz
          · rw [if_pos (show lg_cmp (lN off) (lN sz) ≤ 0 from by rw [c_le, pk_lLE (by omega) (by omega)]; exact q), ix_in (j := s) (nI_pos (by omega)) (nI_clamp (by omega)) (by omega), ho, lN_i, m_wrong, hp, if_neg (by omega)]
          · rw [if_neg (show ¬ lg_cmp (lN off) (lN sz) ≤ 0 from by rw [c_le, pk_lLE (by omega) (by omega)]; exact q), m_wrong, hp, if_pos (by omega)]
        rw [ew]
        exact bad c2 _ p r2 ((fm.uI 5 (by rfl)).uI (nI p) (by rfl)) r3 r4 (by rw [gI_uI, if_neg (by decide), gI_uI, if_pos ⟨rfl, rfl⟩]) (by rw [gI_uI, if_pos ⟨rfl, rfl⟩]) hpl
    · have e : s = ns := by omega
      subst e
      have hyh : y = h := by rw [hy]; have := hdiv.1; split <;> omega
      obtain ⟨c', r1, r2, r3⟩ := e194 c fc
      have el : ∀ X : Option (Unit × Mm), (if (40 : Int32) ≤ nI s then f_X3_readStrips_194 a c else if 0 ≤ lg_cmp (lN s) (lN s) then f_X3_readStrips_194 a c else X) = f_X3_readStrips_194 a c := by
        intro X
        by_cases z : (40 : Int32) ≤ nI s
        · rw [if_pos z]
        · rw [if_neg z, if_pos (by rw [c_ge]; exact Int64.le_refl _)]
      rw [el, r1, bd_eq, if_pos (nI_le (Nat.le_refl _) (by omega))]
      refine good c' m (fc.trans (r2.weak (fun _ _ _ => rfl) wka)) fm (by rw [r2.i rfl]; exact g0) ⟨by rw [r2.i rfl]; exact k3.1, k3.2.1, k3.2.2⟩ (fun v hv x hx => ?_) (fun v hv x hx1 hx2 => ?_)
      · rw [r3 v hv x (by omega), S.1 v (by omega) x hx, decide_eq_true hx, Bool.and_true]
      · rw [r3 v hv x hx2, S.2.1 v (by omega) x hx1 hx2, decide_eq_false (by omega), Bool.and_false]; rfl
end SS
