/-! A macro is gone through, on both sides: one depth further and back. -/
section J2
variable {c c' c0 c1 c2 c3 m m' m0 m1 m2 m3 T T' M' : Mm} {d d' w b A o M o' n p p1 r q a i s f k u h rb t v kd gp L N : Nat} {F : Nat → Nat} {ov ov' ng sg z sm wt e : Bool} {g : Nat → Int32} {Gc Gm : Gty} {PF QF : Nat → Nat → Bool} {PA QA : Nat → Bool}
def dpF (f i : Nat) : Bool := (i == 23 && (f == 913 || f == 914)) || (decide (125 ≤ i) && decide (i ≤ 128))
def dqF (f i : Nat) : Bool := i == 133 && (f == 1226 || f == 1227 || f == 1228 || f == 1229 || f == 1230)
def dqA (a : Nat) : Bool := a == 156
theorem RR.deep (h : RR d ov c m) (fc : Fr dpF noA c c') (fm : Fr dqF dqA m m') (d3 : d' ≤ 3) (e1 : gI c' 914 23 = nI d') (e2 : gI m' 1229 133 = nI d') (e3 : gI m' 1230 133 = cI (decide (0 < d'))) (e4 : gR c' 913 23 = some (125 + d')) (e5 : gR m' 1226 133 = some 152 ∨ gR m' 1226 133 = some 156) : RR d' ov c' m' := by
  obtain ⟨q, q1, q2, q3⟩ := h.gn
  obtain ⟨k, v, hcv⟩ := h.cv
  obtain ⟨p, hp1, hp2⟩ := h.sh.pp
  have e34 : gA m' 134 = gA m 134 := fm.a rfl
  exact RR_mk (by rw [e34]; exact h.ev.fr fc (fun f i a b => by unfold dpF; simp; omega) (fun _ _ _ => rfl)) (by rw [e34]; exact h.eb) e1 e2 d3 (by rw [fc.i rfl]; exact h.o1) (by rw [fm.i (by rfl)]; exact h.o2) e3 ⟨q, by rw [fc.i rfl]; exact q1, by rw [fm.i (by rfl)]; exact q2, q3⟩
    ⟨k, v, hcv.fr fc fm (by rw [e34]) (by rw [e34]) ⟨rfl, rfl, rfl⟩ ⟨rfl, rfl⟩ rfl rfl⟩ (h.sh.fr hp1 hp2 fc fm (fun f => by unfold dpF; simp) ⟨rfl, rfl, rfl, fun i hi => rfl⟩ ⟨rfl, rfl, rfl, rfl⟩ ⟨rfl, rfl, rfl, rfl⟩) (h.tb.fr fm rfl rfl) (h.ft.fr fc fm ⟨rfl, rfl, rfl, rfl, rfl, rfl⟩ ⟨rfl, rfl, rfl, rfl, rfl, rfl, rfl⟩ rfl)
    (h.ka.fr fc ⟨rfl, rfl⟩ ⟨rfl, rfl, rfl⟩) (h.tl.fr fc fm rfl ⟨rfl, rfl, rfl, rfl, rfl⟩ (fun f i a b => by unfold dpF; simp; omega) (fun _ _ _ => rfl)) (h.mc.fr fc fm ⟨rfl, rfl, rfl⟩ ⟨rfl, rfl, rfl, rfl⟩) e4 e5
theorem MU.deep (h : MU d ov c m) (fc : Fr dpF noA c c') (fm : Fr dqF dqA m m') (d3 : d' ≤ 3) (e1 : gI c' 914 23 = nI d') (e4 : gR c' 913 23 = some (125 + d')) : MU d' ov c' m' := by
  obtain ⟨g, ev, eb⟩ := h.wc.ev
  refine MU_mk (WC_mk (mu_fr h.wc.mu (fc.i (by rfl)) (fc.i (by rfl)) (fc.i (by rfl))) ⟨g, ev.fr fc (fun f i a b => by unfold dpF; simp; omega) (fun _ _ _ => rfl), eb⟩ e1 d3 ((fc.i (by rfl)).trans h.wc.o1) (h.wc.ka.fr fc ⟨rfl, rfl⟩ ⟨rfl, rfl, rfl⟩) e4 (h.wc.fk.fr fc ⟨rfl, rfl, rfl⟩)) ((fm.i (by rfl)).trans h.m1) (h.st.fr (fc.weak (fun f i z => ?_) (fun a z => rfl)) (fm.weak (fun f i z => ?_) (fun a z => ?_)))
  · unfold cNS at z; unfold dpF; revert z; simp; omega
  · unfold mNS at z; unfold dqF; revert z; simp; omega
  · unfold mNA at z; unfold dqA; revert z; simp; omega
theorem Fr.fixP {P : Nat → Nat → Bool} (h : Fr (fun f i => PF f i || P f i) PA c c') (e : ∀ f i, P f i = true → gI c' f i = gI c f i ∧ gJ c' f i = gJ c f i ∧ gR c' f i = gR c f i) : Fr PF PA c c' := ⟨fun f i z => by
  cases y : P f i
  · exact h.1 f i (by show (PF f i || P f i) = false; rw [z, y]; rfl)
  · exact e f i y, h.2⟩
theorem kx_sk (hd : d < 3) {f i : Nat} (z : skF d ov f i = false) : kxF (d + 1) ov f i = false := by
  cases ov <;> (unfold skF at z; unfold kxF kwF skF; simp at z ⊢; omega)
theorem kw_sk (hd : d < 3) {a : Nat} (z : skA d ov a = false) : kwA (d + 1) ov a = false := by
  cases ov <;> (unfold skA at z; unfold kwA skA; simp at z ⊢; omega)
theorem c_opn {i A : Nat} {x y : Int32} : ∃ T', f_X5_open i A x y T = some ((), T') ∧ Fr (fun _ j => j == i) noA T T' ∧ gR T' 500 i = some A ∧ gI T' 501 i = (if x < 0 then 0 else x) ∧ gI T' 502 i = (if Int32.ofNat (LN A) < y then Int32.ofNat (LN A) else y) ∧ gI T' 503 i = 0 := by
  refine ⟨uI (uI (uI (uR T 500 i (some A)) 501 i (if x < 0 then 0 else x)) 502 i (if Int32.ofNat (LN A) < y then Int32.ofNat (LN A) else y)) 503 i 0, ?_, ?_, ?_, ?_, ?_, ?_⟩
  · unfold f_X5_open
    rw [lb_eq, f_max, bd_eq, lb_eq, f_min, bd_eq, lb_eq, lb_eq]
  · exact (((Fr.refl.uR _ (by simp)).uI _ (by simp)).uI _ (by simp)).uI _ (by simp)
  · show gR (uR T 500 i (some A)) 500 i = _
    rw [gR_uR, if_pos ⟨rfl, rfl⟩]
  · rw [gI_uI, if_neg (by omega), gI_uI, if_neg (by omega), gI_uI, if_pos ⟨rfl, rfl⟩]
  · rw [gI_uI, if_neg (by omega), gI_uI, if_pos ⟨rfl, rfl⟩]
  · rw [gI_uI, if_pos ⟨rfl, rfl⟩]
theorem m15 {u : Nat} : nI u * 1500 = nI (1500 * u) := by
  rw [nI_iz, nI_iz, show (1500 : Int32) = iz 1500 from rfl, iz_mul]; congr 1; omega
/-- behind the copy of the macro -/
noncomputable def thT (G : Gty) (a1 : Int32) (a2 : Nat) (a3 a4 a5 a6 : Int32) (T : Mm) : Option (Unit × Mm) := lb (uI T 1229 133 ((gI T 1229 133) + 1)) fun T3 => lb (uI T3 1230 133 1) fun T4 => lb (uR T4 1226 133 (some 156)) fun T5 => lb (uI T5 1227 133 a6) fun T6 => ix a1 16 fun j7 => lb (uI T6 1228 133 (a6 + (gA T6 150 j7))) fun T9 => bd (f_X12_run G T9) fun _ T10 => lb (uR T10 1226 133 (some a2)) fun T11 => lb (uI T11 1227 133 a3) fun T12 => lb (uI T12 1228 133 a4) fun T13 => gd (a5 = 0 ∨ a5 = 1) <| lb (uI T13 1230 133 a5) fun T15 => lb (uI T15 1229 133 ((gI T15 1229 133) - 1)) fun T16 => some ((), T16)
theorem m_l35 {A : Nat} {x3 x4 x5 : Int32} (hs : s ≤ 1500) (hu : u < 16) (hd : d ≤ 2) (e150 : gA m 150 u = nI s) (hb : ∀ j, byt (gA m 151 j)) : ∀ (N k : Nat) (T : Mm), s - k < N → k ≤ s → Fr nF dqA m T → (∀ j, gA T 156 j = if 1500 * d ≤ j ∧ j < 1500 * d + k then gA m 151 (1500 * u + (j - 1500 * d)) else gA m 156 j) → ∃ T', f_X12_through_l35 Gm N (nI u) A x3 x4 x5 (nI (1500 * d)) (nI k) T = thT Gm (nI u) A x3 x4 x5 (nI (1500 * d)) T' ∧ Fr nF dqA m T' ∧ (∀ j, gA T' 156 j = if 1500 * d ≤ j ∧ j < 1500 * d + s then gA m 151 (1500 * u + (j - 1500 * d)) else gA m 156 j) := by
  intro N
  induction N with
  | zero => intro k T h; omega
  | succ N ih =>
    intro k T h1 h2 h3 h4
    show ∃ T', f_X12_through_b35 Gm (f_X12_through_l35 Gm N) (nI u) A x3 x4 x5 (nI (1500 * d)) (nI k) T = _ ∧ _
    have ixu : ∀ {α : Type} (K : Nat → Option α), ix (nI u) 16 K = K u := fun K => ix_in (j := u) (nI_pos (by omega)) (nI_clamp (by omega)) (by omega)
    have e1 : gA T 150 u = nI s := by rw [h3.a rfl]; exact e150
    unfold f_X12_through_b35
    rw [ixu, e1]
    by_cases y : k = s
    · subst y
      rw [if_pos (nI_le (Nat.le_refl _) (by omega))]
      exact ⟨T, rfl, h3, h4⟩
    · rw [if_neg (nI_ge (by omega) (by omega)), m15, show nI (1500 * u) + nI k = nI (1500 * u + k) from nI_add _ _, ix_in (j := 1500 * u + k) (nI_pos (by omega)) (nI_clamp (by omega)) (by omega), show nI (1500 * d) + nI k = nI (1500 * d + k) from nI_add _ _, ix_in (j := 1500 * d + k) (nI_pos (by omega)) (nI_clamp (by omega)) (by omega), lb_eq, show nI k + 1 = nI (k + 1) from nI_add _ 1]
      refine ih (k + 1) _ (by omega) (by omega) (h3.uA _ _ (by rfl)) (fun j => ?_)
      rw [gA_one, h3.a rfl, byt_id (hb _)]
      by_cases y2 : j = 1500 * d + k
      · subst y2
        rw [if_pos rfl, if_pos (by omega)]; congr 1; omega
      · rw [if_neg y2, h4]
        by_cases y3 : 1500 * d ≤ j ∧ j < 1500 * d + k
        · rw [if_pos y3, if_pos (by omega)]
        · rw [if_neg y3, if_neg (by omega)]
/-- there is much: the class goes into a macro and out of it -/
theorem u_mac {z : Int} (hd : d ≤ 3) (h1 : -1 ≤ z) (h2 : z ≤ 15) (h : MU d ov c m) : wp (f_X9_goMacro Gc (iz z) c) (fun _ c' => MUQ d ov c m c') := by
  unfold f_X9_goMacro
  rw [sp_hasZ (by omega) (by omega), bd_eq]
  cases y : (decide (0 ≤ z ∧ z < 16) && !decide (gA c (41 + 1) z.toNat = 0))
  · rw [if_pos (show cI false = 0 from rfl)]
    exact wp_ret ⟨h, Fr.refl⟩
  rw [if_neg (show ¬ cI true = 0 by decide), h.wc.d1]
  by_cases y3 : d < 3
  case neg =>
    rw [if_neg (show ¬ nI d < 3 from nI_nlt (b := 3) (by omega) (by omega))]
    exact wp_ret ⟨h, Fr.refl⟩
  have y0 : 0 ≤ z ∧ z < 16 := of_decide_eq_true (Bool.and_eq_true_iff.mp y).1
  obtain ⟨u, rfl⟩ : ∃ u : Nat, z = (u : Int) := ⟨z.toNat, by omega⟩
  rw [if_pos (show nI d < 3 from nI_lt (b := 3) y3 (by omega)), rf_eq h.wc.rd (rd_k hd), lb_eq, show nI d + 1 = nI (d + 1) from nI_add _ 1, ← nI_iz, ix_in (j := u) (nI_pos (by omega)) (nI_clamp (by omega)) (by omega)]
  obtain ⟨c1, hc1⟩ : ∃ c1, c1 = uI c 914 23 (nI (d + 1)) := ⟨_, rfl⟩
  rw [← hc1]
  have f1 : Fr dpF noA c c1 := by rw [hc1]; exact Fr.refl.uI _ (by rfl)
  have e914 : gI c1 914 23 = nI (d + 1) := by rw [hc1, gI_uI, if_pos ⟨rfl, rfl⟩]
  unfold f_X9_goThrough
  rw [e914, if_neg (nI_pos (by omega)), if_neg (show ¬ (4 : Int32) ≤ nI (d + 1) from nI_ge (b := 4) (by omega) (by omega)), ix_in (j := d + 1) (nI_pos (by omega)) (nI_clamp (by omega)) (by omega), ix_in (j := d + 1) (nI_pos (by omega)) (nI_clamp (by omega)) (by omega)]
  obtain ⟨c2, x1, x2, _⟩ := c_opn (T := c1) (i := 125 + (d + 1)) (A := 43) (x := nI u * 1500) (y := nI u * 1500 + gA c1 44 u)
  rw [x1, bd_eq, lb_eq]
  obtain ⟨c3, hc3⟩ : ∃ c3, c3 = uR c2 913 23 (some (125 + (d + 1))) := ⟨_, rfl⟩
  rw [← hc3]
  have f2 : Fr dpF noA c1 c2 := x2.weak (fun f i z => by unfold dpF at z; revert z; simp; omega) (fun _ z => z)
  have f3 : Fr dpF noA c2 c3 := by rw [hc3]; exact Fr.refl.uR _ (by rfl)
  have e3 : gI c3 914 23 = nI (d + 1) := by
    rw [hc3]; show gI c2 914 23 = _
    rw [x2.i (by simp; omega)]; exact e914
  have mu3 : MU (d + 1) ov c3 m := h.deep ((f1.trans f2).trans f3) Fr.refl (by omega) e3 (by rw [hc3, gR_uR, if_pos ⟨rfl, rfl⟩])
  rw [show f_X9_goThrough_l60 Gc FU (125 + (d + 1)) 0 c3 = some ((), c3) from mu3.gEnd (N := 3999999999), bd_eq, lb_eq, lb_eq]
  obtain ⟨c4, hc4⟩ : ∃ c4, c4 = uR (uI c3 914 23 (gI c3 914 23 - 1)) 913 23 (some (125 + d)) := ⟨_, rfl⟩
  rw [← hc4]
  have f4 : Fr dpF noA c3 c4 := by rw [hc4]; exact (Fr.refl.uI _ (by rfl)).uR _ (by rfl)
  have e4 : gI c4 914 23 = nI d := by
    rw [hc4]
    show gI (uI c3 914 23 (gI c3 914 23 - 1)) 914 23 = _
    rw [gI_uI, if_pos ⟨rfl, rfl⟩, e3, show (1 : Int32) = nI 1 from rfl, pk_sub (by omega)]; congr 1
  have r4 : gR c4 913 23 = some (125 + d) := by rw [hc4, gR_uR, if_pos ⟨rfl, rfl⟩]
  refine wp_ret ⟨mu3.deep f4 Fr.refl hd e4 r4, ?_⟩
  have ff : Fr dpF noA c c4 := ((f1.trans f2).trans f3).trans f4
  have fo : Fr (fun f i => (i == 125 + (d + 1)) || (i == 23 && (f == 913 || f == 914))) noA c c4 := by
    have a1 : Fr (fun f i => (i == 125 + (d + 1)) || (i == 23 && (f == 913 || f == 914))) noA c c1 := by rw [hc1]; exact Fr.refl.uI _ (by simp)
    have a2 : Fr (fun f i => (i == 125 + (d + 1)) || (i == 23 && (f == 913 || f == 914))) noA c1 c2 := x2.weak (fun f i z => (Bool.or_eq_false_iff.mp z).1) (fun _ z => z)
    have a3 : Fr (fun f i => (i == 125 + (d + 1)) || (i == 23 && (f == 913 || f == 914))) noA c2 c3 := by rw [hc3]; exact Fr.refl.uR _ (by simp)
    have a4 : Fr (fun f i => (i == 125 + (d + 1)) || (i == 23 && (f == 913 || f == 914))) noA c3 c4 := by rw [hc4]; exact (Fr.refl.uI _ (by simp)).uR _ (by simp)
    exact ((a1.trans a2).trans a3).trans a4
  refine (Fr.fixP (P := fun f i => i == 23 && (f == 913 || f == 914)) fo (fun f i z => ?_)).weak (fun f i z => ?_) (fun _ _ => rfl)
  · have : i = 23 ∧ (f = 913 ∨ f = 914) := by simpa using z
    obtain ⟨rfl, rfl | rfl⟩ := this
    · refine ⟨?_, ?_, by rw [r4, h.wc.rd]⟩
      · rw [hc4]; show gI (uI c3 914 23 (gI c3 914 23 - 1)) 913 23 = _
        rw [gI_uI, if_neg (by omega), hc3]; show gI c2 913 23 = _
        rw [x2.i (by simp; omega), hc1, gI_uI, if_neg (by omega)]
      · rw [hc4]; show gJ c3 913 23 = _
        rw [hc3]; show gJ c2 913 23 = _
        rw [x2.j (by simp; omega), hc1]; rfl
    · refine ⟨by rw [e4, h.wc.d1], ?_, ?_⟩
      · rw [hc4]; show gJ c3 914 23 = _
        rw [hc3]; show gJ c2 914 23 = _
        rw [x2.j (by simp; omega), hc1]; rfl
      · rw [hc4, gR_uR, if_neg (by omega)]; show gR c3 914 23 = _
        rw [hc3, gR_uR, if_neg (by omega), x2.r (by simp; omega), hc1]; rfl
  · cases y : (i == 125 + (d + 1))
    · rfl
    · have : i = 125 + (d + 1) := by simpa using y
      subst this
      unfold skF at z; revert z; simp; omega
end J2
