/-! The sheet: measures and places on both sides. -/
def clp (z : Int) (n : Nat) : Int := if z < 0 then 0 else if (n : Int) < z then n else z
theorem clp_lo (z : Int) (n : Nat) : 0 ≤ clp z n := by unfold clp; split <;> (try split) <;> omega
theorem clp_hi (z : Int) (n : Nat) : clp z n ≤ n := by unfold clp; split <;> (try split) <;> omega
theorem clp_id {z : Int} {n : Nat} (h : 0 ≤ z) (h2 : z ≤ n) : clp z n = z := by unfold clp; rw [if_neg (by omega), if_neg (by omega)]
theorem lgW_le (g : Nat → Int32) : lgW g ≤ 800 ∧ 200 ≤ lgW g := by unfold lgW pgW pgH; split <;> split <;> (try split) <;> (try split) <;> omega
theorem lgH_le (g : Nat → Int32) : lgH g ≤ 800 ∧ 200 ≤ lgH g := by unfold lgH pgW pgH; split <;> split <;> (try split) <;> (try split) <;> omega
theorem nI_j {n : Nat} (h : n < 2147483648) : (nI n).toInt64 = jz n := by rw [nI_iz, iz_long (by omega) (by omega)]
theorem iz_j {z : Int} (h1 : -2147483648 ≤ z) (h2 : z < 2147483648) : (iz z).toInt64 = jz z := iz_long h1 h2
theorem form_tab : ∀ f, f < 4 → (st_FORMAT_WIDE.getD f 0 = nI (pgW (nI f)) ∧ st_FORMAT_HIGH.getD f 0 = nI (pgH (nI f))) := by decide +kernel
section A2
variable {c c' m m' : Mm} {g : Nat → Int32} {s : Nat}
/-- the sheet's format and orientation -/
def SF (c : Mm) (s : Nat) (g : Nat → Int32) : Prop := gI c 700 s = g 0 ∧ gI c 701 s = g 1 ∧ (∃ f, g 0 = nI f ∧ f ≤ 3) ∧ ∃ o, g 1 = nI o ∧ o ≤ 1
theorem EVq.sf {E : Nat} (h : EVq c E g) (b : EB g) : SF c (E + 1) g := ⟨h.i (700, 1, 0) (by decide), h.i (701, 1, 1) (by decide), b.k0, b.k1⟩
theorem c_dac (h : SF c s g) : f_X7_dotsAcross s c = some (nI (lgW g), c) := by
  obtain ⟨h1, h2, ⟨f, hf, hf3⟩, o, ho, ho1⟩ := h
  have t := form_tab f (by omega)
  have e3 : nI f &&& 3 = nI (f % 4) := pk_andN (n := f) (by omega) 2 (by decide)
  unfold f_X7_dotsAcross lgW
  rw [h1, h2, hf, e3, Nat.mod_eq_of_lt (by omega), ix_in (j := f) (nI_pos (by omega)) (nI_clamp (by omega)) (by omega), ix_in (j := f) (nI_pos (by omega)) (nI_clamp (by omega)) (by omega), t.1, t.2]
  split <;> rfl
theorem c_dd (h : SF c s g) : f_X7_dotsDown s c = some (nI (lgH g), c) := by
  obtain ⟨h1, h2, ⟨f, hf, hf3⟩, o, ho, ho1⟩ := h
  have t := form_tab f (by omega)
  have e3 : nI f &&& 3 = nI (f % 4) := pk_andN (n := f) (by omega) 2 (by decide)
  unfold f_X7_dotsDown lgH
  rw [h1, h2, hf, e3, Nat.mod_eq_of_lt (by omega), ix_in (j := f) (nI_pos (by omega)) (nI_clamp (by omega)) (by omega), ix_in (j := f) (nI_pos (by omega)) (nI_clamp (by omega)) (by omega), t.1, t.2]
  split <;> rfl
theorem c_pw (h : SF c s g) : f_X7_pageWide s c = some (nI (pgW (g 0)), c) := by
  obtain ⟨h1, h2, ⟨f, hf, hf3⟩, o, ho, ho1⟩ := h
  have t := form_tab f (by omega)
  have e3 : nI f &&& 3 = nI (f % 4) := pk_andN (n := f) (by omega) 2 (by decide)
  unfold f_X7_pageWide
  rw [h1, hf, e3, Nat.mod_eq_of_lt (by omega), ix_in (j := f) (nI_pos (by omega)) (nI_clamp (by omega)) (by omega), t.1]
theorem c_ph (h : SF c s g) : f_X7_pageHigh s c = some (nI (pgH (g 0)), c) := by
  obtain ⟨h1, h2, ⟨f, hf, hf3⟩, o, ho, ho1⟩ := h
  have t := form_tab f (by omega)
  have e3 : nI f &&& 3 = nI (f % 4) := pk_andN (n := f) (by omega) 2 (by decide)
  unfold f_X7_pageHigh
  rw [h1, hf, e3, Nat.mod_eq_of_lt (by omega), ix_in (j := f) (nI_pos (by omega)) (nI_clamp (by omega)) (by omega), t.2]
theorem c_across (h : SF c s g) : f_X7_across s c = some (nI (96 * lgW g), c) := by
  unfold f_X7_across
  rw [c_dac h, bd_eq, show (96 : Int32) * nI (lgW g) = nI (96 * lgW g) from pk_mul 96 _]
theorem c_down (h : SF c s g) : f_X7_down s c = some (nI (96 * lgH g), c) := by
  unfold f_X7_down
  rw [c_dd h, bd_eq, show (96 : Int32) * nI (lgH g) = nI (96 * lgH g) from pk_mul 96 _]
theorem m_pw (f : Int32) : f_X12_pageWide f m = some (nI (pgW f), m) := by
  unfold f_X12_pageWide pgW; split <;> (try split) <;> (try split) <;> rfl
theorem m_ph (f : Int32) : f_X12_pageHigh f m = some (nI (pgH f), m) := by
  unfold f_X12_pageHigh pgH; split <;> (try split) <;> (try split) <;> rfl
theorem m_wide : f_X12_wide m = some (nI (lgW (gA m 134)), m) := by
  unfold f_X12_wide lgW; rw [m_pw, m_ph]; split <;> rfl
theorem m_high : f_X12_high m = some (nI (lgH (gA m 134)), m) := by
  unfold f_X12_high lgH; rw [m_pw, m_ph]; split <;> rfl
theorem clpJ {z : Int} {n : Nat} (h1 : -4611686018427387904 ≤ z) (h2 : z < 4611686018427387904) (hn : n < 2147483648) : (if (0 : Int64) < (if jz (n : Int) < jz z then jz (n : Int) else jz z) then (if jz (n : Int) < jz z then jz (n : Int) else jz z) else 0).toInt32 = iz (clp z n) := by
  have e : (if jz (n : Int) < jz z then jz (n : Int) else jz z) = jz (if (n : Int) < z then (n : Int) else z) := by
    by_cases q : (n : Int) < z
    · rw [if_pos q, if_pos ((jz_lt (by omega) (by omega) (by omega) (by omega)).mpr q)]
    · rw [if_neg q, if_neg (fun y => q ((jz_lt (by omega) (by omega) (by omega) (by omega)).mp y))]
  rw [e, show (0 : Int64) = jz 0 from rfl]
  unfold clp
  by_cases q : (n : Int) < z
  · rw [if_pos q]
    by_cases p : (0 : Int) < n
    · rw [if_pos ((jz_lt (by omega) (by omega) (by omega) (by omega)).mpr p), if_neg (show ¬ z < 0 by omega), jz_int32]
    · rw [if_neg (fun y => p ((jz_lt (by omega) (by omega) (by omega) (by omega)).mp y)), if_neg (show ¬ z < 0 by omega), jz_int32]
      congr 1; omega
  · rw [if_neg q]
    by_cases p : (0 : Int) < z
    · rw [if_pos ((jz_lt (by omega) (by omega) (by omega) (by omega)).mpr p), if_neg (show ¬ z < 0 by omega), jz_int32]
    · rw [if_neg (fun y => p ((jz_lt (by omega) (by omega) (by omega) (by omega)).mp y)), jz_int32]
      by_cases r : z < 0
      · rw [if_pos r]
      · rw [if_neg r]
        congr 1; omega
theorem c_moveX {z : Int} (h : SF c s g) (h1 : -4611686018427387904 ≤ z) (h2 : z < 4611686018427387904) : f_X7_moveX s (jz z) c = some ((), uI c 706 s (iz (clp z (96 * lgW g)))) := by
  have hw := lgW_le g
  unfold f_X7_moveX
  rw [c_dac h, bd_eq, show (96 : Int32) * nI (lgW g) = nI (96 * lgW g) from pk_mul 96 _, nI_j (by omega), f_minl, bd_eq, f_maxl, bd_eq, lb_eq, clpJ h1 h2 (by omega)]
theorem c_moveY {z : Int} (h : SF c s g) (h1 : -4611686018427387904 ≤ z) (h2 : z < 4611686018427387904) : f_X7_moveY s (jz z) c = some ((), uI c 707 s (iz (clp z (96 * lgH g)))) := by
  have hw := lgH_le g
  unfold f_X7_moveY
  rw [c_dd h, bd_eq, show (96 : Int32) * nI (lgH g) = nI (96 * lgH g) from pk_mul 96 _, nI_j (by omega), f_minl, bd_eq, f_maxl, bd_eq, lb_eq, clpJ h1 h2 (by omega)]
theorem clpM {z : Int} {n k : Nat} (h1 : -4611686018427387904 ≤ z) (h2 : z < 4611686018427387904) (hn : n < 2147483648) : (if 0 ≤ lg_cmp (jz z) 0 then (if lg_cmp (jz z) (jz n) ≤ 0 then some ((), uA m 134 k ((jz z).toInt32)) else some ((), uA m 134 k ((jz n).toInt32))) else some ((), uA m 134 k 0)) = some ((), uA m 134 k (iz (clp z n))) := by
  unfold clp
  by_cases r : z < 0
  · rw [if_neg (fun y => by rw [c_ge, show (0 : Int64) = jz 0 from rfl, jz_le (by omega) (by omega) (by omega) (by omega)] at y; omega), if_pos r]; rfl
  · rw [if_pos (by rw [c_ge, show (0 : Int64) = jz 0 from rfl, jz_le (by omega) (by omega) (by omega) (by omega)]; omega), if_neg r]
    by_cases q : (n : Int) < z
    · rw [if_neg (fun y => by rw [c_le, jz_le (by omega) (by omega) (by omega) (by omega)] at y; omega), if_pos q, jz_int32]
    · rw [if_pos (by rw [c_le, jz_le (by omega) (by omega) (by omega) (by omega)]; omega), if_neg q, jz_int32]
theorem m_setX {z : Int} (h1 : -4611686018427387904 ≤ z) (h2 : z < 4611686018427387904) : f_X12_setX (jz z) m = some ((), uA m 134 189 (iz (clp z (96 * lgW (gA m 134))))) := by
  have hw := lgW_le (gA m 134)
  unfold f_X12_setX
  rw [m_wide, bd_eq, nI_j (by omega), show (96 : Int64) = jz 96 from rfl, jz_mul, lb_eq, show (96 : Int) * (lgW (gA m 134) : Int) = ((96 * lgW (gA m 134) : Nat) : Int) by omega]
  exact clpM h1 h2 (by omega)
theorem m_setY {z : Int} (h1 : -4611686018427387904 ≤ z) (h2 : z < 4611686018427387904) : f_X12_setY (jz z) m = some ((), uA m 134 190 (iz (clp z (96 * lgH (gA m 134))))) := by
  have hw := lgH_le (gA m 134)
  unfold f_X12_setY
  rw [m_high, bd_eq, nI_j (by omega), show (96 : Int64) = jz 96 from rfl, jz_mul, lb_eq, show (96 : Int) * (lgH (gA m 134) : Int) = ((96 * lgH (gA m 134) : Nat) : Int) by omega]
  exact clpM h1 h2 (by omega)
/-- one step of both environments -/
def EP (c m c' m' : Mm) : Prop := (EVq c' 45 (gA m' 134)) ∧ (EB (gA m' 134)) ∧ (Fr eF eA c c') ∧ (Fr nF meA m m') ∧ (gA m' 134 0 = gA m 134 0) ∧ (gA m' 134 1 = gA m 134 1)
theorem EP.v {c m c' m' : Mm} (h : EP c m c' m') : EVq c' 45 (gA m' 134) := h.1
theorem EP.b {c m c' m' : Mm} (h : EP c m c' m') : EB (gA m' 134) := h.2.1
theorem EP.fc {c m c' m' : Mm} (h : EP c m c' m') : Fr eF eA c c' := h.2.2.1
theorem EP.fm {c m c' m' : Mm} (h : EP c m c' m') : Fr nF meA m m' := h.2.2.2.1
theorem EP.e0 {c m c' m' : Mm} (h : EP c m c' m') : gA m' 134 0 = gA m 134 0 := h.2.2.2.2.1
theorem EP.e1 {c m c' m' : Mm} (h : EP c m c' m') : gA m' 134 1 = gA m 134 1 := h.2.2.2.2.2
theorem EP_mk {c m c' m' : Mm} (v : EVq c' 45 (gA m' 134)) (b : EB (gA m' 134)) (fc : Fr eF eA c c') (fm : Fr nF meA m m') (e0 : gA m' 134 0 = gA m 134 0) (e1 : gA m' 134 1 = gA m 134 1) : EP c m c' m' := ⟨v, b, fc, fm, e0, e1⟩
theorem EP.refl (h : EVq c 45 (gA m 134)) (b : EB (gA m 134)) : EP c m c m := EP_mk h b Fr.refl Fr.refl rfl rfl
theorem EP.trans {c2 m2 : Mm} (h : EP c m c' m') (h2 : EP c' m' c2 m2) : EP c m c2 m2 := EP_mk h2.v h2.b (h.fc.trans h2.fc) (h.fm.trans h2.fm) (h2.e0.trans h.e0) (h2.e1.trans h.e1)
theorem EP.one (h : EVq c 45 (gA m 134)) (b : EB (gA m 134)) {f o k : Nat} (hm : (f, o, k) ∈ plnT) (ho : o ≤ 8) (hk : k ≠ 55 ∧ k ≠ 56 ∧ k ≠ 57 ∧ k ≠ 59 ∧ k ≠ 0 ∧ k ≠ 1 ∧ k ≠ 189) (v : Int32) (h1 : lo k ≤ v.toInt) (h2 : v.toInt ≤ hi k) : EP c m (uI c f (45 + o) v) (uA m 134 k v) := by
  refine EP_mk ?_ ?_ (Fr.refl.uI _ (by unfold eF; simp; omega)) (Fr.refl.uA _ _ rfl) ?_ ?_
  · rw [gA_wr]; exact h.setI hm v
  · rw [gA_wr]; exact b.set hk v h1 h2
  · rw [gA_wr, wr_o _ (by omega)]
  · rw [gA_wr, wr_o _ (by omega)]
theorem mx {z : Int} (h : EVq c 45 (gA m 134)) (b : EB (gA m 134)) (h1 : -4611686018427387904 ≤ z) (h2 : z < 4611686018427387904) : ∃ c1 m1, f_X7_moveX 46 (jz z) c = some ((), c1) ∧ f_X12_setX (jz z) m = some ((), m1) ∧ EP c m c1 m1 ∧ gA m1 134 = wr (gA m 134) 189 (iz (clp z (96 * lgW (gA m 134)))) := by
  have hw := lgW_le (gA m 134)
  have l1 := clp_lo z (96 * lgW (gA m 134))
  have l2 := clp_hi z (96 * lgW (gA m 134))
  have ei := iz_int (a := clp z (96 * lgW (gA m 134))) (by omega) (by omega)
  refine ⟨_, _, c_moveX (h.sf b) h1 h2, m_setX h1 h2, EP_mk ?_ ?_ (Fr.refl.uI _ (by rfl)) (Fr.refl.uA _ _ rfl) ?_ ?_, gA_wr _ _ _ _⟩
  · rw [gA_wr]; exact h.setI (f := 706) (o := 1) (by decide) _
  · rw [gA_wr]; exact b.setX _ (by rw [ei]; exact l1) (by rw [ei]; omega)
  · rw [gA_wr, wr_o _ (by decide)]
  · rw [gA_wr, wr_o _ (by decide)]
theorem my {z : Int} (h : EVq c 45 (gA m 134)) (b : EB (gA m 134)) (h1 : -4611686018427387904 ≤ z) (h2 : z < 4611686018427387904) : ∃ c1 m1, f_X7_moveY 46 (jz z) c = some ((), c1) ∧ f_X12_setY (jz z) m = some ((), m1) ∧ EP c m c1 m1 ∧ gA m1 134 = wr (gA m 134) 190 (iz (clp z (96 * lgH (gA m 134)))) := by
  have hw := lgH_le (gA m 134)
  have l1 := clp_lo z (96 * lgH (gA m 134))
  have l2 := clp_hi z (96 * lgH (gA m 134))
  have ei := iz_int (a := clp z (96 * lgH (gA m 134))) (by omega) (by omega)
  exact ⟨_, _, c_moveY (h.sf b) h1 h2, m_setY h1 h2, EP.one h b (f := 707) (o := 1) (by decide) (by decide) (by decide) _ (by rw [ei]; exact l1) (by rw [ei]; show _ ≤ (76800 : Int); omega), gA_wr _ _ _ _⟩
theorem hy_val {t v : Nat} (h1 : t ≤ 76800) (h2 : v ≤ 32000) : ((nI t + (nI v * 3) / 4)).toInt64 = jz ((t + v * 3 / 4 : Nat) : Int) := by
  rw [show (3 : Int32) = nI 3 from rfl, show (4 : Int32) = nI 4 from rfl, pk_mul, pk_div (by omega) (by decide) (by decide), nI_add, nI_j (by omega)]
theorem hy (h : EVq c 45 (gA m 134)) (b : EB (gA m 134)) : ∃ c1 m1, f_X7_homeY 46 c = some ((), c1) ∧ f_X12_homeY m = some ((), m1) ∧ EP c m c1 m1 := by
  obtain ⟨t, t1, t2⟩ := b.k4
  obtain ⟨v, v1, v2⟩ := b.k6
  obtain ⟨c1, m1, e1, e2, e3, _⟩ := my (z := ((t + v * 3 / 4 : Nat) : Int)) h b (by omega) (by omega)
  refine ⟨c1, m1, ?_, ?_, e3⟩
  · unfold f_X7_homeY
    rw [show gI c 704 46 = gA m 134 4 from h.i (704, 1, 4) (by decide), show gI c 708 46 = gA m 134 6 from h.i (708, 1, 6) (by decide), t1, v1, hy_val t2 v2, e1, bd_eq]
  · unfold f_X12_homeY
    rw [t1, v1, hy_val t2 v2, e2, bd_eq]
theorem wr_comm {a b : Nat} (v w : Int32) (hab : a ≠ b) : wr (wr g a v) b w = wr (wr g b w) a v := funext fun j => by
  unfold wr
  by_cases e1 : j = a
  · rw [if_pos e1, if_neg (by omega), if_pos e1]
  · rw [if_neg e1, if_neg e1]
/-- the page's own things anew -/
theorem turned {n o : Nat} (h : EVq c 45 g) (b : EB g) (hn : n ≤ 3) (ho : o ≤ 1) (hm : gA m 134 = wr (wr g 0 (nI n)) 1 (nI o)) : ∃ c1 m1, f_X7_turn 46 (nI n) (nI o) c = some ((), c1) ∧ f_X12_pagesOwn m = some ((), m1) ∧ EVq c1 45 (gA m1 134) ∧ EB (gA m1 134) ∧ Fr eF eA c c1 ∧ Fr nF meA m m1 := by
  have hW := lgW_le (wr (wr g 0 (nI n)) 1 (nI o))
  have hH := lgH_le (wr (wr g 0 (nI n)) 1 (nI o))
  have a0 : wr (wr g 0 (nI n)) 1 (nI o) 0 = nI n := by rw [wr_o _ (by decide), wr_s]
  have a1 : wr (wr g 0 (nI n)) 1 (nI o) 1 = nI o := wr_s _ _
  have gW : ∀ {g9 : Nat → Int32}, g9 0 = nI n → g9 1 = nI o → lgW g9 = lgW (wr (wr g 0 (nI n)) 1 (nI o)) ∧ lgH g9 = lgH (wr (wr g 0 (nI n)) 1 (nI o)) := fun {g9} q0 q1 => ⟨lgW_eq (q0.trans a0.symm) (q1.trans a1.symm), lgH_eq (q0.trans a0.symm) (q1.trans a1.symm)⟩
  have sf : ∀ {c9 : Mm} {g9 : Nat → Int32}, EVq c9 45 g9 → g9 0 = nI n → g9 1 = nI o → SF c9 46 g9 := fun {c9 g9} q q0 q1 => ⟨q.i (700, 1, 0) (by decide), q.i (701, 1, 1) (by decide), ⟨n, q0, hn⟩, o, q1, ho⟩
  generalize hR : lgW (wr (wr g 0 (nI n)) 1 (nI o)) = W at gW hW
  generalize hB : lgH (wr (wr g 0 (nI n)) 1 (nI o)) = H at gW hH
  obtain ⟨g0, hg0⟩ : ∃ g0, g0 = wr (wr g 0 (nI n)) 1 (nI o) := ⟨_, rfl⟩
  obtain ⟨c1, hc1⟩ : ∃ c1, c1 = uI (uI (uI c 700 46 (nI n)) 701 46 (nI o)) 704 46 0 := ⟨_, rfl⟩
  have v1 : EVq c1 45 (wr g0 4 0) := by
    rw [hc1, hg0]
    exact ((h.setI (f := 700) (o := 1) (k := 0) (by decide) (nI n)).setI (f := 701) (o := 1) (k := 1) (by decide) (nI o)).setI (f := 704) (o := 1) (k := 4) (by decide) 0
  have F1 : Fr eF eA c c1 := by rw [hc1]; exact ((Fr.refl.uI _ (by rfl)).uI _ (by rfl)).uI _ (by rfl)
  rw [← hg0] at a0 a1 hm
  have b0 : wr g0 4 0 0 = nI n := by rw [wr_o _ (by decide)]; exact a0
  have b1 : wr g0 4 0 1 = nI o := by rw [wr_o _ (by decide)]; exact a1
  obtain ⟨g1, hg1⟩ : ∃ g1, g1 = wr g0 4 0 := ⟨_, rfl⟩
  rw [← hg1] at v1 b0 b1
  obtain ⟨c2, hc2⟩ : ∃ c2, c2 = uI (uI c1 705 46 (nI (96 * H))) 702 46 0 := ⟨_, rfl⟩
  have v2 : EVq c2 45 (wr (wr g1 5 (nI (96 * H))) 2 0) := by
    rw [hc2]
    exact (v1.setI (f := 705) (o := 1) (k := 5) (by decide) (nI (96 * H))).setI (f := 702) (o := 1) (k := 2) (by decide) 0
  have F2 : Fr eF eA c c2 := by rw [hc2]; exact (F1.uI _ (by rfl)).uI _ (by rfl)
  have d0 : wr (wr g1 5 (nI (96 * H))) 2 0 0 = nI n := by rw [wr_o _ (by decide), wr_o _ (by decide)]; exact b0
  have d1 : wr (wr g1 5 (nI (96 * H))) 2 0 1 = nI o := by rw [wr_o _ (by decide), wr_o _ (by decide)]; exact b1
  obtain ⟨g2, hg2⟩ : ∃ g2, g2 = wr (wr g1 5 (nI (96 * H))) 2 0 := ⟨_, rfl⟩
  rw [← hg2] at v2 d0 d1
  obtain ⟨c3, hc3⟩ : ∃ c3, c3 = uI c2 703 46 (nI (96 * W)) := ⟨_, rfl⟩
  have v3 : EVq c3 45 (wr g2 3 (nI (96 * W))) := by rw [hc3]; exact v2.setI (f := 703) (o := 1) (k := 3) (by decide) (nI (96 * W))
  have F3 : Fr eF eA c c3 := by rw [hc3]; exact F2.uI _ (by rfl)
  have x0 : wr g2 3 (nI (96 * W)) 0 = nI n := by rw [wr_o _ (by decide)]; exact d0
  have x1 : wr g2 3 (nI (96 * W)) 1 = nI o := by rw [wr_o _ (by decide)]; exact d1
  have x2 : wr g2 3 (nI (96 * W)) 2 = 0 := by rw [wr_o _ (by decide), hg2, wr_s]
  obtain ⟨g3, hg3⟩ : ∃ g3, g3 = wr g2 3 (nI (96 * W)) := ⟨_, rfl⟩
  rw [← hg3] at v3 x0 x1 x2
  obtain ⟨c4, hc4⟩ : ∃ c4, c4 = uI c3 706 46 (iz 0) := ⟨_, rfl⟩
  have v4 : EVq c4 45 (wr g3 189 (iz 0)) := by rw [hc4]; exact v3.setI (f := 706) (o := 1) (k := 189) (by decide) (iz 0)
  have F4 : Fr eF eA c c4 := by rw [hc4]; exact F3.uI _ (by rfl)
  -- the reference
  obtain ⟨m4, hm4⟩ : ∃ m4, m4 = uA (uA (uA (uA (uA m 134 2 0) 134 3 (nI (96 * W))) 134 4 0) 134 5 (nI (96 * H))) 134 189 (iz 0) := ⟨_, rfl⟩
  have G4 : Fr nF meA m m4 := by rw [hm4]; exact (((((Fr.refl.uA _ _ (by rfl)).uA _ _ (by rfl)).uA _ _ (by rfl)).uA _ _ (by rfl)).uA _ _ (by rfl))
  have q0 : gA m4 134 = wr (wr (wr (wr (wr g0 2 0) 3 (nI (96 * W))) 4 0) 5 (nI (96 * H))) 189 (iz 0) := by
    rw [hm4, gA_wr, gA_wr, gA_wr, gA_wr, gA_wr, hm]
  have q1 : wr g3 189 (iz 0) = gA m4 134 := by
    rw [q0, hg3, hg2, hg1]
    congr 1
    rw [wr_comm (a := 5) (b := 2) _ _ (by decide), wr_comm (a := 4) (b := 2) _ _ (by decide), wr_comm (a := 5) (b := 3) _ _ (by decide), wr_comm (a := 4) (b := 3) _ _ (by decide)]
  have bb : EB (gA m4 134) := by
    rw [q0]
    have e9 := nI_toInt (n := 96 * W) (by omega)
    have e8 := nI_toInt (n := 96 * H) (by omega)
    have e7 := nI_toInt (n := n) (by omega)
    have e6 := nI_toInt (n := o) (by omega)
    refine EB_mk (fun k hk => ?_) ?_ ?_ ?_
    · rw [hg0]
      unfold wr
      by_cases k1 : k = 189
      · rw [if_pos k1, k1]; decide
      by_cases k2 : k = 5
      · rw [if_neg k1, if_pos k2, k2, e8]; exact ⟨by show (0 : Int) ≤ _; omega, by show _ ≤ (76800 : Int); omega⟩
      by_cases k3 : k = 4
      · rw [if_neg k1, if_neg k2, if_pos k3, k3]; decide
      by_cases k4 : k = 3
      · rw [if_neg k1, if_neg k2, if_neg k3, if_pos k4, k4, e9]; exact ⟨by show (0 : Int) ≤ _; omega, by show _ ≤ (76800 : Int); omega⟩
      by_cases k5 : k = 2
      · rw [if_neg k1, if_neg k2, if_neg k3, if_neg k4, if_pos k5, k5]; decide
      by_cases k6 : k = 1
      · rw [if_neg k1, if_neg k2, if_neg k3, if_neg k4, if_neg k5, if_pos k6, k6, e6]; exact ⟨by show (0 : Int) ≤ _; omega, by show _ ≤ (1 : Int); omega⟩
      by_cases k7 : k = 0
      · rw [if_neg k1, if_neg k2, if_neg k3, if_neg k4, if_neg k5, if_neg k6, if_pos k7, k7, e7]; exact ⟨by show (0 : Int) ≤ _; omega, by show _ ≤ (3 : Int); omega⟩
      rw [if_neg k1, if_neg k2, if_neg k3, if_neg k4, if_neg k5, if_neg k6, if_neg k7]; exact b.r k hk
    · have z := b.z
      rw [hg0]
      refine ⟨fun y => z.1 (Eq.trans ?_ y), fun y => z.2 (Eq.trans ?_ y)⟩ <;> rfl
    · have z := b.o
      rw [hg0]
      exact z
    · rw [wr_s, show (iz 0).toInt = 0 by decide]; omega
  rw [q1] at v4
  obtain ⟨c5, m5, e1, e2, e3⟩ := hy v4 bb
  refine ⟨c5, m5, ?_, ?_, e3.v, e3.b, F4.trans e3.fc, G4.trans e3.fm⟩
  · have d := c_down (sf v1 b0 b1)
    rw [(gW b0 b1).2] at d
    have a := c_across (sf v2 d0 d1)
    rw [(gW d0 d1).1] at a
    have x := c_moveX (z := 0) (sf v3 x0 x1) (by omega) (by omega)
    rw [clp_id (by omega) (by omega)] at x
    unfold f_X7_turn
    rw [lb_eq, lb_eq, lb_eq, ← hc1, d, bd_eq, lb_eq]
    unfold f_X7_clearMargins
    rw [lb_eq, ← hc2, a, bd_eq, lb_eq, ← hc3, bd_eq, show gI c3 702 46 = 0 from (v3.i (702, 1, 2) (by decide)).trans x2, show ((0 : Int32)).toInt64 = jz 0 from rfl, x, bd_eq, ← hc4, e1, bd_eq]
  · unfold f_X12_pagesOwn
    have r0 : ∀ v, wr (gA m 134) 2 v 0 = nI n := fun v => by rw [wr_o _ (by decide), hm]; exact a0
    have r1 : ∀ v, wr (gA m 134) 2 v 1 = nI o := fun v => by rw [wr_o _ (by decide), hm]; exact a1
    rw [lb_eq, m_wide, bd_eq, gA_wr, (gW (r0 _) (r1 _)).1, show (96 : Int32) * nI W = nI (96 * W) from pk_mul 96 _, lb_eq, lb_eq, m_high, bd_eq, gA_wr, gA_wr, gA_wr, (gW (g9 := wr (wr (wr (gA m 134) 2 0) 3 (nI (96 * W))) 4 0) (by rw [wr_o _ (by decide), wr_o _ (by decide)]; exact r0 _) (by rw [wr_o _ (by decide), wr_o _ (by decide)]; exact r1 _)).2, show (96 : Int32) * nI H = nI (96 * H) from pk_mul 96 _, lb_eq, show (0 : Int64) = jz 0 from rfl, m_setX (by omega) (by omega), clp_id (by omega) (by omega), bd_eq, ← hm4, e2, bd_eq]
end A2
