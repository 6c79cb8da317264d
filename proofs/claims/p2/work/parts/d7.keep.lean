/-! Places kept and called back, margins cleared, on both sides. -/
section D7
variable {c c' c0 c1 c2 m m' m0 m1 m2 T : Mm} {d w b : Nat} {ov ov' ng sg : Bool} {g L : Nat → Int32} {Gc Gm : Gty}
def plF (f i : Nat) : Bool := i == 46 && f == 711
def plA (a : Nat) : Bool := a == 47
theorem env_p : ∀ q, q ∈ envT → q = (711, 1, 146) ∨ (¬ q.1 = 711 ∧ (q.2.2 < 146 ∨ 187 ≤ q.2.2)) := by decide +kernel
/-- the kept places change -/
theorem EP.plc (h : EVq c 45 (gA m 134)) (e : EB (gA m 134)) (fc : Fr plF plA c c') (fm : Fr nF meA m m') (o : ∀ j, (j < 146 ∨ 187 ≤ j) → gA m' 134 j = gA m 134 j) (v : gI c' 711 46 = gA m' 134 146) (p : ∀ j : Nat, j < 40 → (j : Int) < 2 * (gA m' 134 146).toInt → gA c' 47 j = gA m' 134 (147 + j)) (rg : ∀ k, 146 ≤ k → k < 187 → lo k ≤ (gA m' 134 k).toInt ∧ (gA m' 134 k).toInt ≤ hi k) : EP c m c' m' := by
  refine EP_mk (EVq_mk ?_ ?_ ?_ ?_ p ?_ ?_ ?_ ?_) (EB_mk ?_ ?_ ?_ ?_) (fc.weak (fun f i y => ?_) (fun a y => ?_)) fm (o 0 (by omega)) (o 1 (by omega))
  · intro q hq
    rcases env_p q hq with y | ⟨y1, y2⟩
    · rw [y]; exact v
    · rw [o _ y2, ← h.i q hq]
      exact fc.i (by unfold plF; simp [y1])
  · rw [o _ (by omega), ← h.w]; exact fc.i (by unfold plF; simp)
  · rw [o _ (by omega), ← h.h]; exact fc.i (by unfold plF; simp)
  · rw [o _ (by omega), o _ (by omega), o _ (by omega), fc.i (by unfold plF; simp)]; exact h.r
  · intro i hi
    rw [o _ (by omega), fc.a (by unfold plA; simp)]; exact h.b i hi
  · exact (h.t.fr (fc.i (by unfold plF; simp)) (fc.i (by unfold plF; simp)) (fc.i (by unfold plF; simp)) (fc.b (by unfold plA; simp))).congr (fun k hk => o _ (by omega))
  · intro k hk
    rw [fc.a (by unfold plA; simp), h.f k hk]
    have : wpi k ≤ 7 := by unfold wpi; split <;> omega
    exact (o _ (by omega)).symm
  · intro k hk
    rw [fc.a (by unfold plA; simp), h.s k hk]
    have : wpi k ≤ 7 := by unfold wpi; split <;> omega
    exact (o _ (by omega)).symm
  · intro k hk
    by_cases q : k < 146 ∨ 187 ≤ k
    · rw [o _ q]; exact e.r k hk
    · exact rg k (by omega) (by omega)
  · rw [o _ (by omega), o _ (by omega)]; exact e.z
  · rw [o _ (by omega), o _ (by omega), o _ (by omega)]; exact e.o
  · rw [o _ (by omega), lgW_eq (o 0 (by omega)) (o 1 (by omega))]; exact e.x
  · revert y; unfold plF eF; simp; omega
  · revert y; unfold plA eA; simp; omega
theorem two_clear (h : EVq c 45 (gA m 134)) (e : EB (gA m 134)) : ∃ c' m', f_X7_clearMargins 46 c = some ((), c') ∧ (lb (uA m 134 2 (0)) fun T3 => bd (f_X12_wide T3) fun v4 T5 => lb (uA T5 134 3 (((96 : Int32) * v4))) fun T6 => some ((), T6)) = some ((), m') ∧ EP c m c' m' := by
  have hW := lgW_le (gA m 134)
  have e1 := EP.one h e (f := 702) (o := 1) (k := 2) (by decide) (by decide) (by decide) 0 (by decide) (by decide)
  have lw : lgW (gA (uA m 134 2 0) 134) = lgW (gA m 134) := lgW_eq e1.e0 e1.e1
  have ei := iz_int (a := ((96 * lgW (gA m 134) : Nat) : Int)) (by omega) (by omega)
  have e2 := EP.one e1.v e1.b (f := 703) (o := 1) (k := 3) (by decide) (by decide) (by decide) (nI (96 * lgW (gA m 134))) (by rw [nI_iz, ei]; show (0 : Int) ≤ _; omega) (by rw [nI_iz, ei]; show _ ≤ (76800 : Int); omega)
  have a1 : f_X7_across 46 (uI c 702 46 0) = some (nI (96 * lgW (gA m 134)), uI c 702 46 0) := by
    rw [← lw]; exact c_across (e1.v.sf e1.b)
  have b1 : f_X12_wide (uA m 134 2 0) = some (nI (lgW (gA m 134)), uA m 134 2 0) := by
    rw [← lw]; exact m_wide
  unfold f_X7_clearMargins
  rw [lb_eq, a1, bd_eq, lb_eq, lb_eq, b1, bd_eq, lb_eq, show (96 : Int32) * nI (lgW (gA m 134)) = nI (96 * lgW (gA m 134)) from pk_mul 96 _]
  exact ⟨_, _, rfl, rfl, e1.trans e2⟩
theorem kp_r : ∀ k, k < 187 → 147 ≤ k → lo k = 0 ∧ hi k = 76800 := by decide +kernel
theorem two_keep (h : EVq c 45 (gA m 134)) (e : EB (gA m 134)) : ∃ c' m', f_X7_keepPlace 46 c = some ((), c') ∧ (if 20 ≤ (gA m 134 146) then (some ((), m)) else (ix ((147 : Int32) + ((2 : Int32) * (gA m 134 146))) 192 fun j1 => lb (uA m 134 j1 ((gA m 134 189))) fun T3 => ix (((147 : Int32) + ((2 : Int32) * (gA T3 134 146))) + 1) 192 fun j4 => lb (uA T3 134 j4 ((gA T3 134 190))) fun T6 => lb (uA T6 134 146 (((gA T6 134 146) + 1))) fun T7 => some ((), T7))) = some ((), m') ∧ EP c m c' m' := by
  obtain ⟨s, s1, s2⟩ := e.k146
  obtain ⟨x, x1, x2⟩ := e.k189
  obtain ⟨y, y1, y2⟩ := e.k190
  have e711 : gI c 711 46 = nI s := (h.i (711, 1, 146) (by decide)).trans s1
  have e706 : gI c 706 46 = nI x := (h.i (706, 1, 189) (by decide)).trans x1
  have e707 : gI c 707 46 = nI y := (h.i (707, 1, 190) (by decide)).trans y1
  unfold f_X7_keepPlace
  rw [e711, show (2 : Int32) * nI s = nI (2 * s) from pk_mul 2 s, lb_eq, s1, show (2 : Int32) * nI s = nI (2 * s) from pk_mul 2 s]
  by_cases q : s = 20
  · subst q
    rw [if_pos (by decide), if_pos (by decide)]
    exact ⟨c, m, rfl, rfl, EP.refl h e⟩
  · have k147 : (147 : Int32) + nI (2 * s) = nI (147 + 2 * s) := nI_add 147 (2 * s)
    have k2 : nI (2 * s) + 1 = nI (2 * s + 1) := nI_add _ 1
    have k3 : nI (147 + 2 * s) + 1 = nI (148 + 2 * s) := by rw [show (1 : Int32) = nI 1 from rfl, nI_add]; congr 1; omega
    have k4 : nI s + 1 = nI (s + 1) := nI_add _ 1
    have a1 : gA (uA m 134 (147 + 2 * s) (nI x)) 134 146 = nI s := by rw [gA_wr, wr_o _ (by omega), s1]
    have a2 : gA (uA m 134 (147 + 2 * s) (nI x)) 134 190 = nI y := by rw [gA_wr, wr_o _ (by omega), y1]
    have a3 : gA (uA (uA m 134 (147 + 2 * s) (nI x)) 134 (148 + 2 * s) (nI y)) 134 146 = nI s := by rw [gA_wr, wr_o _ (by omega), a1]
    rw [if_neg (show ¬ (20 : Int32) ≤ nI s from (show ¬ nI 20 ≤ nI s from nI_ge (by omega) (by omega))), if_neg (nI_pos (by omega)), k2, if_neg (show ¬ (40 : Int32) ≤ nI (2 * s + 1) from (show ¬ nI 40 ≤ nI (2 * s + 1) from nI_ge (by omega) (by omega))), ix_in (j := 2 * s) (nI_pos (by omega)) (nI_clamp (by omega)) (by omega), lb_eq, ix_in (j := 2 * s + 1) (nI_pos (by omega)) (nI_clamp (by omega)) (by omega), lb_eq, lb_eq, e706, gI_uA, gI_uA, gI_uA, e707, e711, k4, if_neg (show ¬ (20 : Int32) ≤ nI s from (show ¬ nI 20 ≤ nI s from nI_ge (by omega) (by omega))), k147, ix_in (j := 147 + 2 * s) (nI_pos (by omega)) (nI_clamp (by omega)) (by omega), lb_eq, x1, a1, show (2 : Int32) * nI s = nI (2 * s) from pk_mul 2 s, k147, k3, ix_in (j := 148 + 2 * s) (nI_pos (by omega)) (nI_clamp (by omega)) (by omega), lb_eq, lb_eq, a2, a3, k4]
    refine ⟨_, _, rfl, rfl, EP.plc h e (((Fr.refl.uA _ _ (by rfl)).uA _ _ (by rfl)).uI _ (by rfl)) (((Fr.refl.uA _ _ (by rfl)).uA _ _ (by rfl)).uA _ _ (by rfl)) (fun j hj => ?_) ?_ ?_ ?_⟩
    · rw [gA_wr, wr_o _ (by omega), gA_wr, wr_o _ (by omega), gA_wr, wr_o _ (by omega)]
    · rw [gI_uI, if_pos ⟨rfl, rfl⟩, gA_wr, wr_s]
    · intro j hj hj2
      rw [gA_wr, wr_s, nI_iz, iz_int (by omega) (by omega)] at hj2
      have qc : gA (uA (uA c (46 + 1) (2 * s) (nI x)) (46 + 1) (2 * s + 1) (nI y)) 47 j = if j = 2 * s + 1 then nI y else if j = 2 * s then nI x else gA c 47 j := by
        show gA (uA (uA c 47 (2 * s) (nI x)) 47 (2 * s + 1) (nI y)) 47 j = _
        rw [gA_wr, gA_wr]; rfl
      have qm : gA (uA (uA (uA m 134 (147 + 2 * s) (nI x)) 134 (148 + 2 * s) (nI y)) 134 146 (nI (s + 1))) 134 (147 + j) = if 147 + j = 146 then nI (s + 1) else if 147 + j = 148 + 2 * s then nI y else if 147 + j = 147 + 2 * s then nI x else gA m 134 (147 + j) := by
        rw [gA_wr, gA_wr, gA_wr]; rfl
      rw [gA_uI, qc, qm, if_neg (show ¬ 147 + j = 146 by omega)]
      by_cases z : j = 2 * s + 1
      · rw [if_pos z, if_pos (by omega)]
      · rw [if_neg z, if_neg (show ¬ 147 + j = 148 + 2 * s by omega)]
        by_cases z2 : j = 2 * s
        · rw [if_pos z2, if_pos (by omega)]
        · rw [if_neg z2, if_neg (by omega)]
          exact h.p j hj (by rw [s1, nI_iz, iz_int (by omega) (by omega)]; omega)
    · intro k k1 k2
      rw [gA_wr, gA_wr, gA_wr]
      unfold wr
      by_cases z : k = 146
      · rw [if_pos z, z, nI_iz, iz_int (by omega) (by omega)]; exact ⟨show (0 : Int) ≤ _ by omega, show _ ≤ (20 : Int) by omega⟩
      · rw [if_neg z]
        obtain ⟨f1, f2⟩ := kp_r k k2 (by omega)
        by_cases z2 : k = 148 + 2 * s
        · rw [if_pos z2, f1, f2, nI_iz, iz_int (by omega) (by omega)]; omega
        · rw [if_neg z2]
          by_cases z3 : k = 147 + 2 * s
          · rw [if_pos z3, f1, f2, nI_iz, iz_int (by omega) (by omega)]; omega
          · rw [if_neg z3]; exact e.r k (by omega)
end D7
