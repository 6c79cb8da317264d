/-! A kept place called back, on both sides. -/
section D8
variable {c c' c0 c1 c2 m m' m0 m1 m2 T : Mm} {d w b : Nat} {ov ov' ng sg : Bool} {g L : Nat → Int32} {Gc Gm : Gty}
theorem two_recall (h : EVq c 45 (gA m 134)) (e : EB (gA m 134)) : ∃ c' m', f_X7_recallPlace 46 c = some ((), c') ∧ (if (gA m 134 146) ≤ 0 then (some ((), m)) else (lb (uA m 134 146 (((gA m 134 146) - 1))) fun T1 => ix ((147 : Int32) + ((2 : Int32) * (gA T1 134 146))) 192 fun j2 => bd (f_X12_setX (((gA T1 134 j2)).toInt64) T1) fun _ T4 => ix (((147 : Int32) + ((2 : Int32) * (gA T4 134 146))) + 1) 192 fun j5 => bd (f_X12_setY (((gA T4 134 j5)).toInt64) T4) fun _ T7 => some ((), T7))) = some ((), m') ∧ EP c m c' m' := by
  obtain ⟨s, s1, s2⟩ := e.k146
  have e711 : gI c 711 46 = nI s := (h.i (711, 1, 146) (by decide)).trans s1
  unfold f_X7_recallPlace
  rw [e711, s1]
  by_cases q : s = 0
  · subst q
    rw [lb_eq, if_pos (by decide), if_pos (by decide)]
    exact ⟨c, m, rfl, rfl, EP.refl h e⟩
  · obtain ⟨p, rfl⟩ : ∃ p, s = p + 1 := ⟨s - 1, by omega⟩
    have k1 : nI (p + 1) - 1 = nI p := pk_sub (b := 1) (by omega)
    have k2 : (2 : Int32) * nI p = nI (2 * p) := pk_mul 2 p
    have k3 : nI (2 * p) + 1 = nI (2 * p + 1) := nI_add _ 1
    have k4 : (147 : Int32) + nI (2 * p) = nI (147 + 2 * p) := nI_add 147 (2 * p)
    have k5 : nI (147 + 2 * p) + 1 = nI (148 + 2 * p) := by rw [show (1 : Int32) = nI 1 from rfl, nI_add]; congr 1; omega
    obtain ⟨X, X1, X2⟩ := e.kp (k := 2 * p) (by omega)
    obtain ⟨Y, Y1, Y2⟩ := e.kp (k := 2 * p + 1) (by omega)
    have i146 : (gA m 134 146).toInt = ((p + 1 : Nat) : Int) := by rw [s1, nI_iz, iz_int (by omega) (by omega)]
    have cX : gA c 47 (2 * p) = nI X := (h.p (2 * p) (by omega) (by rw [i146]; omega)).trans X1
    have cY : gA c 47 (2 * p + 1) = nI Y := (h.p (2 * p + 1) (by omega) (by rw [i146]; omega)).trans Y1
    have ep : EP c m (uI c 711 46 (nI p)) (uA m 134 146 (nI p)) := by
      refine EP.plc h e (Fr.refl.uI _ (by rfl)) (Fr.refl.uA _ _ (by rfl)) (fun j hj => ?_) ?_ ?_ ?_
      · rw [gA_wr, wr_o _ (by omega)]
      · rw [gI_uI, if_pos ⟨rfl, rfl⟩, gA_wr, wr_s]
      · intro j hj hj2
        rw [gA_wr, wr_s, nI_iz, iz_int (by omega) (by omega)] at hj2
        rw [gA_uI, gA_wr, wr_o _ (by omega)]
        exact h.p j hj (by rw [i146]; omega)
      · intro k k1 k2
        rw [gA_wr]
        by_cases z : k = 146
        · rw [z, wr_s, nI_iz, iz_int (by omega) (by omega)]; exact ⟨show (0 : Int) ≤ _ by omega, show _ ≤ (20 : Int) by omega⟩
        · rw [wr_o _ z]; exact e.r k (by omega)
    obtain ⟨c2, m2, u1, u2, u3, _⟩ := mx (z := (X : Int)) ep.v ep.b (by omega) (by omega)
    have d2 := congrArg Prod.snd (Option.some.inj ((c_moveX (z := (X : Int)) (ep.v.sf ep.b) (by omega) (by omega)).symm.trans u1))
    have d3 := congrArg Prod.snd (Option.some.inj ((m_setX (z := (X : Int)) (m := uA m 134 146 (nI p)) (by omega) (by omega)).symm.trans u2))
    dsimp only at d2 d3
    have a2 : gA c2 (46 + 1) (2 * p + 1) = nI Y := by rw [← d2, gA_uI, gA_uI]; exact cY
    have b2 : gA m2 134 146 = nI p := by rw [← d3, gA_wr, wr_o _ (by decide), gA_wr, wr_s]
    have b3 : gA m2 134 (148 + 2 * p) = nI Y := by
      rw [← d3, gA_wr, wr_o _ (by omega), gA_wr, wr_o _ (by omega), ← Y1]
      congr 1; omega
    obtain ⟨c3, m3, v1, v2, v3, _⟩ := my (z := (Y : Int)) u3.v u3.b (by omega) (by omega)
    have a1 : gA (uI c 711 46 (nI p)) (46 + 1) (2 * p) = nI X := by rw [gA_uI]; exact cX
    have b0 : gA (uA m 134 146 (nI p)) 134 146 = nI p := by rw [gA_wr, wr_s]
    have b1 : gA (uA m 134 146 (nI p)) 134 (147 + 2 * p) = nI X := by rw [gA_wr, wr_o _ (by omega), X1]
    rw [k1, k2, lb_eq, if_neg (nI_pos (by omega)), k3, if_neg (show ¬ (40 : Int32) ≤ nI (2 * p + 1) from (show ¬ nI 40 ≤ nI (2 * p + 1) from nI_ge (by omega) (by omega))), lb_eq, ix_in (j := 2 * p) (nI_pos (by omega)) (nI_clamp (by omega)) (by omega), a1, nI_j (by omega), u1, bd_eq, ix_in (j := 2 * p + 1) (nI_pos (by omega)) (nI_clamp (by omega)) (by omega), a2, nI_j (by omega), v1, bd_eq, if_neg (show ¬ nI (p + 1) ≤ 0 from (show ¬ nI (p + 1) ≤ nI 0 from nI_ge (by omega) (by omega))), lb_eq, b0, k2, k4, ix_in (j := 147 + 2 * p) (nI_pos (by omega)) (nI_clamp (by omega)) (by omega), b1, nI_j (by omega), u2, bd_eq, b2, k2, k4, k5, ix_in (j := 148 + 2 * p) (nI_pos (by omega)) (nI_clamp (by omega)) (by omega), b3, nI_j (by omega), v2, bd_eq]
    exact ⟨c3, m3, rfl, rfl, (ep.trans u3).trans v3⟩
end D8
