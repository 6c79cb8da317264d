/-! feed, fault, outs, out, pages on both sides. -/
def TJ (c m : Mm) (n : Nat) : Prop := gI c 1101 0 = nI n ∧ gI m 1224 133 = nI n ∧ n ≤ 8000 ∧ ∀ j, j < n → gA c 1 j = gA m 155 j
def cFeF (f i : Nat) : Bool := i == 0 && f == 1101
def mFeF (f i : Nat) : Bool := i == 133 && f == 1224
theorem P2_layB {c m : Mm} {n : Nat} (x : Int32) (h : TJ c m n) (hn : n + 4 ≤ 8000) : P2 (f_X11_feedNumber x c) (f_X12_lay x m) (fun _ c' _ m' => TJ c' m' (n + 4) ∧ Fr cFeF (fun b => b == 1) c c' ∧ Fr mFeF (fun b => b == 155) m m') := by
  have step : ∀ k n c' m' s, TJ c' m' n → n < 8000 → ¬ s < 0 → ∃ c2 m2, f_X11_feedNumber_l3 (k + 1) x s c' = f_X11_feedNumber_l3 k x (s + (-8)) c2 ∧ f_X12_lay_l3 (k + 1) x s m' = f_X12_lay_l3 k x (s + (-8)) m2 ∧ TJ c2 m2 (n + 1) ∧ Fr cFeF (fun b => b == 1) c' c2 ∧ Fr mFeF (fun b => b == 155) m' m2 := by
    intro k n c' m' s h hn hs
    obtain ⟨h1, h2, h3, h4⟩ := h
    refine ⟨uI (uA c' 1 n (((x >>> (s &&& 31)).toInt8.toInt32).toInt8.toInt32)) 1101 0 (nI (n + 1)), uI (uA m' 155 n (((x >>> (s &&& 31)).toInt8.toInt32).toInt8.toInt32)) 1224 133 (nI (n + 1)), ?_, ?_, ⟨by rw [gI_uI, if_pos ⟨rfl, rfl⟩], by rw [gI_uI, if_pos ⟨rfl, rfl⟩], by omega, fun j hj => ?_⟩, (Fr.refl.uA _ _ (by rfl)).uI _ (by rfl), (Fr.refl.uA _ _ (by rfl)).uI _ (by rfl)⟩
    · show f_X11_feedNumber_b3 (f_X11_feedNumber_l3 k) _ _ _ = _
      unfold f_X11_feedNumber_b3
      rw [if_neg hs, h1, if_neg (nI_pos (by omega)), if_neg (show ¬ (8000 : Int32) ≤ nI n from nI_ge (b := 8000) hn (by omega)), ix_in (j := n) (nI_pos (by omega)) (nI_clamp (by omega)) (by omega), lb_eq, show gI (uA c' 1 n (((x >>> (s &&& 31)).toInt8.toInt32).toInt8.toInt32)) 1101 0 = nI n from h1, nI_1, lb_eq]
    · show f_X12_lay_b3 (f_X12_lay_l3 k) _ _ _ = _
      unfold f_X12_lay_b3
      rw [if_neg hs, h2, ix_in (j := n) (nI_pos (by omega)) (nI_clamp (by omega)) (by omega), lb_eq, show gI (uA m' 155 n (((x >>> (s &&& 31)).toInt8.toInt32).toInt8.toInt32)) 1224 133 = nI n from h2, nI_1, lb_eq]
    · show gA (uA c' 1 n _) 1 j = gA (uA m' 155 n _) 155 j
      rw [gA_uA, gA_uA]
      by_cases z : j = n
      · rw [if_pos ⟨rfl, z⟩, if_pos ⟨rfl, z⟩]
      · rw [if_neg (fun y => z y.2), if_neg (fun y => z y.2)]; exact h4 j (by omega)
  unfold f_X11_feedNumber f_X12_lay
  rw [show FU = 3999999995 + 1 + 1 + 1 + 1 + 1 from rfl]
  obtain ⟨c1, m1, e1, d1, t1, f1, g1⟩ := step (3999999995 + 1 + 1 + 1 + 1) n c m 24 h (by omega) (by decide)
  obtain ⟨c2, m2, e2, d2, t2, f2, g2⟩ := step (3999999995 + 1 + 1 + 1) (n + 1) c1 m1 (24 + (-8)) t1 (by omega) (by decide)
  obtain ⟨c3, m3, e3, d3, t3, f3, g3⟩ := step (3999999995 + 1 + 1) (n + 1 + 1) c2 m2 (24 + (-8) + (-8)) t2 (by omega) (by decide)
  obtain ⟨c4, m4, e4, d4, t4, f4, g4⟩ := step (3999999995 + 1) (n + 1 + 1 + 1) c3 m3 (24 + (-8) + (-8) + (-8)) t3 (by omega) (by decide)
  rw [e1, e2, e3, e4, d1, d2, d3, d4]
  refine ⟨(), c4, (), m4, ?_, ?_, t4, ((f1.trans f2).trans f3).trans f4, ((g1.trans g2).trans g3).trans g4⟩
  · show f_X11_feedNumber_b3 (f_X11_feedNumber_l3 3999999995) _ _ _ = _
    unfold f_X11_feedNumber_b3
    rw [if_pos (by decide)]
  · show f_X12_lay_b3 (f_X12_lay_l3 3999999995) _ _ _ = _
    unfold f_X12_lay_b3
    rw [if_pos (by decide)]
theorem P2_feed {c m : Mm} {n : Nat} (p1 p2 p3 p4 p5 : Int32) (h : TJ c m n) : P2 (f_X11_feed p1 p2 p3 p4 p5 c) (f_X12_feed p1 p2 p3 p4 p5 m) (fun r c' s m' => r = s ∧ (∃ n', TJ c' m' n') ∧ Fr cFeF (fun b => b == 1) c c' ∧ Fr mFeF (fun b => b == 155) m m') := by
  have h3 := h.2.2.1
  unfold f_X11_feed f_X12_feed
  rw [h.1, h.2.1, show nI n + 20 = nI (n + 20) from nI_add n 20]
  by_cases z : n + 20 ≤ 8000
  · rw [if_pos (show nI (n + 20) ≤ 8000 from nI_le (b := 8000) z (by omega)), if_pos (show nI (n + 20) ≤ 8000 from nI_le (b := 8000) z (by omega))]
    refine P2_bd (P2_layB p1 h (by omega)) ?_
    rintro _ c1 _ m1 ⟨t1, f1, g1⟩
    refine P2_bd (P2_layB p2 t1 (by omega)) ?_
    rintro _ c2 _ m2 ⟨t2, f2, g2⟩
    refine P2_bd (P2_layB p3 t2 (by omega)) ?_
    rintro _ c3 _ m3 ⟨t3, f3, g3⟩
    refine P2_bd (P2_layB p4 t3 (by omega)) ?_
    rintro _ c4 _ m4 ⟨t4, f4, g4⟩
    refine P2_bd (P2_layB p5 t4 (by omega)) ?_
    rintro _ c5 _ m5 ⟨t5, f5, g5⟩
    exact P2_ret ⟨by rw [t5.1, t5.2.1], ⟨_, t5⟩, (((f1.trans f2).trans f3).trans f4).trans f5, (((g1.trans g2).trans g3).trans g4).trans g5⟩
  · rw [if_neg (show ¬ nI (n + 20) ≤ 8000 from nI_ge (a := 8000) (b := n + 20) (by omega) (by omega)), if_neg (show ¬ nI (n + 20) ≤ 8000 from nI_ge (a := 8000) (b := n + 20) (by omega) (by omega))]
    exact P2_ret ⟨rfl, ⟨n, h⟩, Fr.refl, Fr.refl⟩
