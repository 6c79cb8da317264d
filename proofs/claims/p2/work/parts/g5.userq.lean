/-! A pattern is sent whole, on both sides. -/
section G5
variable {c c' c0 c1 c2 c3 m m' m0 m1 m2 m3 T : Mm} {d w b A o M o' n p r q a i s f k u h rb t : Nat} {F : Nat → Nat} {ov ov' ng sg : Bool} {g L : Nat → Int32} {Gc Gm : Gty} {PF QF : Nat → Nat → Bool} {PA QA : Nat → Bool}
def b37 (t : Nat) (a : Nat) : Bool := a == 37 || a == t + 1
def b143 (a : Nat) : Bool := decide (143 ≤ a) && decide (a ≤ 147)
theorem c70_0 {x1 x2 x3 x4 : Int32} : f_X9_tellTile_70 x1 x2 x3 x4 0 T = some ((), T) := by unfold f_X9_tellTile_70; rw [if_pos rfl]
theorem two_user (hr : RR d ov c m) (h4 : DT c m d A o M o' n F p s) (hu : u < 16) (w1 : 1 ≤ w) (w2 : w ≤ 16) (h1 : 1 ≤ h) (h2 : h ≤ 16) (hs : 2 + h * rb ≤ s) (hrb : rb = (w + 7) / 8) : P2 (f_X9_tellTile_70 (nI u) (nI w) (nI h) (nI rb) 1 c) (lb (uA m 143 u 1) fun T9 => lb (uA T9 144 u 1) fun T12 => lb (uA T12 145 u (nI w)) fun T15 => lb (uA T15 146 u (nI h)) fun T18 => f_X12_userData_l115 FU (nI u) (nI w) (nI h) (nI rb) 0 T18) (fun _ c' _ m' => OU d ov c m c' m') := by
  have hd := hr.d3
  have ix16 : ∀ {α : Type} (K : Nat → Option α), ix (nI u) 16 K = K u := fun K => ix_in (j := u) (nI_pos (by omega)) (nI_clamp (by omega)) (by omega)
  -- the class's side
  obtain ⟨c1, hc1⟩ : ∃ c1, c1 = uI (uI (uI c 1000 (66 + 2 * u) (nI w)) 1001 (66 + 2 * u) (nI h)) 1002 (66 + 2 * u) 0 := ⟨_, rfl⟩
  have fc1 : Fr (tF (66 + 2 * u)) (tA (66 + 2 * u)) c c1 := by rw [hc1]; exact ((Fr.refl.uI _ (by simp [tF])).uI _ (by simp [tF])).uI _ (by simp [tF])
  have z0 : gI c1 1000 (66 + 2 * u) = nI w := by rw [hc1, gI_uI, if_neg (by omega), gI_uI, if_neg (by omega), gI_uI, if_pos ⟨rfl, rfl⟩]
  have z1 : gI c1 1001 (66 + 2 * u) = nI h := by rw [hc1, gI_uI, if_neg (by omega), gI_uI, if_pos ⟨rfl, rfl⟩]
  have z2 : gI c1 1002 (66 + 2 * u) = 0 := by rw [hc1, gI_uI, if_pos ⟨rfl, rfl⟩]
  have d1 : DT c1 m d A o M o' n F p s := h4.fr fc1 (Fr.refl (PF := nF) (PA := noA)) (fun f => by unfold tF; simp; omega) ⟨by unfold tA; simp; omega, by unfold tA; simp; omega⟩ ⟨rfl, rfl, rfl⟩ ⟨rfl, rfl⟩
  obtain ⟨c2, x1, x2, x3⟩ := c_l118 (x1 := nI u) (t := 66 + 2 * u) (w := w) ((fc1.r (by unfold tF; simp)).trans hr.rd) hd d1 hs (by omega) w1 w2 h2 FU 0 c1 (FU_gt (by omega)) (by omega) Fr.refl z0 (fun i hi => by omega)
  have x1' : f_X9_tellTile_l118 FU (nI u) (nI w) (nI h) (nI rb) (66 + 2 * u) 0 c1 = _ := x1
  have ec : f_X9_tellTile_70 (nI u) (nI w) (nI h) (nI rb) 1 c = some ((), uA c2 37 u 1) := by
    unfold f_X9_tellTile_70
    rw [if_neg (by decide), if_neg (nI_pos (by omega)), if_neg (show ¬ (16 : Int32) ≤ nI u from nI_ge (b := 16) hu (by omega)), ix16, ix16, c_size w1 w2 h1 h2, bd_eq, ← hc1, x1']
    unfold f_X8_put
    rw [if_neg (nI_pos (by omega)), if_neg (show ¬ (16 : Int32) ≤ nI u from nI_ge (b := 16) hu (by omega)), ix16, lb_eq, bd_eq]
  -- the reference's
  obtain ⟨m1, hm1⟩ : ∃ m1, m1 = uA (uA (uA (uA m 143 u 1) 144 u 1) 145 u (nI w)) 146 u (nI h) := ⟨_, rfl⟩
  have fm1 : Fr nF b143 m m1 := by rw [hm1]; exact (((Fr.refl.uA _ _ (by rfl)).uA _ _ (by rfl)).uA _ _ (by rfl)).uA _ _ (by rfl)
  have y143 : ∀ j, gA m1 143 j = if j = u then 1 else gA m 143 j := fun j => by rw [hm1, gA_wo _ _ _ (by decide), gA_wo _ _ _ (by decide), gA_wo _ _ _ (by decide), gA_one]
  have y144 : ∀ j, gA m1 144 j = if j = u then 1 else gA m 144 j := fun j => by
    rw [hm1, gA_wo _ _ _ (by decide), gA_wo _ _ _ (by decide), gA_one]
    split
    · rfl
    · rw [gA_wo _ _ _ (by decide)]
  have y145 : ∀ j, gA m1 145 j = if j = u then nI w else gA m 145 j := fun j => by
    rw [hm1, gA_wo _ _ _ (by decide), gA_one]
    split
    · rfl
    · rw [gA_wo _ _ _ (by decide), gA_wo _ _ _ (by decide)]
  have y146 : ∀ j, gA m1 146 j = if j = u then nI h else gA m 146 j := fun j => by
    rw [hm1, gA_one]
    split
    · rfl
    · rw [gA_wo _ _ _ (by decide), gA_wo _ _ _ (by decide), gA_wo _ _ _ (by decide)]
  have e147 : gA m1 147 = gA m 147 := by rw [hm1, gA_wo _ _ _ (by decide), gA_wo _ _ _ (by decide), gA_wo _ _ _ (by decide), gA_wo _ _ _ (by decide)]
  have d2 : DT c m1 d A o M o' n F p s := h4.fr (Fr.refl (PF := nF) (PA := noA)) fm1 (fun _ => rfl) ⟨rfl, rfl⟩ ⟨rfl, rfl, rfl⟩ ⟨rfl, rfl⟩
  obtain ⟨m2, v1, v2, v3⟩ := m_l115 (w := w) (rb := rb) hd hu d2 hs h2 FU 0 m1 (FU_gt (by omega)) (by omega) Fr.refl (fun j => by rw [if_neg (by omega)])
  have v1' : f_X12_userData_l115 FU (nI u) (nI w) (nI h) (nI rb) 0 m1 = some ((), m2) := v1
  rw [ec, lb_eq, lb_eq, lb_eq, lb_eq, ← hm1, v1']
  have fc2 : Fr (tF (66 + 2 * u)) (b37 (66 + 2 * u)) c (uA c2 37 u 1) := ((fc1.weak (fun _ _ e => e) (fun a e => by unfold b37 at e; unfold tA; revert e; simp)).trans (x2.weak (fun _ _ _ => rfl) (fun a e => by unfold b37 at e; unfold tA; revert e; simp))).uA _ _ (by unfold b37; simp)
  have fm2 : Fr nF b143 m m2 := fm1.trans (v2.weak (fun _ _ _ => rfl) (fun a e => by unfold b143 at e; revert e; simp; omega))
  have e34 : gA m2 134 = gA m 134 := fm2.a rfl
  have u143 : ∀ j, gA m2 143 j = if j = u then 1 else gA m 143 j := fun j => by rw [v2.a rfl]; exact y143 j
  have u144 : ∀ j, gA m2 144 j = if j = u then 1 else gA m 144 j := fun j => by rw [v2.a rfl]; exact y144 j
  have u145 : ∀ j, gA m2 145 j = if j = u then nI w else gA m 145 j := fun j => by rw [v2.a rfl]; exact y145 j
  have u146 : ∀ j, gA m2 146 j = if j = u then nI h else gA m 146 j := fun j => by rw [v2.a rfl]; exact y146 j
  have tl : TL (uA c2 37 u 1) m2 := by
    refine TL_mk (SV.oneG (u := u) (a := true) (b := true) (x := 1) hr.tl.s rfl (fun j _ => ?_) (fun j _ => u143 j) (fun j _ => u144 j)) (fun u' hu' h1' => ?_)
    · rw [gA_one, x2.a (by unfold tA; simp; omega), fc1.a (by unfold tA; simp; omega)]
    · by_cases e : u' = u
      · subst e
        refine TR.mk' (w := w) (h := h) (P := fun a i => bt (rowB F p rb w i) (w - 1 - a)) (Or.inr (Or.inr (Or.inr (Or.inr rfl)))) w1 w2 h1 h2 ((x2.i rfl).trans z0) ((x2.i rfl).trans z1) ((x2.i rfl).trans z2) (fun _ => ⟨?_, ?_⟩) (fun i hi k hk => ?_) (fun a b => ?_)
        · show gA m2 145 u' = nI w
          rw [u145, if_pos rfl]
        · show gA m2 146 u' = nI h
          rw [u146, if_pos rfl]
        · have := x3 i hi k (by omega)
          exact this
        · unfold pd
          have r0 : ur m2 u' 0 = 4 := rfl
          have r2 : ur m2 u' 2 = nI w := by show gA m2 145 u' = nI w; rw [u145, if_pos rfl]
          have r3 : ur m2 u' 3 = nI h := by show gA m2 146 u' = nI h; rw [u146, if_pos rfl]
          have bb := Int.emod_nonneg b (show (h : Int) ≠ 0 by omega)
          have b2 := Int.emod_lt_of_pos b (show (0 : Int) < h by omega)
          have aa := Int.emod_nonneg a (show (w : Int) ≠ 0 by omega)
          have a2 := Int.emod_lt_of_pos a (show (0 : Int) < w by omega)
          rw [r0, if_neg (by decide), if_neg (by decide), if_neg (by decide), if_neg (by decide), r2, r3, nI_toInt (by omega), nI_toInt (by omega)]
          have rr : ur m2 u' (4 + (b % (h : Int)).toNat) = rowB F p rb w (b % (h : Int)).toNat := by
            unfold ur
            rw [if_neg (by omega), if_neg (by omega), if_neg (by omega), if_neg (by omega), v3, if_pos (by omega)]
            congr 1; omega
          rw [rr]
          congr 1
          omega
      · rw [u143, if_neg e] at h1'
        have old := hr.tl.t u' hu' h1'
        have eu : ∀ k, k < 20 → ur m2 u' k = ur m u' k := fun k hk => by
          by_cases q4 : k < 4
          · rcases (show k = 0 ∨ k = 1 ∨ k = 2 ∨ k = 3 by omega) with rfl | rfl | rfl | rfl
            · rfl
            · rfl
            · show gA m2 145 u' = gA m 145 u'
              rw [u145, if_neg e]
            · show gA m2 146 u' = gA m 146 u'
              rw [u146, if_neg e]
          · unfold ur
            rw [if_neg (by omega), if_neg (by omega), if_neg (by omega), if_neg (by omega), if_neg (by omega), if_neg (by omega), if_neg (by omega), if_neg (by omega), v3, if_neg (by omega), e147]
        refine (old.fr ?_ ?_ ?_ ?_).congr eu
        · exact fc2.i (by unfold tF; simp; omega)
        · exact fc2.i (by unfold tF; simp; omega)
        · exact fc2.i (by unfold tF; simp; omega)
        · exact fc2.b (by unfold b37; simp; omega)
  refine P2_ret ⟨Or.inl (hr.upd fc2 fm2 (fun f i e => ?_) (fun a e => ?_) (fun _ _ => rfl) (fun a e => ?_) (hr.ft.fr fc2 fm2 ⟨by unfold b37; simp; omega, by unfold b37; simp; omega, by unfold b37; simp; omega, by unfold b37; simp; omega, by unfold b37; simp; omega, by unfold b37; simp; omega⟩ ⟨rfl, rfl, rfl, rfl, rfl, rfl, rfl⟩ rfl) (hr.ka.fr fc2 ⟨by unfold tF; simp, by unfold tF; simp⟩ ⟨by unfold b37; simp; omega, by unfold b37; simp; omega, by unfold b37; simp; omega⟩) tl (hr.mc.fr fc2 fm2 ⟨by unfold b37; simp; omega, by unfold b37; simp; omega, by unfold b37; simp; omega⟩ ⟨rfl, rfl, rfl, rfl⟩)), KP.of fc2 fm2 (fun f i e => ?_) (fun a e => ?_) (fun _ _ e => by cases e) (fun a e => ?_), fun _ => by rw [e34]; exact ⟨rfl, rfl⟩⟩
  · unfold rcF at e; unfold tF; revert e; simp; omega
  · unfold rcA at e; unfold b37; revert e; simp; omega
  · unfold rcN at e; unfold b143; revert e; simp; omega
  · unfold tF at e
    have : i = 66 + 2 * u := by simp at e; exact e.1
    subst this; unfold skF; simp; omega
  · unfold b37 at e
    have : a = 37 ∨ a = 66 + 2 * u + 1 := by simpa using e
    unfold skA; simp; omega
  · unfold b143 at e
    have : 143 ≤ a ∧ a ≤ 147 := by simpa using e
    exact ⟨by unfold mkA; simp; omega, by omega, by omega⟩
theorem P2_userData (hr : RR d ov c m) (h4 : DT c m d A o M o' n F p s) : P2 (f_X9_tellTile (gI c 118 45) c) (f_X12_userData (nI s) m) (fun _ c' _ m' => OU d ov c m c' m') := by
  have hd := hr.d3
  have n1 := h4.1.n1
  have hps := h4.2.2.2.1
  have stay : P2 (some ((), c)) (some ((), m)) (fun _ c' _ m' => OU d ov c m c' m') := P2_ret (OU.refl hr)
  obtain ⟨z, y0, y1, y2⟩ := hr.eb.k144
  have e118 : gI c 118 45 = iz z := (hr.ev.i (118, 0, 144) (by decide)).trans y0
  have n0 : iz z < 0 ↔ z < 0 := iz_neg0 y1 y2
  have n15 : 15 < iz z ↔ 15 < z := by rw [show (15 : Int32) = iz 15 from rfl]; exact iz_lt (by omega) (by omega) (by omega) (by omega)
  have n16 : 16 ≤ iz z ↔ 16 ≤ z := by rw [show (16 : Int32) = iz 16 from rfl]; exact iz_le (by omega) (by omega) (by omega) (by omega)
  have out : ∀ (x2 x3 x4 : Int32) (v : Int32), (z < 0 ∨ 15 < z) → f_X9_tellTile_70 (iz z) x2 x3 x4 v c = some ((), c) := fun x2 x3 x4 v hz => by
    unfold f_X9_tellTile_70
    by_cases q : z < 0
    · rw [if_pos (n0.mpr q), ite_self]
    · rw [if_pos (n16.mpr (by omega)), ite_self, ite_self]
  have cd0 := c_data h4 (i := 0) (by omega)
  have cd1 := c_data h4 (i := 1) (by omega)
  unfold f_X9_tellTile f_X12_userData
  rw [rd_eq hr, show (0 : Int32) = nI 0 from rfl, cd0, bd_eq, rd_eq hr, show (1 : Int32) = nI 1 from rfl, cd1, bd_eq, lb_eq, lb_eq, rd_eq hr, h4.2.2.1, e118, y0]
  have i0 : nI 0 = (0 : Int32) := rfl
  have i1 : nI 1 = (1 : Int32) := rfl
  by_cases q0 : z < 0
  · rw [i0, if_pos (n0.mpr q0)]
    simp only [out _ _ _ _ (Or.inl q0), ite_self]
    exact stay
  rw [i0, if_neg (fun y => q0 (n0.mp y))]
  by_cases q15 : 15 < z
  · rw [if_pos (n15.mpr q15)]
    simp only [out _ _ _ _ (Or.inr q15), ite_self]
    exact stay
  rw [if_neg (fun y => q15 (n15.mp y))]
  simp only [c70_0]
  by_cases q2 : s < 2
  · rw [if_neg (show ¬ 1 < s by omega), if_pos (show (0 : Int32) < nI 1 by decide), ite_self, ite_self, if_neg (show ¬ (2 : Int32) ≤ nI s from nI_ge (b := 2) (by omega) (by omega))]
    exact stay
  obtain ⟨u, rfl⟩ : ∃ u : Nat, z = (u : Int) := ⟨z.toNat, by omega⟩
  have g0 := h4.1.g (p + 0)
  have g1 := h4.1.g (p + 1)
  have md0 := m_data1 h4 hd (i := 0) (by omega)
  have md1 := m_data1 h4 hd (i := 1) (by omega)
  rw [i0] at md0
  rw [if_pos (show 0 < s by omega), if_pos (show 1 < s by omega), if_pos (show (2 : Int32) ≤ nI s from nI_le (a := 2) (by omega) (by omega)), md0, bd_eq, md1, bd_eq, lb_eq]
  revert g0 g1
  generalize F (p + 0) = w
  generalize F (p + 1) = h
  intro g0 g1
  have erb : (nI w + 7) / 8 = nI ((w + 7) / 8) := by rw [show nI w + 7 = nI (w + 7) from nI_add w 7]; exact pk_div (d := 8) (by omega) (by decide) (by decide)
  rw [erb]
  by_cases a1 : w < 1
  · rw [if_pos (show nI w < nI 1 from nI_lt a1 (by omega)), if_pos (show nI w < nI 1 from nI_lt a1 (by omega))]; exact stay
  rw [if_neg (show ¬ nI w < nI 1 from nI_nlt (by omega) (by omega)), if_neg (show ¬ nI w < nI 1 from nI_nlt (by omega) (by omega))]
  by_cases a2 : 16 < w
  · rw [if_pos (show 16 < nI w from nI_lt (a := 16) a2 (by omega)), if_pos (show 16 < nI w from nI_lt (a := 16) a2 (by omega))]; exact stay
  rw [if_neg (show ¬ 16 < nI w from nI_nlt (a := 16) (by omega) (by omega)), if_neg (show ¬ 16 < nI w from nI_nlt (a := 16) (by omega) (by omega))]
  by_cases a3 : h < 1
  · rw [if_pos (show nI h < nI 1 from nI_lt a3 (by omega)), if_pos (show nI h < nI 1 from nI_lt a3 (by omega))]; exact stay
  rw [if_neg (show ¬ nI h < nI 1 from nI_nlt (by omega) (by omega)), if_neg (show ¬ nI h < nI 1 from nI_nlt (by omega) (by omega))]
  by_cases a4 : 16 < h
  · rw [if_pos (show 16 < nI h from nI_lt (a := 16) a4 (by omega)), if_pos (show 16 < nI h from nI_lt (a := 16) a4 (by omega))]; exact stay
  rw [if_neg (show ¬ 16 < nI h from nI_nlt (a := 16) (by omega) (by omega)), if_neg (show ¬ 16 < nI h from nI_nlt (a := 16) (by omega) (by omega))]
  have hm : h * ((w + 7) / 8) ≤ 16 * 2 := Nat.mul_le_mul (by omega) (by omega)
  rw [pk_mul, pk_mul, show (2 : Int32) + nI (h * ((w + 7) / 8)) = nI (2 + h * ((w + 7) / 8)) from nI_add 2 _, show (2 : Int32) + nI ((w + 7) / 8 * h) = nI (2 + (w + 7) / 8 * h) from nI_add 2 _, Nat.mul_comm ((w + 7) / 8) h]
  by_cases a5 : s < 2 + h * ((w + 7) / 8)
  · rw [if_pos (nI_lt a5 (by omega)), if_neg (nI_ge a5 (by omega))]; exact stay
  have ix16 : ∀ {α : Type} (K : Nat → Option α), ix (nI u) 16 K = K u := fun K => ix_in (j := u) (nI_pos (by omega)) (nI_clamp (by omega)) (by omega)
  rw [if_neg (nI_nlt (by omega) (by omega)), if_pos (nI_le (by omega) (by omega)), ← nI_iz]
  simp only [ix16]
  exact two_user hr h4 (by omega) (by omega) (by omega) (by omega) (by omega) (by omega) rfl
end G5
