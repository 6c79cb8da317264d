/-! The environment anew, copied, kept and brought back, on both sides. -/
def gE0 (f o : Nat) : Nat → Int32 := wr (wr (wr (wr (wr (wr (wr (wr (wr (wr (wr (wr (wr (wr (wr (fun _ => 0) 0 (nI f)) 1 (nI o)) 6 (1200)) 7 (720)) 8 (1)) 13 (720)) 14 (8)) 19 (-1)) 21 (720)) 22 (8)) 27 (-1)) 53 (1)) 55 (-1)) 56 (-1)) 187 (-1)
def gE (f o : Nat) : Nat → Int32 := wr (wr (wr (wr (wr (wr (gE0 f o) 2 0) 3 (nI (96 * lgW (gE0 f o)))) 4 0) 5 (nI (96 * lgH (gE0 f o)))) 189 0) 190 900
section B4
variable {c c' c0 m m' T : Mm} {g : Nat → Int32}
theorem eA_i {a : Nat} (e : eA a = false) : a < 45 ∨ 53 < a := by
  by_cases h : a < 45
  · exact Or.inl h
  by_cases h2 : 53 < a
  · exact Or.inr h2
  unfold eA at e
  rw [decide_eq_true (by omega), decide_eq_true (by omega)] at e
  cases e
theorem eF_i {f a : Nat} (e : eF f a = false) : a < 45 ∨ 53 < a := eA_i e
theorem gE_w (f o : Nat) : lgW (gE f o) = lgW (gE0 f o) ∧ lgH (gE f o) = lgH (gE0 f o) := ⟨lgW_eq rfl rfl, lgH_eq rfl rfl⟩
theorem gE_b {f o : Nat} (hf : f ≤ 3) (ho : o ≤ 1) : EB (gE f o) := by
  have key : ∀ f, f < 4 → ∀ o, o < 2 → ∀ k, k < 192 → lo k ≤ (gE f o k).toInt ∧ (gE f o k).toInt ≤ hi k := by decide +kernel
  refine EB_mk (fun k hk => key f (by omega) o (by omega) k hk) ⟨?_, ?_⟩ ?_ ?_
  · show ¬ (-1 : Int32) = 0
    decide
  · show ¬ (-1 : Int32) = 0
    decide
  · intro h
    exact absurd (show (0 : Int32) = 1 from h) (by decide)
  · show (0 : Int32).toInt ≤ _
    have : (0 : Int32).toInt = 0 := by decide
    omega
theorem m_reset9 {f o : Nat} (hf : f ≤ 3) (ho : o ≤ 1) : ∃ m', f_X12_reset (nI f) (nI o) m = some ((), m') ∧ Fr nF meA m m' ∧ ∀ k, k < 192 → gA m' 134 k = gE f o k := by
  have z : ∀ (N k : Nat) (T : Mm), 192 - k < N → k ≤ 192 → Fr nF meA m T → (∀ j, j < k → gA T 134 j = 0) → ∃ T', Fr nF meA m T' ∧ (∀ j, j < 192 → gA T' 134 j = 0) ∧ f_X12_reset_l2 N (nI f) (nI o) (nI k) T = f_X12_reset_b2 (fun _ _ _ _ => none) (nI f) (nI o) (nI 192) T' := by
    intro N
    induction N with
    | zero => intro k T h; omega
    | succ N ih =>
      intro k T g1 g2 g3 g4
      by_cases q : k = 192
      · subst q
        refine ⟨T, g3, g4, ?_⟩
        show f_X12_reset_b2 (f_X12_reset_l2 N) (nI f) (nI o) (nI 192) T = _
        unfold f_X12_reset_b2
        rw [if_pos (by decide), if_pos (by decide)]
      · have e0 : f_X12_reset_l2 (N + 1) (nI f) (nI o) (nI k) T = f_X12_reset_l2 N (nI f) (nI o) (nI (k + 1)) (uA T 134 k 0) := by
          show f_X12_reset_b2 (f_X12_reset_l2 N) (nI f) (nI o) (nI k) T = _
          unfold f_X12_reset_b2
          rw [if_neg (show ¬ (192 : Int32) ≤ nI k from nI_ge (b := 192) (by omega) (by omega)), ix_in (j := k) (nI_pos (by omega)) (nI_clamp (by omega)) (by omega), lb_eq, show nI k + 1 = nI (k + 1) from nI_add k 1]
        rw [e0]
        refine ih (k + 1) _ (by omega) (by omega) (g3.uA _ _ (by rfl)) (fun j hj => ?_)
        rw [gA_wr]
        by_cases e : j = k
        · rw [e, wr_s]
        · rw [wr_o _ e]; exact g4 j (by omega)
  obtain ⟨T0, t1, t2, t3⟩ := z FU 0 m (FU_gt (by omega)) (by omega) Fr.refl (fun j hj => by omega)
  have t3' : f_X12_reset (nI f) (nI o) m = f_X12_reset_b2 (fun _ _ _ _ => none) (nI f) (nI o) (nI 192) T0 := t3
  rw [t3']
  unfold f_X12_reset_b2
  rw [if_pos (by decide), lb_eq, lb_eq, lb_eq, lb_eq, lb_eq]
  -- the wishes
  obtain ⟨m1, hm1⟩ : ∃ m1, m1 = uA (uA (uA (uA (uA T0 134 0 (nI f)) 134 1 (nI o)) 134 6 1200) 134 7 720) 134 8 1 := ⟨_, rfl⟩
  have f1 : Fr nF meA m m1 := by rw [hm1]; exact (((((t1.uA _ _ (by rfl)).uA _ _ (by rfl)).uA _ _ (by rfl)).uA _ _ (by rfl)).uA _ _ (by rfl))
  rw [← hm1]
  have l66 : f_X12_reset_l66 FU 0 m1 = f_X12_reset_b66 (fun _ _ => none) (nI 2) (uA (uA (uA (uA (uA (uA m1 134 13 720) 134 14 8) 134 19 (-1)) 134 21 720) 134 22 8) 134 27 (-1)) := by
    rw [show FU = 3999999997 + 1 + 1 + 1 from rfl]
    show f_X12_reset_b66 (f_X12_reset_l66 (3999999997 + 1 + 1)) (nI 0) m1 = _
    unfold f_X12_reset_b66
    rw [if_neg (show ¬ (2 : Int32) ≤ nI 0 by decide), show (((12 : Int32) + ((8 : Int32) * nI 0)) + 1) = nI 13 from rfl, show (((12 : Int32) + ((8 : Int32) * nI 0)) + 2) = nI 14 from rfl, show (((12 : Int32) + ((8 : Int32) * nI 0)) + 7) = nI 19 from rfl, ix_in (j := 13) (nI_pos (by omega)) (nI_clamp (by omega)) (by omega), lb_eq, ix_in (j := 14) (nI_pos (by omega)) (nI_clamp (by omega)) (by omega), lb_eq, ix_in (j := 19) (nI_pos (by omega)) (nI_clamp (by omega)) (by omega), lb_eq, show nI 0 + 1 = nI 1 from rfl]
    show f_X12_reset_b66 (f_X12_reset_l66 (3999999997 + 1)) (nI 1) _ = _
    unfold f_X12_reset_b66
    rw [if_neg (show ¬ (2 : Int32) ≤ nI 1 by decide), show (((12 : Int32) + ((8 : Int32) * nI 1)) + 1) = nI 21 from rfl, show (((12 : Int32) + ((8 : Int32) * nI 1)) + 2) = nI 22 from rfl, show (((12 : Int32) + ((8 : Int32) * nI 1)) + 7) = nI 27 from rfl, ix_in (j := 21) (nI_pos (by omega)) (nI_clamp (by omega)) (by omega), lb_eq, ix_in (j := 22) (nI_pos (by omega)) (nI_clamp (by omega)) (by omega), lb_eq, ix_in (j := 27) (nI_pos (by omega)) (nI_clamp (by omega)) (by omega), lb_eq, show nI 1 + 1 = nI 2 from rfl]
    show f_X12_reset_b66 (f_X12_reset_l66 3999999997) (nI 2) _ = _
    unfold f_X12_reset_b66
    rw [if_pos (by decide), if_pos (by decide)]
  rw [l66]
  obtain ⟨m2, hm2⟩ : ∃ m2, m2 = uA (uA (uA (uA (uA (uA m1 134 13 720) 134 14 8) 134 19 (-1)) 134 21 720) 134 22 8) 134 27 (-1) := ⟨_, rfl⟩
  have f2 : Fr nF meA m m2 := by rw [hm2]; exact ((((((f1.uA _ _ (by rfl)).uA _ _ (by rfl)).uA _ _ (by rfl)).uA _ _ (by rfl)).uA _ _ (by rfl)).uA _ _ (by rfl))
  rw [← hm2]
  unfold f_X12_reset_b66
  rw [if_pos (by decide), lb_eq, lb_eq, lb_eq, lb_eq]
  obtain ⟨m3, hm3⟩ : ∃ m3, m3 = uA (uA (uA (uA m2 134 53 1) 134 55 (-1)) 134 56 (-1)) 134 187 (-1) := ⟨_, rfl⟩
  have f3 : Fr nF meA m m3 := by rw [hm3]; exact ((((f2.uA _ _ (by rfl)).uA _ _ (by rfl)).uA _ _ (by rfl)).uA _ _ (by rfl))
  rw [← hm3]
  have a3 : ∀ k, k < 192 → gA m3 134 k = gE0 f o k := by
    intro k hk
    have e : gA m3 134 = wr (wr (wr (wr (wr (wr (wr (wr (wr (wr (wr (wr (wr (wr (wr (gA T0 134) 0 (nI f)) 1 (nI o)) 6 (1200)) 7 (720)) 8 (1)) 13 (720)) 14 (8)) 19 (-1)) 21 (720)) 22 (8)) 27 (-1)) 53 (1)) 55 (-1)) 56 (-1)) 187 (-1) := by
      rw [hm3, hm2, hm1]
      simp only [gA_wr]
    rw [e]
    unfold gE0
    have cg : ∀ (u v : Nat → Int32) (i : Nat) (x : Int32), u k = v k → wr u i x k = wr v i x k := fun u v i x h => by
      unfold wr; rw [h]
    exact cg _ _ _ _ (cg _ _ _ _ (cg _ _ _ _ (cg _ _ _ _ (cg _ _ _ _ (cg _ _ _ _ (cg _ _ _ _ (cg _ _ _ _ (cg _ _ _ _ (cg _ _ _ _ (cg _ _ _ _ (cg _ _ _ _ (cg _ _ _ _ (cg _ _ _ _ (cg _ _ _ _ (t2 k hk)))))))))))))))
  have w3 : lgW (gA m3 134) = lgW (gE0 f o) ∧ lgH (gA m3 134) = lgH (gE0 f o) := ⟨lgW_eq (a3 0 (by omega)) (a3 1 (by omega)), lgH_eq (a3 0 (by omega)) (a3 1 (by omega))⟩
  have hW := lgW_le (gE0 f o)
  have hH := lgH_le (gE0 f o)
  unfold f_X12_pagesOwn f_X12_homeY
  have gw : ∀ {T : Mm}, gA T 134 0 = gA m3 134 0 → gA T 134 1 = gA m3 134 1 → lgW (gA T 134) = lgW (gE0 f o) ∧ lgH (gA T 134) = lgH (gE0 f o) := fun {T} u v => ⟨(lgW_eq u v).trans w3.1, (lgH_eq u v).trans w3.2⟩
  obtain ⟨m4, hm4⟩ : ∃ m4, m4 = uA m3 134 2 0 := ⟨_, rfl⟩
  have e4 : gA m4 134 = wr (gA m3 134) 2 0 := by rw [hm4, gA_wr]
  have w4 := gw (T := m4) (by rw [e4, wr_o _ (by decide)]) (by rw [e4, wr_o _ (by decide)])
  rw [lb_eq, ← hm4, m_wide, bd_eq, w4.1, show (96 : Int32) * nI (lgW (gE0 f o)) = nI (96 * lgW (gE0 f o)) from pk_mul 96 _, lb_eq, lb_eq]
  obtain ⟨m5, hm5⟩ : ∃ m5, m5 = uA (uA m4 134 3 (nI (96 * lgW (gE0 f o)))) 134 4 0 := ⟨_, rfl⟩
  have e5 : gA m5 134 = wr (wr (gA m4 134) 3 (nI (96 * lgW (gE0 f o)))) 4 0 := by rw [hm5, gA_wr, gA_wr]
  have w5 := gw (T := m5) (by rw [e5, wr_o _ (by decide), wr_o _ (by decide), e4, wr_o _ (by decide)]) (by rw [e5, wr_o _ (by decide), wr_o _ (by decide), e4, wr_o _ (by decide)])
  rw [← hm5, m_high, bd_eq, w5.2, show (96 : Int32) * nI (lgH (gE0 f o)) = nI (96 * lgH (gE0 f o)) from pk_mul 96 _, lb_eq]
  obtain ⟨m6, hm6⟩ : ∃ m6, m6 = uA m5 134 5 (nI (96 * lgH (gE0 f o))) := ⟨_, rfl⟩
  have e6 : gA m6 134 = wr (gA m5 134) 5 (nI (96 * lgH (gE0 f o))) := by rw [hm6, gA_wr]
  rw [← hm6, show (0 : Int64) = jz 0 from rfl, m_setX (by omega) (by omega), clp_id (by omega) (by omega), bd_eq]
  obtain ⟨m7, hm7⟩ : ∃ m7, m7 = uA m6 134 189 (iz 0) := ⟨_, rfl⟩
  have e7 : gA m7 134 = wr (gA m6 134) 189 (iz 0) := by rw [hm7, gA_wr]
  have w7 := gw (T := m7) (by rw [e7, wr_o _ (by decide), e6, wr_o _ (by decide), e5, wr_o _ (by decide), wr_o _ (by decide), e4, wr_o _ (by decide)]) (by rw [e7, wr_o _ (by decide), e6, wr_o _ (by decide), e5, wr_o _ (by decide), wr_o _ (by decide), e4, wr_o _ (by decide)])
  have v4 : gA m7 134 4 = 0 := by rw [e7, wr_o _ (by decide), e6, wr_o _ (by decide), e5, wr_s]
  have v6 : gA m7 134 6 = 1200 := by rw [e7, wr_o _ (by decide), e6, wr_o _ (by decide), e5, wr_o _ (by decide), wr_o _ (by decide), e4, wr_o _ (by decide), a3 6 (by omega)]; rfl
  rw [← hm7, v4, v6, show (((0 : Int32) + (((1200 : Int32) * 3) / 4))).toInt64 = jz 900 from by decide, m_setY (by omega) (by omega), bd_eq, w7.2, clp_id (by omega) (by omega), bd_eq, bd_eq]
  refine ⟨_, rfl, ?_, fun k hk => ?_⟩
  · rw [hm7, hm6, hm5, hm4]
    exact (((((((f3.uA _ _ (by rfl)).uA _ _ (by rfl)).uA _ _ (by rfl)).uA _ _ (by rfl)).uA _ _ (by rfl)).uA _ _ (by rfl)))
  · rw [gA_wr, e7, e6, e5, e4]
    unfold gE
    have cg : ∀ (u v : Nat → Int32) (i : Nat) (x : Int32), u k = v k → wr u i x k = wr v i x k := fun u v i x h => by
      unfold wr; rw [h]
    exact cg _ _ _ _ (cg _ _ _ _ (cg _ _ _ _ (cg _ _ _ _ (cg _ _ _ _ (cg _ _ _ _ (a3 k hk))))))
theorem c_first {p : Nat} (hp : LN p = 8) : ∃ c', f_X2_firstWishes p c = some ((), c') ∧ Fr nF (fun a => a == p) c c' ∧ ∀ k, k < 8 → gA c' p k = if k = 7 then -1 else if k = 3 then 8 else if k = 2 then 720 else 0 := by
  unfold f_X2_firstWishes
  rw [f_fill (by rw [hp]; decide), bd_eq, hp, if_neg (by decide), show (2 : Int32) = nI 2 from rfl, show (3 : Int32) = nI 3 from rfl, show (7 : Int32) = nI 7 from rfl, ix_in (j := 2) (nI_pos (by omega)) (nI_clamp (by omega)) (by omega), lb_eq, ix_in (j := 3) (nI_pos (by omega)) (nI_clamp (by omega)) (by omega), lb_eq, ix_in (j := 7) (nI_pos (by omega)) (nI_clamp (by omega)) (by omega), lb_eq]
  refine ⟨_, rfl, (((Fr.refl.vA _ (by simp)).uA _ _ (by simp)).uA _ _ (by simp)).uA _ _ (by simp), fun k hk => ?_⟩
  rw [gA_wr, gA_wr, gA_wr, gA_vA_s]
  unfold wr
  by_cases k7 : k = 7
  · rw [if_pos k7, if_pos k7]
  by_cases k3 : k = 3
  · rw [if_neg k7, if_neg k7, if_pos k3, if_pos k3]
  by_cases k2 : k = 2
  · rw [if_neg k7, if_neg k7, if_neg k3, if_neg k3, if_pos k2, if_pos k2]
  rw [if_neg k7, if_neg k7, if_neg k3, if_neg k3, if_neg k2, if_neg k2]
  exact if_pos hk
theorem c_reset9 {f o : Nat} (hf : f ≤ 3) (ho : o ≤ 1) : ∃ c', f_X1_reset 45 (nI f) (nI o) c = some ((), c') ∧ Fr eF eA c c' ∧ EVq c' 45 (gE f o) := by
  have hW := lgW_le (gE0 f o)
  have hH := lgH_le (gE0 f o)
  have nf : ∃ k, gE0 f o 0 = nI k ∧ k ≤ 3 := ⟨f, rfl, hf⟩
  have no : ∃ k, gE0 f o 1 = nI k ∧ k ≤ 1 := ⟨o, rfl, ho⟩
  -- the sheet
  obtain ⟨c1, hc1⟩ : ∃ c1, c1 = uI (uI (uI (uI (uI (uI (uI (c) 708 46 (1200)) 709 46 (720)) 710 46 (0)) 711 46 (0)) 700 46 (nI f)) 701 46 (nI o)) 704 46 (0) := ⟨_, rfl⟩
  have a708 : gI c1 708 46 = 1200 := by rw [hc1, gI_uI, if_neg (by decide), gI_uI, if_neg (by decide), gI_uI, if_neg (by decide), gI_uI, if_neg (by decide), gI_uI, if_neg (by decide), gI_uI, if_neg (by decide), gI_uI, if_pos ⟨rfl, rfl⟩]
  have a709 : gI c1 709 46 = 720 := by rw [hc1, gI_uI, if_neg (by decide), gI_uI, if_neg (by decide), gI_uI, if_neg (by decide), gI_uI, if_neg (by decide), gI_uI, if_neg (by decide), gI_uI, if_pos ⟨rfl, rfl⟩]
  have a710 : gI c1 710 46 = 0 := by rw [hc1, gI_uI, if_neg (by decide), gI_uI, if_neg (by decide), gI_uI, if_neg (by decide), gI_uI, if_neg (by decide), gI_uI, if_pos ⟨rfl, rfl⟩]
  have a711 : gI c1 711 46 = 0 := by rw [hc1, gI_uI, if_neg (by decide), gI_uI, if_neg (by decide), gI_uI, if_neg (by decide), gI_uI, if_pos ⟨rfl, rfl⟩]
  have a700 : gI c1 700 46 = nI f := by rw [hc1, gI_uI, if_neg (by decide), gI_uI, if_neg (by decide), gI_uI, if_pos ⟨rfl, rfl⟩]
  have a701 : gI c1 701 46 = nI o := by rw [hc1, gI_uI, if_neg (by decide), gI_uI, if_pos ⟨rfl, rfl⟩]
  have a704 : gI c1 704 46 = 0 := by rw [hc1, gI_uI, if_pos ⟨rfl, rfl⟩]
  have s1 : SF c1 46 (gE0 f o) := ⟨a700, a701, nf, no⟩
  have F1 : Fr (fun _ i => i == 46) (fun _ => false) c c1 := by rw [hc1]; exact (((((((Fr.refl.uI _ (by rfl)).uI _ (by rfl)).uI _ (by rfl)).uI _ (by rfl)).uI _ (by rfl)).uI _ (by rfl)).uI _ (by rfl))
  obtain ⟨c2, hc2⟩ : ∃ c2, c2 = uI (uI c1 705 46 (nI (96 * lgH (gE0 f o)))) 702 46 0 := ⟨_, rfl⟩
  have s2 : SF c2 46 (gE0 f o) := by
    rw [hc2]
    exact ⟨by rw [gI_uI, if_neg (by decide), gI_uI, if_neg (by decide)]; exact s1.1, by rw [gI_uI, if_neg (by decide), gI_uI, if_neg (by decide)]; exact s1.2.1, nf, no⟩
  obtain ⟨c3, hc3⟩ : ∃ c3, c3 = uI c2 703 46 (nI (96 * lgW (gE0 f o))) := ⟨_, rfl⟩
  have s3 : SF c3 46 (gE0 f o) := by
    rw [hc3]
    exact ⟨by rw [gI_uI, if_neg (by decide)]; exact s2.1, by rw [gI_uI, if_neg (by decide)]; exact s2.2.1, nf, no⟩
  obtain ⟨c4, hc4⟩ : ∃ c4, c4 = uI c3 706 46 (iz 0) := ⟨_, rfl⟩
  have s4 : SF c4 46 (gE0 f o) := by
    rw [hc4]
    exact ⟨by rw [gI_uI, if_neg (by decide)]; exact s3.1, by rw [gI_uI, if_neg (by decide)]; exact s3.2.1, nf, no⟩
  obtain ⟨c5, hc5⟩ : ∃ c5, c5 = uI c4 707 46 (iz 900) := ⟨_, rfl⟩
  have F5 : Fr (fun _ i => i == 46) (fun _ => false) c c5 := by rw [hc5, hc4, hc3, hc2]; exact ((((F1.uI _ (by rfl)).uI _ (by rfl)).uI _ (by rfl)).uI _ (by rfl)).uI _ (by rfl)
  have o1 : ∀ k, k ≠ 702 → k ≠ 703 → k ≠ 705 → k ≠ 706 → k ≠ 707 → gI c5 k 46 = gI c1 k 46 := fun k k1 k2 k3 k4 k5 => by
    rw [hc5, hc4, hc3, hc2, gI_uI, if_neg (fun z => k5 z.1), gI_uI, if_neg (fun z => k4 z.1), gI_uI, if_neg (fun z => k2 z.1), gI_uI, if_neg (fun z => k1 z.1), gI_uI, if_neg (fun z => k3 z.1)]
  have b702 : gI c5 702 46 = 0 := by rw [hc5, hc4, hc3, hc2, gI_uI, if_neg (by decide), gI_uI, if_neg (by decide), gI_uI, if_neg (by decide), gI_uI, if_pos ⟨rfl, rfl⟩]
  have b703 : gI c5 703 46 = nI (96 * lgW (gE0 f o)) := by rw [hc5, hc4, hc3, gI_uI, if_neg (by decide), gI_uI, if_neg (by decide), gI_uI, if_pos ⟨rfl, rfl⟩]
  have b705 : gI c5 705 46 = nI (96 * lgH (gE0 f o)) := by rw [hc5, hc4, hc3, hc2, gI_uI, if_neg (by decide), gI_uI, if_neg (by decide), gI_uI, if_neg (by decide), gI_uI, if_neg (by decide), gI_uI, if_pos ⟨rfl, rfl⟩]
  have b706 : gI c5 706 46 = 0 := by rw [hc5, hc4, gI_uI, if_neg (by decide), gI_uI, if_pos ⟨rfl, rfl⟩]; rfl
  have b707 : gI c5 707 46 = 900 := by rw [hc5, gI_uI, if_pos ⟨rfl, rfl⟩]; rfl
  have turn : bd (f_X7_reset 46 c) (fun _ T1 => f_X7_turn 46 (nI f) (nI o) T1) = some ((), c5) := by
    unfold f_X7_reset f_X7_turn
    rw [lb_eq, lb_eq, lb_eq, lb_eq, bd_eq, lb_eq, lb_eq, lb_eq, ← hc1, c_down s1, bd_eq, lb_eq]
    unfold f_X7_clearMargins
    rw [lb_eq, ← hc2, c_across s2, bd_eq, lb_eq, ← hc3, bd_eq]
    have d702 : gI c3 702 46 = 0 := by rw [hc3, hc2, gI_uI, if_neg (by decide), gI_uI, if_pos ⟨rfl, rfl⟩]
    rw [d702, show ((0 : Int32)).toInt64 = jz 0 from rfl, c_moveX s3 (by omega) (by omega), clp_id (by omega) (by omega), bd_eq, ← hc4]
    unfold f_X7_homeY
    have d704 : gI c4 704 46 = 0 := by rw [hc4, hc3, hc2, gI_uI, if_neg (by decide), gI_uI, if_neg (by decide), gI_uI, if_neg (by decide), gI_uI, if_neg (by decide)]; exact a704
    have d708 : gI c4 708 46 = 1200 := by rw [hc4, hc3, hc2, gI_uI, if_neg (by decide), gI_uI, if_neg (by decide), gI_uI, if_neg (by decide), gI_uI, if_neg (by decide)]; exact a708
    rw [d704, d708, show (((0 : Int32) + (((1200 : Int32) * 3) / 4))).toInt64 = jz 900 from by decide, c_moveY s4 (by omega) (by omega), clp_id (by omega) (by omega), bd_eq, bd_eq, ← hc5]
  -- raster graphics
  obtain ⟨c6, hc6⟩ : ∃ c6, c6 = uI (uI (uI (uI (vA (uI (uI (uI c5 400 48 1) 405 48 0) 406 48 0) 49 (fun j => if j < LN 49 then 0 else gA (uI (uI (uI c5 400 48 1) 405 48 0) 406 48 0) 49 j)) 404 48 0) 401 48 0) 402 48 0) 403 48 0 := ⟨_, rfl⟩
  have F6 : Fr (fun _ i => i == 48) (fun a => a == 49) c5 c6 := by rw [hc6]; exact (((((((Fr.refl.uI _ (by rfl)).uI _ (by rfl)).uI _ (by rfl)).vA _ (by rfl)).uI _ (by rfl)).uI _ (by rfl)).uI _ (by rfl)).uI _ (by rfl)
  have r6 : f_X4_reset 48 c5 = some ((), c6) := by
    unfold f_X4_reset f_X4_clearRow f_X4_end
    rw [lb_eq, lb_eq, lb_eq, f_fill (by decide), bd_eq, bd_eq, lb_eq, if_neg (by decide), lb_eq, lb_eq, lb_eq, bd_eq, ← hc6]
  have q400 : gI c6 400 48 = 1 := by
    rw [hc6, gI_uI, if_neg (by decide), gI_uI, if_neg (by decide), gI_uI, if_neg (by decide), gI_uI, if_neg (by decide), gI_vA, gI_uI, if_neg (by decide), gI_uI, if_neg (by decide), gI_uI, if_pos ⟨rfl, rfl⟩]
  have q405 : gI c6 405 48 = 0 := by
    rw [hc6, gI_uI, if_neg (by decide), gI_uI, if_neg (by decide), gI_uI, if_neg (by decide), gI_uI, if_neg (by decide), gI_vA, gI_uI, if_neg (by decide), gI_uI, if_pos ⟨rfl, rfl⟩]
  have q404 : gI c6 404 48 = 0 := by rw [hc6, gI_uI, if_neg (by decide), gI_uI, if_neg (by decide), gI_uI, if_neg (by decide), gI_uI, if_pos ⟨rfl, rfl⟩]
  have q401 : gI c6 401 48 = 0 := by rw [hc6, gI_uI, if_neg (by decide), gI_uI, if_neg (by decide), gI_uI, if_pos ⟨rfl, rfl⟩]
  have q402 : gI c6 402 48 = 0 := by rw [hc6, gI_uI, if_neg (by decide), gI_uI, if_pos ⟨rfl, rfl⟩]
  have q403 : gI c6 403 48 = 0 := by rw [hc6, gI_uI, if_pos ⟨rfl, rfl⟩]
  have q49 : ∀ j, j < 20 → gA c6 49 j = 0 := fun j hj => by
    rw [hc6]
    show gA (vA _ 49 _) 49 j = 0
    rw [gA_vA, if_pos rfl, if_pos (show j < LN 49 from hj)]
  -- the pattern, the wishes
  obtain ⟨c7, r7, F7, t7⟩ := c_solid (c := c6) (t := 50) (L := fun k => gE f o (29 + k)) rfl
  obtain ⟨c8, r8, F8, t8⟩ := c_first (c := c7) (p := 52) rfl
  obtain ⟨c9, r9, F9, t9⟩ := c_first (c := c8) (p := 53) rfl
  have F69 : Fr (fun f i => i == 50) (fun a => a == 51 || a == 52 || a == 53) c6 c9 := ((F7.weak (fun f i e => by unfold tF; revert e; simp; intro e z; exact absurd z e) (fun a e => by unfold tA; revert e; simp; omega)).trans (F8.weak (fun _ _ _ => rfl) (fun a e => by revert e; simp; omega))).trans (F9.weak (fun _ _ _ => rfl) (fun a e => by revert e; simp))
  obtain ⟨cz, hcz⟩ : ∃ cz, cz = uI (uI (uI (uI (uI (uI (uI (uI (uI (uI (uI (uI (uI (uI (uI (uI (c9) 105 45 (0)) 106 45 (1)) 107 45 (0)) 108 45 (0)) 109 45 (0)) 110 45 (0)) 111 45 (0)) 112 45 (0)) 113 45 (0)) 114 45 (0)) 115 45 (0)) 116 45 (0)) 117 45 (0)) 118 45 (0)) 119 45 (0)) 120 45 (-1) := ⟨_, rfl⟩
  have Fz : Fr (fun _ i => i == 45) (fun _ => false) c9 cz := by rw [hcz]; exact ((((((((((((((((Fr.refl.uI _ (by rfl)).uI _ (by rfl)).uI _ (by rfl)).uI _ (by rfl)).uI _ (by rfl)).uI _ (by rfl)).uI _ (by rfl)).uI _ (by rfl)).uI _ (by rfl)).uI _ (by rfl)).uI _ (by rfl)).uI _ (by rfl)).uI _ (by rfl)).uI _ (by rfl)).uI _ (by rfl)).uI _ (by rfl))
  have z105 : gI cz 105 45 = 0 := by rw [hcz, gI_uI, if_neg (by decide), gI_uI, if_neg (by decide), gI_uI, if_neg (by decide), gI_uI, if_neg (by decide), gI_uI, if_neg (by decide), gI_uI, if_neg (by decide), gI_uI, if_neg (by decide), gI_uI, if_neg (by decide), gI_uI, if_neg (by decide), gI_uI, if_neg (by decide), gI_uI, if_neg (by decide), gI_uI, if_neg (by decide), gI_uI, if_neg (by decide), gI_uI, if_neg (by decide), gI_uI, if_neg (by decide), gI_uI, if_pos ⟨rfl, rfl⟩]
  have z106 : gI cz 106 45 = 1 := by rw [hcz, gI_uI, if_neg (by decide), gI_uI, if_neg (by decide), gI_uI, if_neg (by decide), gI_uI, if_neg (by decide), gI_uI, if_neg (by decide), gI_uI, if_neg (by decide), gI_uI, if_neg (by decide), gI_uI, if_neg (by decide), gI_uI, if_neg (by decide), gI_uI, if_neg (by decide), gI_uI, if_neg (by decide), gI_uI, if_neg (by decide), gI_uI, if_neg (by decide), gI_uI, if_neg (by decide), gI_uI, if_pos ⟨rfl, rfl⟩]
  have z107 : gI cz 107 45 = 0 := by rw [hcz, gI_uI, if_neg (by decide), gI_uI, if_neg (by decide), gI_uI, if_neg (by decide), gI_uI, if_neg (by decide), gI_uI, if_neg (by decide), gI_uI, if_neg (by decide), gI_uI, if_neg (by decide), gI_uI, if_neg (by decide), gI_uI, if_neg (by decide), gI_uI, if_neg (by decide), gI_uI, if_neg (by decide), gI_uI, if_neg (by decide), gI_uI, if_neg (by decide), gI_uI, if_pos ⟨rfl, rfl⟩]
  have z108 : gI cz 108 45 = 0 := by rw [hcz, gI_uI, if_neg (by decide), gI_uI, if_neg (by decide), gI_uI, if_neg (by decide), gI_uI, if_neg (by decide), gI_uI, if_neg (by decide), gI_uI, if_neg (by decide), gI_uI, if_neg (by decide), gI_uI, if_neg (by decide), gI_uI, if_neg (by decide), gI_uI, if_neg (by decide), gI_uI, if_neg (by decide), gI_uI, if_neg (by decide), gI_uI, if_pos ⟨rfl, rfl⟩]
  have z109 : gI cz 109 45 = 0 := by rw [hcz, gI_uI, if_neg (by decide), gI_uI, if_neg (by decide), gI_uI, if_neg (by decide), gI_uI, if_neg (by decide), gI_uI, if_neg (by decide), gI_uI, if_neg (by decide), gI_uI, if_neg (by decide), gI_uI, if_neg (by decide), gI_uI, if_neg (by decide), gI_uI, if_neg (by decide), gI_uI, if_neg (by decide), gI_uI, if_pos ⟨rfl, rfl⟩]
  have z110 : gI cz 110 45 = 0 := by rw [hcz, gI_uI, if_neg (by decide), gI_uI, if_neg (by decide), gI_uI, if_neg (by decide), gI_uI, if_neg (by decide), gI_uI, if_neg (by decide), gI_uI, if_neg (by decide), gI_uI, if_neg (by decide), gI_uI, if_neg (by decide), gI_uI, if_neg (by decide), gI_uI, if_neg (by decide), gI_uI, if_pos ⟨rfl, rfl⟩]
  have z111 : gI cz 111 45 = 0 := by rw [hcz, gI_uI, if_neg (by decide), gI_uI, if_neg (by decide), gI_uI, if_neg (by decide), gI_uI, if_neg (by decide), gI_uI, if_neg (by decide), gI_uI, if_neg (by decide), gI_uI, if_neg (by decide), gI_uI, if_neg (by decide), gI_uI, if_neg (by decide), gI_uI, if_pos ⟨rfl, rfl⟩]
  have z112 : gI cz 112 45 = 0 := by rw [hcz, gI_uI, if_neg (by decide), gI_uI, if_neg (by decide), gI_uI, if_neg (by decide), gI_uI, if_neg (by decide), gI_uI, if_neg (by decide), gI_uI, if_neg (by decide), gI_uI, if_neg (by decide), gI_uI, if_neg (by decide), gI_uI, if_pos ⟨rfl, rfl⟩]
  have z113 : gI cz 113 45 = 0 := by rw [hcz, gI_uI, if_neg (by decide), gI_uI, if_neg (by decide), gI_uI, if_neg (by decide), gI_uI, if_neg (by decide), gI_uI, if_neg (by decide), gI_uI, if_neg (by decide), gI_uI, if_neg (by decide), gI_uI, if_pos ⟨rfl, rfl⟩]
  have z114 : gI cz 114 45 = 0 := by rw [hcz, gI_uI, if_neg (by decide), gI_uI, if_neg (by decide), gI_uI, if_neg (by decide), gI_uI, if_neg (by decide), gI_uI, if_neg (by decide), gI_uI, if_neg (by decide), gI_uI, if_pos ⟨rfl, rfl⟩]
  have z115 : gI cz 115 45 = 0 := by rw [hcz, gI_uI, if_neg (by decide), gI_uI, if_neg (by decide), gI_uI, if_neg (by decide), gI_uI, if_neg (by decide), gI_uI, if_neg (by decide), gI_uI, if_pos ⟨rfl, rfl⟩]
  have z116 : gI cz 116 45 = 0 := by rw [hcz, gI_uI, if_neg (by decide), gI_uI, if_neg (by decide), gI_uI, if_neg (by decide), gI_uI, if_neg (by decide), gI_uI, if_pos ⟨rfl, rfl⟩]
  have z117 : gI cz 117 45 = 0 := by rw [hcz, gI_uI, if_neg (by decide), gI_uI, if_neg (by decide), gI_uI, if_neg (by decide), gI_uI, if_pos ⟨rfl, rfl⟩]
  have z118 : gI cz 118 45 = 0 := by rw [hcz, gI_uI, if_neg (by decide), gI_uI, if_neg (by decide), gI_uI, if_pos ⟨rfl, rfl⟩]
  have z119 : gI cz 119 45 = 0 := by rw [hcz, gI_uI, if_neg (by decide), gI_uI, if_pos ⟨rfl, rfl⟩]
  have z120 : gI cz 120 45 = -1 := by rw [hcz, gI_uI, if_pos ⟨rfl, rfl⟩]
  refine ⟨cz, ?_, ?_, EVq_mk ?_ ?_ ?_ ?_ ?_ ?_ ?_ ?_ ?_⟩
  · have turn2 : ∀ (K : Mm → Option (Unit × Mm)), (bd (f_X7_reset 46 c) fun _ T1 => bd (f_X7_turn 46 (nI f) (nI o) T1) fun _ T2 => K T2) = K c5 := fun K => by
      have h := turn
      cases e : f_X7_reset 46 c with
      | none => rw [e] at h; cases h
      | some q =>
        obtain ⟨u, c0⟩ := q
        rw [e, bd_eq] at h
        rw [bd_eq, h, bd_eq]
    unfold f_X1_reset
    show (bd (f_X7_reset 46 c) fun _ T1 => bd (f_X7_turn 46 (nI f) (nI o) T1) fun _ T2 => _) = _
    rw [turn2]
    rw [show 45 + 3 = 48 from rfl, r6, bd_eq, show 45 + 5 = 50 from rfl, r7, bd_eq, show 45 + 7 = 52 from rfl, r8, bd_eq, show 45 + 8 = 53 from rfl, r9, bd_eq]
    iterate 16 rw [lb_eq]
    rw [← hcz]
  · refine (((F5.weak (fun f i e => ?_) (fun _ _ => rfl)).trans (F6.weak (fun f i e => ?_) (fun a e => ?_))).trans (F69.weak (fun f i e => ?_) (fun a e => ?_))).trans (Fz.weak (fun f i e => ?_) (fun _ _ => rfl)) <;> (first | (have e9 := eF_i e; simp; omega) | (have e9 := eA_i e; simp; omega))
  · have f46 : ∀ k, gI cz k 46 = gI c5 k 46 := fun k => by rw [Fz.i rfl, F69.i rfl, F6.i rfl]
    have f48 : ∀ k, gI cz k 48 = gI c6 k 48 := fun k => by rw [Fz.i rfl, F69.i rfl]
    intro q hq
    simp only [envT, List.mem_cons, List.not_mem_nil, or_false] at hq
    rcases hq with rfl | rfl | rfl | rfl | rfl | rfl | rfl | rfl | rfl | rfl | rfl | rfl | rfl | rfl | rfl | rfl | rfl | rfl | rfl | rfl | rfl | rfl | rfl | rfl | rfl | rfl | rfl | rfl | rfl | rfl | rfl | rfl
    · exact (f46 700).trans ((o1 700 (by decide) (by decide) (by decide) (by decide) (by decide)).trans a700)
    · exact (f46 701).trans ((o1 701 (by decide) (by decide) (by decide) (by decide) (by decide)).trans a701)
    · exact (f46 702).trans b702
    · exact (f46 703).trans b703
    · exact (f46 704).trans ((o1 704 (by decide) (by decide) (by decide) (by decide) (by decide)).trans a704)
    · exact (f46 705).trans b705
    · exact (f46 708).trans ((o1 708 (by decide) (by decide) (by decide) (by decide) (by decide)).trans a708)
    · exact (f46 709).trans ((o1 709 (by decide) (by decide) (by decide) (by decide) (by decide)).trans a709)
    · exact (f46 710).trans ((o1 710 (by decide) (by decide) (by decide) (by decide) (by decide)).trans a710)
    · exact (f46 711).trans ((o1 711 (by decide) (by decide) (by decide) (by decide) (by decide)).trans a711)
    · exact (f46 706).trans b706
    · exact (f46 707).trans b707
    · exact z105
    · exact z106
    · exact z107
    · exact z108
    · exact z109
    · exact z110
    · exact z111
    · exact z112
    · exact z113
    · exact z114
    · exact z115
    · exact z116
    · exact z117
    · exact z118
    · exact z119
    · exact z120
    · exact (f48 400).trans q400
    · exact (f48 401).trans q401
    · exact (f48 404).trans q404
    · exact (f48 405).trans q405
  · rw [Fz.i rfl, F69.i rfl]; exact q402
  · rw [Fz.i rfl, F69.i rfl]; exact q403
  · intro h
    exact absurd (show (0 : Int32) = 1 from h) (by decide)
  · intro j _ h
    have : (gE f o 146).toInt = 0 := by
      show (0 : Int32).toInt = 0
      decide
    rw [this] at h; omega
  · intro i hi
    rw [Fz.a rfl, F69.a rfl, q49 _ (by omega), b_0]
    have key : ∀ f, f < 4 → ∀ o, o < 2 → ∀ k, k < 80 → gE f o (60 + k) = 0 := by decide +kernel
    rw [key f (by omega) o (by omega) (i / 8) (by omega), b_0]
  · exact t7.fr ((Fz.i rfl).trans ((F9.i rfl).trans (F8.i rfl))) ((Fz.i rfl).trans ((F9.i rfl).trans (F8.i rfl))) ((Fz.i rfl).trans ((F9.i rfl).trans (F8.i rfl))) ((Fz.b rfl).trans ((F9.b rfl).trans (F8.b rfl)))
  · intro k hk
    rw [Fz.a rfl, F9.a rfl, t8 k hk]
    have key : ∀ f, f < 4 → ∀ o, o < 2 → ∀ k, k < 8 → (if k = 7 then (-1 : Int32) else if k = 3 then 8 else if k = 2 then 720 else 0) = gE f o (12 + wpi k) := by decide +kernel
    exact key f (by omega) o (by omega) k hk
  · intro k hk
    rw [Fz.a rfl, t9 k hk]
    have key : ∀ f, f < 4 → ∀ o, o < 2 → ∀ k, k < 8 → (if k = 7 then (-1 : Int32) else if k = 3 then 8 else if k = 2 then 720 else 0) = gE f o (20 + wpi k) := by decide +kernel
    exact key f (by omega) o (by omega) k hk
end B4
