/-- the page goes to those that came -/
theorem m_came {h p : Nat} {w9 : Int32} (hh : h ≤ 800) (hp : p < 12) : ∀ (n i : Nat) (T : Mm), i ≤ 80 * h → 80 * h - i < n → gI T 1240 133 = nI p → (∀ j, j < i → ∀ b, b < 8 → bt (gA T 158 (p * 64000 + j)) b = bt (gA T 157 j) b) → ∃ T', f_X12_comes_l17 n w9 (nI h) (nI i) T = f_X12_comes_b17 (fun _ _ _ _ => none) w9 (nI h) (nI (80 * h)) T' ∧ Fr (fun _ _ => false) (fun a => a == 158) T T' ∧ (∀ j, j < 80 * h → ∀ b, b < 8 → bt (gA T' 158 (p * 64000 + j)) b = bt (gA T 157 j) b) ∧ ∀ j, j < p * 64000 → gA T' 158 j = gA T 158 j := by
  intro n
  induction n with
  | zero => intro i T _ h; omega
  | succ n ih =>
    intro i T hi hn e0 hz
    have e : f_X12_comes_l17 (n + 1) w9 (nI h) (nI i) T = f_X12_comes_b17 (f_X12_comes_l17 n) w9 (nI h) (nI i) T := rfl
    rcases Nat.lt_or_ge i (80 * h) with hlt | hge
    · rw [e]; unfold f_X12_comes_b17
      rw [show (80 : Int32) * nI h = nI (80 * h) from pk_mul 80 h, if_neg (nI_ge hlt (by omega)), ix_in (j := i) (nI_pos (by omega)) (nI_clamp (by omega)) (by omega), e0, show nI p * 64000 = nI (p * 64000) from pk_mul p 64000, nI_add, ix_in (j := p * 64000 + i) (nI_pos (by omega)) (nI_clamp (by omega)) (by omega), lb_eq, nI_1]
      obtain ⟨T', e2, f, g, g2⟩ := ih (i + 1) (uA T 158 (p * 64000 + i) ((gA T 157 i).toInt8.toInt32)) (by omega) (by omega) e0 (fun j hj b hb => by
        rw [gA_uA, gA_uA, if_neg (fun z => by omega : ¬ (157 = 158 ∧ j = p * 64000 + i))]
        by_cases q : j = i
        · rw [if_pos ⟨rfl, by omega⟩, q, i8_bt _ hb]
        · rw [if_neg (fun z => by omega)]; exact hz j (by omega) b hb)
      refine ⟨T', ?_, Fr.trans (Fr.refl.uA _ _ rfl) f, fun j hj b hb => ?_, fun j hj => ?_⟩
      · rw [e2]; unfold f_X12_comes_b17; rw [show (80 : Int32) * nI h = nI (80 * h) from pk_mul 80 h]
      · rw [g j hj b hb, gA_uA, if_neg (fun z => by omega)]
      · rw [g2 j hj, gA_uA, if_neg (fun z => by omega)]
    · have : i = 80 * h := by omega
      subst this
      refine ⟨T, ?_, Fr.refl, hz, fun _ _ => rfl⟩
      rw [e]; unfold f_X12_comes_b17
      rw [show (80 : Int32) * nI h = nI (80 * h) from pk_mul 80 h, if_pos (Int32.le_refl _), if_pos (Int32.le_refl _)]
def CQ2 (c0 m0 : Mm) : Unit → Mm → Unit → Mm → Prop := fun _ c' _ m' => (∃ y, gI c' 603 5 = cI y ∧ gI m' 1233 133 = cI y ∧ (y = false → Sh c' m')) ∧ Fr cShF cShA c0 c' ∧ Fr mShF mShA m0 m'
theorem Pg.fr {c c' m m' : Mm} {i : Nat} (h : Pg c m i) (e1 : gA c' 7 = gA c 7) (e2 : gA c' 8 = gA c 8) (e3 : gA c' (10 + i) = gA c (10 + i)) (e4 : gA m' 159 i = gA m 159 i) (e5 : gA m' 160 i = gA m 160 i) (e6 : ∀ j, j < (i + 1) * 64000 → gA m' 158 j = gA m 158 j) : Pg c' m' i := by
  obtain ⟨w, h, a1, a2, a3, a4, a5, a6, a7, a8, a9, a10⟩ := h
  exact ⟨w, h, a1, a2, a3, a4, by rw [e1]; exact a5, by rw [e2]; exact a6, by rw [e4]; exact a7, by rw [e5]; exact a8, fun y hy x hx => by rw [e3, e6 _ (by omega)]; exact a9 y hy x hx, fun y hy x q1 q2 => by rw [e3]; exact a10 y hy x q1 q2⟩
theorem kq_dots : ∀ j, j < 13 → kS true (10 + j) = 14 ∧ LN (10 + j) = 16000 := by decide +kernel
theorem next_page {p : Nat} {c : Mm} (hp : p ≤ 12) (e : gI c 602 5 = nI p) : f_X6_nextPage c = some (10 + p, c) := by
  unfold f_X6_nextPage
  rw [e, f_min, bd_eq, f_max, bd_eq, show (12 : Int32) = nI 12 from rfl, if_neg (nI_nlt (by omega) (by omega)), show (0 : Int32) = nI 0 from rfl]
  have : (if nI 0 < nI p then nI p else nI 0) = nI p := by
    rcases Nat.eq_zero_or_pos p with h | h
    · subst h; rw [if_neg (by decide)]
    · rw [if_pos (nI_lt h (by omega))]
  rw [this, ix_in (j := p) (nI_pos (by omega)) (nI_clamp (by omega)) (by omega)]
theorem P2_come {w h p : Nat} {c m : Mm} (hS : Sh c m) (e0 : gI c 602 5 = nI p) (hp12 : p ≤ 12) (hT : Tab m) (hw1 : 1 ≤ w) (hw : w ≤ 640) (hh1 : 1 ≤ h) (hh : h ≤ 800)
    (hpp : (∀ y, y < h → ∀ x, x < w → bt (gA m 157 (80 * y + x / 8)) (7 - x % 8) = dotW (gA c (10 + p)) (20 * y) x) ∧ (∀ y, y < h → ∀ x, w ≤ x → x < 640 → dotW (gA c (10 + p)) (20 * y) x = false)) :
    P2 (f_X6_come (nI w) (nI h) c) (f_X12_comes (nI w) (nI h) m) (CQ2 c m) := by
  obtain ⟨s, p', hW, e0', e00, hp', hpg, hlk, hs0⟩ := hS
  have epp : p' = p := by rw [e0'] at e0; exact (nI_eq (by omega) (by omega)).mp e0
  subst epp
  clear e0' hp'
  unfold f_X6_come f_X12_comes
  rw [e0, if_neg (nI_pos (by omega)), show (12 : Int32) = nI 12 from rfl, e00]
  rcases Nat.lt_or_ge p' 12 with hp | hp
  · have hn12 : ¬ nI p' = nI 12 := fun q => by rw [nI_eq (by omega) (by omega)] at q; omega
    rw [if_pos (nI_lt hp (by omega)), if_neg hn12, show (0 : Int32) = nI 0 from rfl]
    obtain ⟨m1, e1, f1, g1, g2⟩ := m_came (w9 := nI w) hh hp FU 0 m (by omega) (FU_gt (by omega)) e00 (fun j hj => by omega)
    rw [e1]
    unfold f_X12_comes_b17
    rw [show (80 : Int32) * nI h = nI (80 * h) from pk_mul 80 h, if_pos (Int32.le_refl _), f1.i rfl, e00, ix_in (j := p') (nI_pos (by omega)) (nI_clamp (by omega)) hp, lb_eq, gI_uA, f1.i rfl, e00, ix_in (j := p') (nI_pos (by omega)) (nI_clamp (by omega)) hp, lb_eq, lb_eq, gI_uA, gI_uA, f1.i rfl, e00, nI_1]
    have fm2 : Fr mShF mShA m (uI (uA (uA m1 159 p' (nI w)) 160 p' (nI h)) 1240 133 (nI (p' + 1))) := Fr.trans (f1.weak (fun _ _ _ => rfl) (fun a e => by simp only [mShA] at e; simp_all)) (((Fr.refl.uA _ _ rfl).uA _ _ rfl).uI _ rfl)
    generalize hm2 : uI (uA (uA m1 159 p' (nI w)) 160 p' (nI h)) 1240 133 (nI (p' + 1)) = m2 at fm2
    have k1240 : gI m2 1240 133 = nI (p' + 1) := by rw [← hm2, gI_uI, if_pos ⟨rfl, rfl⟩]
    have k159 : ∀ j, gA m2 159 j = if j = p' then nI w else gA m 159 j := fun j => by
      rw [← hm2, gA_uI, gA_uA, if_neg (by omega), gA_uA, f1.a rfl]; simp
    have k160 : ∀ j, gA m2 160 j = if j = p' then nI h else gA m 160 j := fun j => by
      rw [← hm2, gA_uI, gA_uA, gA_uA, f1.a rfl]; simp
    have k158 : gA m2 158 = gA m1 158 := funext fun j => by rw [← hm2, gA_uI, gA_uA, if_neg (by omega), gA_uA, if_neg (by omega)]
    have ko : ∀ a, a ≠ 158 → a ≠ 159 → a ≠ 160 → gA m2 a = gA m a := fun a h1 h2 h3 => funext fun j => by rw [← hm2, gA_uI, gA_uA, if_neg (by omega), gA_uA, if_neg (by omega), f1.a (by simp [h1])]
    have kf : ∀ f, f ≠ 1240 → gI m2 f 133 = gI m f 133 := fun f h1 => by rw [← hm2, gI_uI, if_neg (by omega), gI_uA, gI_uA, f1.i rfl]
    have W2 : WR 0 s false c m2 := ⟨hW.1, by rw [kf _ (by decide)]; exact hW.2.1, hW.2.2.1, by rw [ko 161 (by decide) (by decide) (by decide)]; exact hW.2.2.2.1, hW.2.2.2.2.1, by rw [kf _ (by decide)]; exact hW.2.2.2.2.2.1, Nat.zero_le _⟩
    have hT2 : Tab m2 := by unfold Tab; rw [ko 165 (by decide) (by decide) (by decide), ko 166 (by decide) (by decide) (by decide)]; exact hT
    have hpp2 : (∀ y, y < h → ∀ x, x < w → bt (gA m2 158 (p' * 64000 + 80 * y + x / 8)) (7 - x % 8) = dotW (gA c (10 + p')) (20 * y) x) := fun y hy x hx => by
      rw [k158, Nat.add_assoc, g1 (80 * y + x / 8) (by omega) _ (by omega)]; exact hpp.1 y hy x hx
    have hpg2 : ∀ i, i < p' → Pg c m2 i := fun i hi => (hpg i hi).fr rfl rfl rfl (by rw [k159, if_neg (by omega)]) (by rw [k160, if_neg (by omega)]) (fun j hj => by rw [k158, g2 j (Nat.lt_of_lt_of_le hj (Nat.mul_le_mul_right _ hi))])
    -- behind the head
    have body : ∀ (c3 m3 : Mm) (s3 l : Nat), WR 0 s3 false c3 m3 → l + 4 ≤ s3 → gI c3 607 5 = nI l → gI m3 1266 133 = nI l → Fr (fun f i => i == 5 && (f == 601 || f == 603 || f == 607)) cOutA c c3 → Fr (fun f i => i == 133 && (f == 1242 || f == 1233 || f == 1266)) mOutA m2 m3 → P2 (f_X6_come_50 (nI w) (nI h) c3) (bd (f_X12_written_38 (nI p') m3) fun _ T8 => some ((), T8)) (CQ2 c m) := by
      intro c3 m3 s3 l W3 hl q1 q2 fc3 fm3
      have hbd : (bd (f_X12_written_38 (nI p') m3) fun _ T8 => some ((), T8)) = f_X12_written_38 (nI p') m3 := by
        cases f_X12_written_38 (nI p') m3 with
        | none => rfl
        | some q => rfl
      rw [hbd]
      unfold f_X6_come_50 f_X12_written_38
      rw [lb_eq, lb_eq, lb_eq, lb_eq, W3.1, W3.2.1]
      have n1 : gI (uI (uI c3 608 5 0) 609 5 0) 602 5 = nI p' := by rw [gI_uI, if_neg (by decide), gI_uI, if_neg (by decide), fc3.i rfl]; exact e0
      rw [next_page (by omega) n1, bd_eq, gd_eq (kq_dots p' (by omega)).1]
      have t1 : gA m3 159 p' = nI w := by rw [fm3.a rfl, k159, if_pos rfl]
      have t2 : gA m3 160 p' = nI h := by rw [fm3.a rfl, k160, if_pos rfl]
      rw [ix_in (j := p') (nI_pos (by omega)) (nI_clamp (by omega)) hp, lb_eq, lb_eq, lb_eq, t1]
      have fm4 : Fr mShF mShA m3 (uI (uI (uI m3 1260 133 (nI w)) 1264 133 0) 1265 133 0) := ((Fr.refl.uI _ rfl).uI _ rfl).uI _ rfl
      have u60 : gI (uI (uI (uI m3 1260 133 (nI w)) 1264 133 0) 1265 133 0) 1260 133 = nI w := by rw [gI_uI, if_neg (by decide), gI_uI, if_neg (by decide), gI_uI, if_pos ⟨rfl, rfl⟩]
      obtain ⟨m5, e5, f5, g5⟩ := m_zero hw (a1 := nI p') (a2 := nI s3) FU 0 (uI (uI (uI m3 1260 133 (nI w)) 1264 133 0) 1265 133 0) (by omega) (FU_gt (by omega)) u60 (fun j hj => by omega)
      rw [show (0 : Int32) = nI 0 from rfl] at *
      rw [e5]
      have fc5 : Fr cBitF cOutA c3 (uI (uI c3 608 5 (nI 0)) 609 5 (nI 0)) := (Fr.refl.uI _ rfl).uI _ rfl
      have W5 : WR s3 s3 false (uI (uI c3 608 5 (nI 0)) 609 5 (nI 0)) m5 := (WR.fr (W3.z (Nat.le_refl s3)) (PF := fun f i => i == 5 && (f == 608 || f == 609)) (PA := fun _ => false) (QF := fun f i => i == 133 && (f == 1260 || f == 1264 || f == 1265)) (QA := fun _ => false) ((Fr.refl.uI _ rfl).uI _ rfl) (((Fr.refl.uI _ rfl).uI _ rfl).uI _ rfl) rfl rfl rfl rfl rfl rfl).fr (PF := fun _ _ => false) (PA := fun _ => false) Fr.refl f5 rfl rfl rfl rfl rfl rfl
      have X5 : WX s3 (uI (uI c3 608 5 (nI 0)) 609 5 (nI 0)) m5 := by
        refine ⟨⟨s3, false, W5⟩, 0, 0, by decide, by decide, ?_, ?_, ?_, by rw [Nat.pow_zero, Nat.mod_one]⟩
        · rw [gI_uI, if_pos ⟨rfl, rfl⟩]
        · rw [f5.i rfl, gI_uI, if_neg (by decide), gI_uI, if_pos ⟨rfl, rfl⟩]
        · rw [f5.i rfl, gI_uI, if_pos ⟨rfl, rfl⟩]
      have fm5 : Fr mShF mShA m2 m5 := Fr.trans (fm3.weak (fun g i e => by simp only [mShF] at e; simp_all) (fun a e => by simp only [mShA, mOutA] at *; simp_all)) (fm4.trans (f5.weak (fun _ _ _ => rfl) (fun a e => by simp only [mShA] at e; simp_all)))
      have ea : gA (uI (uI c3 608 5 (nI 0)) 609 5 (nI 0)) (10 + p') = gA c (10 + p') := by
        show gA c3 (10 + p') = _
        exact fc3.a (by simp [cOutA]; omega)
      have m5o : ∀ a, a ≠ 161 → a ≠ 167 → gA m5 a = gA m2 a := fun a h1 h2 => by
        rw [f5.a (by simp [h2])]; exact fm3.a (by simp [mOutA, h1])
      refine P2_rows (a := 10 + p') (by omega) (kq_dots p' (by omega)).2 hp hw hw1 hh (c0 := uI (uI c3 608 5 (nI 0)) 609 5 (nI 0)) (m0 := m5) ?_ FU FU 0 _ m5 (FU_gt (by omega)) (FU_gt (by omega)) (Nat.zero_le _) Fr.refl Fr.refl X5 ?_ ((f5.i rfl).trans u60) (by rw [m5o 160 (by decide) (by decide), k160, if_pos rfl]) (fun y hy x hx => by rw [m5o 158 (by decide) (by decide), ea]; exact hpp2 y hy x hx) (fun x hx => by rw [g5 x hx, if_pos rfl]; rfl)
      · intro c6 m6 f6 g6 X6
        have ca : ∀ a, a ≠ 6 → gA c6 a = gA c a := fun a h1 => by
          rw [f6.a (by simp [cOutA, h1])]; exact fc3.a (by simp [cOutA, h1])
        have ma : ∀ a, a ≠ 161 → a ≠ 167 → a ≠ 168 → gA m6 a = gA m2 a := fun a h1 h2 h3 => by
          rw [g6.a (by simp [mWrA, h1, h2, h3]), m5o a h1 h2]
        have ff : ∀ f, f = 602 ∨ f = 607 → gI c6 f 5 = gI c3 f 5 := fun f hf => by
          rcases hf with rfl | rfl <;> (rw [f6.i rfl, gI_uI, if_neg (by decide), gI_uI, if_neg (by decide)])
        refine P2_mono (P2_tail (l := l) (c0 := c) (m0 := m) hp hw1 hw hh1 hh hl X6 ?_ ?_ ((ff 602 (Or.inl rfl)).trans ((fc3.i rfl).trans e0)) ?_ ((ff 607 (Or.inr rfl)).trans q1) ?_ ?_ ?_ ?_ ?_ ?_) ?_
        · exact (cS fc3 (fun g i e => by simp_all)).trans (Fr.trans (((Fr.refl.uI _ rfl).uI _ rfl)) (cS f6 (fun g i e => by simp only [cBitF] at e; simp_all)))
        · exact fm2.trans (fm5.trans (g6.weak (fun g i e => by simp only [mShF, mWrF] at *; simp_all) (fun a e => by simp only [mShA, mWrA] at *; simp_all)))
        · rw [g6.i rfl, f5.i rfl, gI_uI, if_neg (by decide), gI_uI, if_neg (by decide), gI_uI, if_neg (by decide), fm3.i rfl]; exact k1240
        · rw [g6.i rfl, f5.i rfl, gI_uI, if_neg (by decide), gI_uI, if_neg (by decide), gI_uI, if_neg (by decide)]; exact q2
        · rw [g6.i rfl, f5.i rfl]; exact u60
        · rw [ma 160 (by decide) (by decide) (by decide), k160, if_pos rfl]
        · rw [ma 159 (by decide) (by decide) (by decide), k159, if_pos rfl]
        · intro i hi
          exact (hpg2 i hi).fr (ca 7 (by decide)) (ca 8 (by decide)) (ca _ (by omega)) (by rw [ma 159 (by decide) (by decide) (by decide)]) (by rw [ma 160 (by decide) (by decide) (by decide)]) (fun j _ => by rw [ma 158 (by decide) (by decide) (by decide)])
        · refine ⟨fun y hy x hx => ?_, fun y hy x h1 h2 => ?_⟩
          · rw [ma 158 (by decide) (by decide) (by decide), ca _ (by omega)]; exact hpp2 y hy x hx
          · rw [ca _ (by omega)]; exact hpp.2 y hy x h1 h2
        · rintro _ c7 _ m7 ⟨⟨y, r1, r2, _, r4⟩, r5, r6⟩
          exact ⟨⟨y, r1, r2, r4⟩, r5, r6⟩
      · exact hT2.fr fm5 rfl rfl
    unfold f_X12_written
    rw [k1240, nI_pred, show (0 : Int32) = nI 0 from rfl]
    by_cases h0 : p' = 0
    · subst h0
      have hs := hs0 rfl
      subst hs
      rw [if_pos rfl, if_pos rfl, bd_assoc]
      rw [show f_X6_putNumber 2771273 4 c = f_X6_putNumber_l2 (3999999995 + 1 + 1 + 1 + 1 + 1) (nI 2771273) (nI 4) (nI 0) c from rfl, num_step (by omega) (by omega), bd_assoc]
      refine P2_bd (P2_byteS W2 (by decide)) ?_
      rintro _ c3 _ m3 ⟨⟨s3, y3, W3, _, z3⟩, f3, g3⟩
      obtain ⟨rfl, rfl⟩ := z3 (by omega)
      rw [num_step (by omega) (by omega), bd_assoc, bd_assoc]
      refine P2_bd (P2_byteS W3 (by decide)) ?_
      rintro _ c4 _ m4 ⟨⟨s4, y4, W4, _, z4⟩, f4, g4⟩
      obtain ⟨rfl, rfl⟩ := z4 (by omega)
      rw [num_step (by omega) (by omega), bd_assoc, bd_assoc]
      rw [show f_X12_outNumber 2 42 m4 = f_X12_outNumber_l3 (3999999997 + 1 + 1 + 1) (nI 2) (lN 42) (nI 0) m4 from rfl, onum_step (by omega) (by omega), bd_assoc]
      refine P2_bd (P2_byteS W4 (by decide)) ?_
      rintro _ c5 _ m5 ⟨⟨s5, y5, W5, _, z5⟩, f5, g5⟩
      obtain ⟨rfl, rfl⟩ := z5 (by omega)
      rw [num_step (by omega) (by omega), bd_assoc, onum_step (by omega) (by omega), bd_assoc]
      refine P2_bd (P2_byteS W5 (by decide)) ?_
      rintro _ c6 _ m6 ⟨⟨s6, y6, W6, _, z6⟩, f6, g6⟩
      obtain ⟨rfl, rfl⟩ := z6 (by omega)
      rw [show 0 + 1 + 1 + 1 + 1 = 4 from rfl, num_end, onum_end, bd_eq, bd_eq, lb_eq]
      rw [lb_eq, W6.1, W6.2.1, bd_assoc]
      have W7 : WR 0 4 false (uI c6 607 5 (nI 4)) (uI m6 1266 133 (nI 4)) := W6.fr (PF := fun f i => i == 5 && f == 607) (PA := fun _ => false) (QF := fun f i => i == 133 && f == 1266) (QA := fun _ => false) (Fr.refl.uI _ rfl) (Fr.refl.uI _ rfl) rfl rfl rfl rfl rfl rfl
      refine P2_bd (P2_num4S (N := 0) (by omega) W7) ?_
      rintro _ c8 _ m8 ⟨⟨s8, y8, W8, _, z8⟩, f8, g8⟩
      obtain ⟨rfl, rfl⟩ := z8 (by omega)
      have fo : ∀ {a b : Mm}, Fr cOutF cOutA a b → Fr (fun f i => i == 5 && (f == 601 || f == 603 || f == 607)) cOutA a b := fun f => f.weak (fun g i e => by simp only [cOutF] at *; simp_all) (fun _ e => e)
      have mo : ∀ {a b : Mm}, Fr mOutF mOutA a b → Fr (fun f i => i == 133 && (f == 1242 || f == 1233 || f == 1266)) mOutA a b := fun f => f.weak (fun g i e => by simp only [mOutF] at *; simp_all) (fun _ e => e)
      refine body c8 m8 8 4 W8 (by omega) ((f8.i rfl).trans ?_) ((g8.i rfl).trans ?_) (((fo f3).trans ((fo f4).trans ((fo f5).trans (fo f6)))).trans (Fr.trans (Fr.refl.uI _ rfl) (fo f8))) (((mo g3).trans ((mo g4).trans ((mo g5).trans (mo g6)))).trans (Fr.trans (Fr.refl.uI _ rfl) (mo g8)))
      · rw [gI_uI, if_pos ⟨rfl, rfl⟩]
      · rw [gI_uI, if_pos ⟨rfl, rfl⟩]
    · obtain ⟨l, q1, q2, q3⟩ := hlk (by omega)
      have h9 : ¬ nI p' = nI 0 := fun q => by rw [nI_eq (by omega) (by omega)] at q; omega
      rw [if_neg h9, if_neg h9]
      exact body c m2 s l W2 q3 q1 ((kf _ (by decide)).trans q2) Fr.refl Fr.refl
  · have : p' = 12 := by omega
    subst this
    rw [if_neg (by decide), if_pos rfl]
    refine P2_ret ⟨⟨true, ?_, ?_, fun e => by cases e⟩, Fr.refl.uI _ rfl, Fr.refl.uI _ rfl⟩
    · rw [gI_uI, if_pos ⟨rfl, rfl⟩]; rfl
    · rw [gI_uI, if_pos ⟨rfl, rfl⟩]; rfl
