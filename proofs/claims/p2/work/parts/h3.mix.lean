/-! Rows of data mixed, and as changes, on both sides. -/
section H3
variable {c c' c0 c1 c2 c3 m m' m0 m1 m2 m3 T M' : Mm} {d w b A o M o' n p r q a i s f k u h rb t v fl cnt : Nat} {F : Nat → Nat} {ov ov' ng sg z : Bool} {g L : Nat → Int32} {Gc Gm : Gty} {PF QF : Nat → Nat → Bool} {PA QA : Nat → Bool}
theorem UP.one {T W T' W' : Mm} {fl : Nat} (h : UP z fl c m T W) (hv : v < 256) (fc : Fr nF a49 T T') (fm : Fr f55 a134 W W') (hc : ∀ i, i < 640 → rwC T' i = if fl ≤ i / 8 ∧ i / 8 < fl + 1 then v.testBit (7 - i % 8) else rwC T i) (e : gI W' 1255 133 = nI (fl + 1)) (hm : ∀ j, gA W' 134 j = if j = 60 + fl ∧ fl < 80 then nI v else gA W 134 j) : UP z (fl + 1) c m T' W' := h.more (cnt := 1) hv fc fm hc e (fun j => by
  rw [hm]
  by_cases y : j = 60 + fl ∧ fl < 80
  · rw [if_pos y, if_pos (by omega)]
  · rw [if_neg y, if_neg (by omega)])
theorem iz_m1' {a : Int} : iz a + (-1) = iz (a - 1) := by
  rw [show (-1 : Int32) = iz (-1) by decide, iz_add]; rfl
theorem litm2 {K : Nat → Nat → Int32 → Int32 → Mm → Option (Unit × Mm)} {K' : Int32 → Int32 → Mm → Option (Unit × Mm)} (h4 : DT c m d A o M o' n F p s) (hd : d ≤ 3) (hv : v < 1000) : ∀ (N N' x i fl : Nat) (T W : Mm), v + 1 - x < N → v + 1 - x < N' → x ≤ v + 1 → i < s → fl ≤ 300 * i + 300 → UP z fl c m T W → ∃ T' W' fl' i', f_X4_unpackMixed_l31 K N 48 (125 + d) (nI fl) (nI i) (iz ((v : Int) - x)) T = K 48 (125 + d) (nI fl') (nI (i' + 1)) T' ∧ f_X12_unpack_l136 K' N' (nI s) (nI (i + 1)) (nI v) (nI x) W = K' (nI s) (nI (i' + 1)) W' ∧ UP z fl' c m T' W' ∧ i ≤ i' ∧ i' < s ∧ fl' ≤ 300 * (i' + 1) := by
  have n1 := h4.1.n1
  have hps := h4.2.2.2.1
  intro N
  induction N with
  | zero => intro N' x i fl T W h; omega
  | succ N ih =>
    intro N' x i fl T W h1 h2 h3 hi hfl h5
    cases N' with
    | zero => omega
    | succ N' =>
      have d1 := h4.up h5.1 h5.2.1
      have en : iz ((v : Int) - x) < 0 ↔ (v : Int) - x < 0 := by rw [iz_nn (by omega) (by omega)]
      show ∃ T' W' fl' i', f_X4_unpackMixed_b31 K (f_X4_unpackMixed_l31 K N) 48 (125 + d) (nI fl) (nI i) (iz ((v : Int) - x)) T = _ ∧ f_X12_unpack_b136 K' (f_X12_unpack_l136 K' N') (nI s) (nI (i + 1)) (nI v) (nI x) W = _ ∧ _
      unfold f_X4_unpackMixed_b31 f_X12_unpack_b136
      rw [d1.2.2.1, show nI i + 1 = nI (i + 1) from nI_add i 1]
      by_cases q : v + 1 ≤ x
      · rw [if_pos (en.mpr (by omega)), if_pos (show nI v < nI x from nI_lt q (by omega))]
        exact ⟨T, W, fl, i, rfl, rfl, h5, by omega, hi, by omega⟩
      · rw [if_neg (fun y => by have := en.mp y; omega), if_neg (show ¬ nI v < nI x from nI_nlt (by omega) (by omega))]
        by_cases q2 : s ≤ i + 1
        · rw [if_pos (nI_le q2 (by omega)), if_pos (nI_le q2 (by omega))]
          exact ⟨T, W, fl, i, rfl, rfl, h5, by omega, hi, by omega⟩
        · have g1 := h4.1.g (p + (i + 1))
          obtain ⟨T1, f1, f2, f3⟩ := c_put (c := T) (pl := fl) (cnt := 1) g1 (by omega) (by omega)
          have f1' : f_X4_put 48 (nI fl) (nI (F (p + (i + 1)))) 1 T = some ((), T1) := f1
          obtain ⟨W1, e1, e2, e3, e4⟩ := m_fill1 g1 (by omega) h5.2.2.2.2
          rw [if_neg (nI_ge (by omega) (by omega)), if_neg (nI_ge (by omega) (by omega)), c_data1 d1 (by omega), bd_eq, m_data1 d1 hd (by omega), bd_eq, f1', bd_eq, e1, bd_eq, show nI fl + 1 = nI (fl + 1) from nI_add fl 1, show nI (i + 1) + 1 = nI (i + 1 + 1) from nI_add _ 1, show nI x + 1 = nI (x + 1) from nI_add x 1, iz_m1', show (v : Int) - x - 1 = (v : Int) - ((x + 1 : Nat) : Int) by omega]
          obtain ⟨T', W', fl', i', u1, u2, u3, u4, u5, u6⟩ := ih N' (x + 1) (i + 1) (fl + 1) T1 W1 (by omega) (by omega) (by omega) (by omega) (by omega) (h5.one g1 f2 e2 f3 e3 e4)
          exact ⟨T', W', fl', i', u1, u2, u3, by omega, u5, u6⟩
theorem litm3 {K : Nat → Nat → Int32 → Int32 → Mm → Option (Unit × Mm)} {K' : Int32 → Int32 → Mm → Option (Unit × Mm)} (h4 : DT c m d A o M o' n F p s) (hd : d ≤ 3) (hv : v < 1000) : ∀ (N N' x i fl : Nat) (T W : Mm), v + 1 - x < N → v + 1 - x < N' → x ≤ v + 1 → i < s → fl ≤ 600 * i + 300 → UP z fl c m T W → ∃ T' W' fl' i', f_X4_unpackChanges_l91 K N 48 (125 + d) (nI fl) (nI i) (iz ((v : Int) - x)) T = K 48 (125 + d) (nI fl') (nI (i' + 1)) T' ∧ f_X12_changed_l103 K' N' (nI s) (nI (i + 1)) (nI (v + 1)) (nI x) W = K' (nI s) (nI (i' + 1)) W' ∧ UP z fl' c m T' W' ∧ i ≤ i' ∧ i' < s ∧ fl' ≤ 600 * (i' + 1) := by
  have n1 := h4.1.n1
  have hps := h4.2.2.2.1
  intro N
  induction N with
  | zero => intro N' x i fl T W h; omega
  | succ N ih =>
    intro N' x i fl T W h1 h2 h3 hi hfl h5
    cases N' with
    | zero => omega
    | succ N' =>
      have d1 := h4.up h5.1 h5.2.1
      have en : iz ((v : Int) - x) < 0 ↔ (v : Int) - x < 0 := by rw [iz_nn (by omega) (by omega)]
      show ∃ T' W' fl' i', f_X4_unpackChanges_b91 K (f_X4_unpackChanges_l91 K N) 48 (125 + d) (nI fl) (nI i) (iz ((v : Int) - x)) T = _ ∧ f_X12_changed_b103 K' (f_X12_changed_l103 K' N') (nI s) (nI (i + 1)) (nI (v + 1)) (nI x) W = _ ∧ _
      unfold f_X4_unpackChanges_b91 f_X12_changed_b103
      rw [d1.2.2.1, show nI i + 1 = nI (i + 1) from nI_add i 1]
      by_cases q : v + 1 ≤ x
      · rw [if_pos (en.mpr (by omega)), if_pos (show nI (v + 1) ≤ nI x from nI_le q (by omega))]
        exact ⟨T, W, fl, i, rfl, rfl, h5, by omega, hi, by omega⟩
      · rw [if_neg (fun y => by have := en.mp y; omega), if_neg (show ¬ nI (v + 1) ≤ nI x from nI_ge (by omega) (by omega))]
        by_cases q2 : s ≤ i + 1
        · rw [if_pos (nI_le q2 (by omega)), if_pos (nI_le q2 (by omega))]
          exact ⟨T, W, fl, i, rfl, rfl, h5, by omega, hi, by omega⟩
        · have g1 := h4.1.g (p + (i + 1))
          obtain ⟨T1, f1, f2, f3⟩ := c_put (c := T) (pl := fl) (cnt := 1) g1 (by omega) (by omega)
          have f1' : f_X4_put 48 (nI fl) (nI (F (p + (i + 1)))) 1 T = some ((), T1) := f1
          obtain ⟨W1, e1, e2, e3, e4⟩ := m_fill1 g1 (by omega) h5.2.2.2.2
          rw [if_neg (nI_ge (by omega) (by omega)), if_neg (nI_ge (by omega) (by omega)), c_data1 d1 (by omega), bd_eq, m_data1 d1 hd (by omega), bd_eq, f1', bd_eq, e1, bd_eq, show nI fl + 1 = nI (fl + 1) from nI_add fl 1, show nI (i + 1) + 1 = nI (i + 1 + 1) from nI_add _ 1, show nI x + 1 = nI (x + 1) from nI_add x 1, iz_m1', show (v : Int) - x - 1 = (v : Int) - ((x + 1 : Nat) : Int) by omega]
          obtain ⟨T', W', fl', i', u1, u2, u3, u4, u5, u6⟩ := ih N' (x + 1) (i + 1) (fl + 1) T1 W1 (by omega) (by omega) (by omega) (by omega) (by omega) (h5.one g1 f2 e2 f3 e3 e4)
          exact ⟨T', W', fl', i', u1, u2, u3, by omega, u5, u6⟩
theorem two_mode2 (h4 : DT c m d A o M o' n F p s) (hd : d ≤ 3) : ∀ (N N' i fl : Nat) (T W : Mm), s - i < N → s - i < N' → i ≤ s → fl ≤ 300 * i → UP true fl c m T W → ∃ T' W', f_X4_unpackMixed_l4 N 48 (125 + d) (nI fl) (nI i) T = some ((), T') ∧ f_X12_unpack_l112 N' (nI s) (nI i) W = some ((), W') ∧ UE c m T' W' := by
  have n1 := h4.1.n1
  have hps := h4.2.2.2.1
  intro N
  induction N with
  | zero => intro N' i fl T W h; omega
  | succ N ih =>
    intro N' i fl T W h1 h2 h3 hfl h5
    cases N' with
    | zero => omega
    | succ N' =>
      have d1 := h4.up h5.1 h5.2.1
      show ∃ T' W', f_X4_unpackMixed_b4 (f_X4_unpackMixed_l4 N) 48 (125 + d) (nI fl) (nI i) T = _ ∧ f_X12_unpack_b112 (f_X12_unpack_l112 N') (nI s) (nI i) W = _ ∧ _
      unfold f_X4_unpackMixed_b4 f_X12_unpack_b112
      rw [d1.2.2.1]
      by_cases q : s ≤ i
      · rw [if_pos (nI_le q (by omega)), if_pos (nI_le q (by omega))]
        obtain ⟨W', x1, x2⟩ := m_white9 h5 (by omega)
        exact ⟨T, W', rfl, x1, x2⟩
      · have g0 := h4.1.g (p + i)
        rw [if_neg (nI_ge (by omega) (by omega)), if_neg (nI_ge (by omega) (by omega)), c_data1 d1 (by omega), bd_eq, m_data1 d1 hd (by omega), bd_eq, show nI i + 1 = nI (i + 1) from nI_add i 1]
        by_cases q1 : 128 ≤ F (p + i)
        · rw [if_pos (show (128 : Int32) ≤ nI (F (p + i)) from nI_le (a := 128) q1 (by omega)), if_pos (show (128 : Int32) ≤ nI (F (p + i)) from nI_le (a := 128) q1 (by omega))]
          by_cases q2 : F (p + i) ≤ 128
          · rw [if_pos (show nI (F (p + i)) ≤ 128 from nI_le (b := 128) q2 (by omega)), if_pos (show nI (F (p + i)) ≤ 128 from nI_le (b := 128) q2 (by omega))]
            exact ih N' (i + 1) fl T W (by omega) (by omega) (by omega) (by omega) h5
          · rw [if_neg (show ¬ nI (F (p + i)) ≤ 128 from nI_ge (a := 128) (by omega) (by omega)), if_neg (show ¬ nI (F (p + i)) ≤ 128 from nI_ge (a := 128) (by omega) (by omega)), d1.2.2.1]
            by_cases q3 : s ≤ i + 1
            · rw [if_pos (nI_le q3 (by omega)), if_pos (nI_le q3 (by omega))]
              exact ih N' (i + 1) fl T W (by omega) (by omega) (by omega) (by omega) h5
            · have g1 := h4.1.g (p + (i + 1))
              rw [if_neg (nI_ge (by omega) (by omega)), if_neg (nI_ge (by omega) (by omega)), c_data1 d1 (by omega), bd_eq, show (257 : Int32) - nI (F (p + i)) = nI (257 - F (p + i)) from pk_sub (a := 257) (by omega)]
              obtain ⟨T1, f1, f2, f3⟩ := c_put (c := T) (pl := fl) (cnt := 257 - F (p + i)) g1 (by omega) (by omega)
              rw [f1, bd_eq, nI_add, lb_eq, show nI (i + 1) + 1 = nI (i + 2) from nI_add _ 1]
              obtain ⟨W1, e1, e2, e3, e4⟩ := fills (m := W) (v := F (p + (i + 1))) (fl := fl) (cnt := 257 - F (p + i)) (R := fun N x W => f_X12_unpack_l183 (f_X12_unpack_l112 N') N (nI s) (nI (i + 1)) (nI (F (p + i))) (nI x) W) (K := fun W => f_X12_unpack_l112 N' (nI s) (nI (i + 2)) W) g1 (by omega) (fun N x V hV e hx => by
                have d2 := h4.up h5.1 (h5.2.1.trans hV)
                show f_X12_unpack_b183 (f_X12_unpack_l112 N') (f_X12_unpack_l183 (f_X12_unpack_l112 N') N) (nI s) (nI (i + 1)) (nI (F (p + i))) (nI x) V = _
                unfold f_X12_unpack_b183
                rw [show (257 : Int32) - nI (F (p + i)) = nI (257 - F (p + i)) from pk_sub (a := 257) (by omega), if_neg (nI_ge (by omega) (by omega)), m_data1 d2 hd (by omega), bd_eq, show nI x + 1 = nI (x + 1) from nI_add x 1]) (fun N V hV e => by
                show f_X12_unpack_b183 (f_X12_unpack_l112 N') (f_X12_unpack_l183 (f_X12_unpack_l112 N') N) (nI s) (nI (i + 1)) (nI (F (p + i))) (nI (257 - F (p + i))) V = _
                unfold f_X12_unpack_b183
                rw [show (257 : Int32) - nI (F (p + i)) = nI (257 - F (p + i)) from pk_sub (a := 257) (by omega), if_pos (Int32.le_refl _), show nI (i + 1) + 1 = nI (i + 2) from nI_add _ 1]) FU 0 W (FU_gt (by omega)) (by omega) Fr.refl h5.2.2.2.2 (fun j => by rw [if_neg (by omega)])
              have up := h5.more (cnt := 257 - F (p + i)) g1 f2 e2 f3 e3 e4
              obtain ⟨T', W', x1, x2, x3⟩ := ih N' (i + 2) _ T1 W1 (by omega) (by omega) (by omega) (by omega) up
              refine ⟨T', W', x1, ?_, x3⟩
              have e1' : f_X12_unpack_l183 (f_X12_unpack_l112 N') FU (nI s) (nI (i + 1)) (nI (F (p + i))) 0 W = f_X12_unpack_l112 N' (nI s) (nI (i + 2)) W1 := e1
              rw [e1']; exact x2
        · rw [if_neg (show ¬ (128 : Int32) ≤ nI (F (p + i)) from nI_ge (b := 128) (by omega) (by omega)), if_neg (show ¬ (128 : Int32) ≤ nI (F (p + i)) from nI_ge (b := 128) (by omega) (by omega))]
          obtain ⟨T1, W1, fl', i', y1, y2, y3, y4, y5, y6⟩ := litm2 (K := f_X4_unpackMixed_l4 N) (K' := f_X12_unpack_l112 N') (v := F (p + i)) h4 hd (by omega) FU FU 0 i fl T W (FU_gt (by omega)) (FU_gt (by omega)) (by omega) (by omega) (by omega) h5
          have y1' : f_X4_unpackMixed_l31 (f_X4_unpackMixed_l4 N) FU 48 (125 + d) (nI fl) (nI i) (nI (F (p + i))) T = f_X4_unpackMixed_l4 N 48 (125 + d) (nI fl') (nI (i' + 1)) T1 := by
            rw [← y1]; congr 1
          have y2' : f_X12_unpack_l136 (f_X12_unpack_l112 N') FU (nI s) (nI (i + 1)) (nI (F (p + i))) 0 W = f_X12_unpack_l112 N' (nI s) (nI (i' + 1)) W1 := y2
          rw [y1', y2']
          exact ih N' (i' + 1) fl' T1 W1 (by omega) (by omega) (by omega) (by omega) y3
theorem skips {K : Nat → Nat → Int32 → Int32 → Mm → Option (Unit × Mm)} {K' : Int32 → Int32 → Mm → Option (Unit × Mm)} {code : Nat} (h4 : DT c m d A o M o' n F p s) (hd : d ≤ 3) (hc : code < 256) : ∀ (N N' i sk mo fl : Nat) (T W : Mm), s - i < N → s - i < N' → i < s → sk ≤ 300 * i + 300 → fl < 50000000 → mo < 256 → UP false fl c m T W → ∃ sk' i', f_X4_unpackChanges_l42 K N 48 (125 + d) (nI fl) (nI i) (nI code) (nI sk) (nI mo) T = f_X4_unpackChanges_l91 K FU 48 (125 + d) (nI (fl + sk')) (nI i') (nI (code / 32)) T ∧ f_X12_changed_l44 K' N' (nI s) (nI (i + 1)) (nI (code / 32 + 1)) (nI sk) (cI (decide (mo = 255))) W = f_X12_changed_l103 K' FU (nI s) (nI (i' + 1)) (nI (code / 32 + 1)) 0 (uI W 1255 133 (nI (fl + sk'))) ∧ i ≤ i' ∧ i' < s ∧ sk' ≤ sk + 255 * (i' - i) := by
  have n1 := h4.1.n1
  have hps := h4.2.2.2.1
  intro N
  induction N with
  | zero => intro N' i sk mo fl T W h; omega
  | succ N ih =>
    intro N' i sk mo fl T W h1 h2 hi hsk hfl hmo h5
    cases N' with
    | zero => omega
    | succ N' =>
      have d1 := h4.up h5.1 h5.2.1
      have e55 := h5.2.2.2.2
      have sh5 : nI code >>> ((5 : Int32) &&& 31) = nI (code / 32) := pk_shrN (n := code) (by omega) _ 5 (by decide)
      show ∃ sk' i', f_X4_unpackChanges_b42 K (f_X4_unpackChanges_l42 K N) 48 (125 + d) (nI fl) (nI i) (nI code) (nI sk) (nI mo) T = _ ∧ f_X12_changed_b44 K' (f_X12_changed_l44 K' N') (nI s) (nI (i + 1)) (nI (code / 32 + 1)) (nI sk) (cI (decide (mo = 255))) W = _ ∧ _
      unfold f_X4_unpackChanges_b42 f_X12_changed_b44
      rw [d1.2.2.1, show nI i + 1 = nI (i + 1) from nI_add i 1, nI_add, lb_eq, sh5, lb_eq, e55, nI_add, lb_eq]
      by_cases q : mo = 255
      · subst q
        rw [if_pos (show nI 255 = 255 from rfl), decide_eq_true rfl, if_neg (show ¬ cI true = 0 by decide)]
        by_cases q2 : s ≤ i + 1
        · rw [if_pos (nI_le q2 (by omega)), if_pos (nI_le q2 (by omega))]
          exact ⟨sk, i, rfl, rfl, by omega, hi, by omega⟩
        · have g1 := h4.1.g (p + (i + 1))
          rw [if_neg (nI_ge (by omega) (by omega)), if_neg (nI_ge (by omega) (by omega)), c_data1 d1 (by omega), bd_eq, m_data1 d1 hd (by omega), bd_eq, nI_add, lb_eq, lb_eq, show nI (i + 1) + 1 = nI (i + 1 + 1) from nI_add _ 1]
          obtain ⟨sk', i', u1, u2, u3, u4, u5⟩ := ih N' (i + 1) (sk + F (p + (i + 1))) (F (p + (i + 1))) fl T W (by omega) (by omega) (by omega) (by omega) hfl g1 h5
          refine ⟨sk', i', u1, ?_, by omega, u4, by omega⟩
          by_cases y : F (p + (i + 1)) = 255
          · rw [if_pos (show nI (F (p + (i + 1))) = 255 by rw [y]; rfl)]
            rw [decide_eq_true y] at u2
            exact u2
          · rw [if_neg (show ¬ nI (F (p + (i + 1))) = 255 from nI_ne (a := 255) g1 (by omega) y)]
            rw [decide_eq_false y] at u2
            exact u2
      · rw [if_neg (show ¬ nI mo = 255 from nI_ne (a := 255) hmo (by omega) q), decide_eq_false q, if_pos (show cI false = 0 from rfl)]
        exact ⟨sk, i, rfl, rfl, by omega, hi, by omega⟩
theorem two_mode3 (h4 : DT c m d A o M o' n F p s) (hd : d ≤ 3) : ∀ (N N' i fl : Nat) (T W : Mm), s - i < N → s - i < N' → i ≤ s → fl ≤ 600 * i → UP false fl c m T W → ∃ T' W', f_X4_unpackChanges_l4 N 48 (125 + d) (nI fl) (nI i) T = some ((), T') ∧ f_X12_changed_l2 N' (nI s) (nI i) W = some ((), W') ∧ UE c m T' W' := by
  have n1 := h4.1.n1
  have hps := h4.2.2.2.1
  intro N
  induction N with
  | zero => intro N' i fl T W h; omega
  | succ N ih =>
    intro N' i fl T W h1 h2 h3 hfl h5
    cases N' with
    | zero => omega
    | succ N' =>
      have d1 := h4.up h5.1 h5.2.1
      show ∃ T' W', f_X4_unpackChanges_b4 (f_X4_unpackChanges_l4 N) 48 (125 + d) (nI fl) (nI i) T = _ ∧ f_X12_changed_b2 (f_X12_changed_l2 N') (nI s) (nI i) W = _ ∧ _
      unfold f_X4_unpackChanges_b4 f_X12_changed_b2
      rw [d1.2.2.1]
      by_cases q : s ≤ i
      · rw [if_pos (nI_le q (by omega)), if_pos (nI_le q (by omega))]
        exact ⟨T, W, rfl, rfl, h5.1, h5.2.1, h5.2.2.1, fun j hj => (h5.2.2.2.1 j hj).1 (Or.inl rfl)⟩
      · have g0 := h4.1.g (p + i)
        have e32 : nI (F (p + i)) / 32 = nI (F (p + i) / 32) := pk_div (d := 32) (by omega) (by decide) (by decide)
        have e31 : nI (F (p + i)) - nI (F (p + i) / 32) * 32 = nI (F (p + i) % 32) := by
          rw [show nI (F (p + i) / 32) * 32 = nI (F (p + i) / 32 * 32) from pk_mul _ 32, pk_sub (by omega)]; congr 1; omega
        have a31 : nI (F (p + i)) &&& 31 = nI (F (p + i) % 32) := pk_andN (by omega) 5 (by decide)
        rw [if_neg (nI_ge (by omega) (by omega)), if_neg (nI_ge (by omega) (by omega)), c_data1 d1 (by omega), bd_eq, m_data1 d1 hd (by omega), bd_eq, a31, lb_eq, e32, show nI (F (p + i) / 32) + 1 = nI (F (p + i) / 32 + 1) from nI_add _ 1, lb_eq, e31, lb_eq, show nI i + 1 = nI (i + 1) from nI_add i 1]
        -- both run on from the skips
        have run : ∀ mo : Nat, mo < 256 → ∃ T' W', f_X4_unpackChanges_l42 (f_X4_unpackChanges_l4 N) FU 48 (125 + d) (nI fl) (nI i) (nI (F (p + i))) (nI (F (p + i) % 32)) (nI mo) T = some ((), T') ∧ f_X12_changed_l44 (f_X12_changed_l2 N') FU (nI s) (nI (i + 1)) (nI (F (p + i) / 32 + 1)) (nI (F (p + i) % 32)) (cI (decide (mo = 255))) W = some ((), W') ∧ UE c m T' W' := fun mo hmo => by
          obtain ⟨sk', i1, u1, u2, u3, u4, u5⟩ := skips (K := f_X4_unpackChanges_l4 N) (K' := f_X12_changed_l2 N') h4 hd g0 FU FU i (F (p + i) % 32) mo fl T W (FU_gt (by omega)) (FU_gt (by omega)) (by omega) (by omega) (by omega) hmo h5
          have up : UP false (fl + sk') c m T (uI W 1255 133 (nI (fl + sk'))) := ⟨h5.1, h5.2.1.uI _ (by rfl), h5.2.2.1, h5.2.2.2.1.skip, by rw [gI_uI, if_pos ⟨rfl, rfl⟩]⟩
          obtain ⟨T1, W1, fl', i', y1, y2, y3, y4, y5, y6⟩ := litm3 (K := f_X4_unpackChanges_l4 N) (K' := f_X12_changed_l2 N') (v := F (p + i) / 32) h4 hd (by omega) FU FU 0 i1 (fl + sk') T _ (FU_gt (by omega)) (FU_gt (by omega)) (by omega) (by omega) (by omega) up
          have y1' : f_X4_unpackChanges_l91 (f_X4_unpackChanges_l4 N) FU 48 (125 + d) (nI (fl + sk')) (nI i1) (nI (F (p + i) / 32)) T = f_X4_unpackChanges_l4 N 48 (125 + d) (nI fl') (nI (i' + 1)) T1 := by
            rw [← y1]; congr 1
          have y2' : f_X12_changed_l103 (f_X12_changed_l2 N') FU (nI s) (nI (i1 + 1)) (nI (F (p + i) / 32 + 1)) 0 (uI W 1255 133 (nI (fl + sk'))) = f_X12_changed_l2 N' (nI s) (nI (i' + 1)) W1 := y2
          rw [u1, u2, y1', y2']
          exact ih N' (i' + 1) fl' T1 W1 (by omega) (by omega) (by omega) (by omega) y3
        by_cases y : F (p + i) % 32 = 31
        · rw [if_pos (show nI (F (p + i) % 32) = 31 by rw [y]; rfl), if_pos (show nI (F (p + i) % 32) = 31 by rw [y]; rfl)]
          exact run 255 (by omega)
        · have ny : ¬ nI (F (p + i) % 32) = 31 := nI_ne (a := 31) (by omega) (by omega) y
          rw [if_neg ny, if_neg ny]
          exact run 0 (by omega)
end H3
