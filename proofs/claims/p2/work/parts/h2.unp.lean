/-! Rows of data as they are, and in pairs, on both sides. -/
section H2
variable {c c' c0 c1 c2 c3 m m' m0 m1 m2 m3 T M' : Mm} {d w b A o M o' n p r q a i s f k u h rb t v fl cnt : Nat} {F : Nat → Nat} {ov ov' ng sg z : Bool} {g L : Nat → Int32} {Gc Gm : Gty} {PF QF : Nat → Nat → Bool} {PA QA : Nat → Bool}
theorem fills {R : Nat → Nat → Mm → Option (Unit × Mm)} {K : Mm → Option (Unit × Mm)} (hv : v < 256) (hb : fl + cnt < 100000000) (hR : ∀ N x W, Fr f55 a134 m W → gI W 1255 133 = nI (fl + x) → x < cnt → R (N + 1) x W = bd (f_X12_fill (nI v) W) fun _ W' => R N (x + 1) W') (hE : ∀ N W, Fr f55 a134 m W → gI W 1255 133 = nI (fl + cnt) → R (N + 1) cnt W = K W) : ∀ (N x : Nat) (W : Mm), cnt - x < N → x ≤ cnt → Fr f55 a134 m W → gI W 1255 133 = nI (fl + x) → (∀ j, gA W 134 j = if 60 + fl ≤ j ∧ j < 60 + fl + x ∧ j < 140 then nI v else gA m 134 j) → ∃ W', R N x W = K W' ∧ Fr f55 a134 m W' ∧ gI W' 1255 133 = nI (fl + cnt) ∧ ∀ j, gA W' 134 j = if 60 + fl ≤ j ∧ j < 60 + fl + cnt ∧ j < 140 then nI v else gA m 134 j := by
  intro N
  induction N with
  | zero => intro x W h; omega
  | succ N ih =>
    intro x W h1 h2 h3 h4 h5
    by_cases q : x = cnt
    · subst q
      exact ⟨W, hE N W h3 h4, h3, h4, h5⟩
    · obtain ⟨W1, e1, e2, e3, e4⟩ := m_fill1 hv (by omega) h4
      rw [hR N x W h3 h4 (by omega), e1, bd_eq]
      refine ih (x + 1) W1 (by omega) (by omega) (h3.trans e2) (by rw [e3, Nat.add_assoc]) (fun j => ?_)
      rw [e4, h5]
      by_cases y : j = 60 + (fl + x) ∧ fl + x < 80
      · rw [if_pos y, if_pos (by omega)]
      · rw [if_neg y]
        by_cases y2 : 60 + fl ≤ j ∧ j < 60 + fl + x ∧ j < 140
        · rw [if_pos y2, if_pos (by omega)]
        · rw [if_neg y2, if_neg (by omega)]
/-- the rows as the bytes are gone through, and at the end -/
def UP (z : Bool) (fl : Nat) (c m T W : Mm) : Prop := Fr nF a49 c T ∧ Fr f55 a134 m W ∧ (∀ j, (j < 60 ∨ 140 ≤ j) → gA W 134 j = gA m 134 j) ∧ UR z fl T W ∧ gI W 1255 133 = nI fl
def UE (c m T W : Mm) : Prop := Fr nF a49 c T ∧ Fr f55 a134 m W ∧ (∀ j, (j < 60 ∨ 140 ≤ j) → gA W 134 j = gA m 134 j) ∧ ∀ i, i < 640 → rwC T i = rwM W i
theorem DT.up {T W : Mm} (h : DT c m d A o M o' n F p s) (fc : Fr nF a49 c T) (fm : Fr f55 a134 m W) : DT T W d A o M o' n F p s := h.fr fc fm (fun _ => rfl) ⟨rfl, rfl⟩ ⟨rfl, rfl, rfl⟩ ⟨rfl, rfl⟩
/-- one more run of bytes of one value -/
theorem UP.more {T W T' W' : Mm} (h : UP z fl c m T W) (hv : v < 256) (fc : Fr nF a49 T T') (fm : Fr f55 a134 W W') (hc : ∀ i, i < 640 → rwC T' i = if fl ≤ i / 8 ∧ i / 8 < fl + cnt then v.testBit (7 - i % 8) else rwC T i) (e : gI W' 1255 133 = nI (fl + cnt)) (hm : ∀ j, gA W' 134 j = if 60 + fl ≤ j ∧ j < 60 + fl + cnt ∧ j < 140 then nI v else gA W 134 j) : UP z (fl + cnt) c m T' W' :=
  ⟨h.1.trans fc, h.2.1.trans fm, fun j hj => by rw [hm, if_neg (by omega)]; exact h.2.2.1 j hj, h.2.2.2.1.step hv hc (fun j hj => by
    rw [hm]
    by_cases y : fl ≤ j ∧ j < fl + cnt
    · rw [if_pos (by omega), if_pos y]
    · rw [if_neg (by omega), if_neg y]), e⟩
/-- white behind the data -/
theorem m_white9 {T W : Mm} (h : UP true fl c m T W) (hb : fl < 50000000) : ∃ W', f_X12_unpack_l214 FU W = some ((), W') ∧ UE c m T W' := by
  by_cases q : 80 ≤ fl
  · have e : f_X12_unpack_l214 FU W = some ((), W) := by
      rw [show FU = 3999999999 + 1 from rfl]
      show f_X12_unpack_b214 (f_X12_unpack_l214 3999999999) W = _
      unfold f_X12_unpack_b214
      rw [h.2.2.2.2, if_pos (show (80 : Int32) ≤ nI fl from nI_le (a := 80) q (by omega))]
    exact ⟨W, e, h.1, h.2.1, h.2.2.1, fun i hi => (h.2.2.2.1 i hi).1 (Or.inr (by omega))⟩
  · obtain ⟨W', x1, x2, x3, x4⟩ := fills (m := W) (v := 0) (fl := fl) (cnt := 80 - fl) (R := fun N _ W => f_X12_unpack_l214 N W) (K := fun W => some ((), W)) (by omega) (by omega) (fun N x V hV e hx => by
      show f_X12_unpack_b214 (f_X12_unpack_l214 N) V = _
      unfold f_X12_unpack_b214
      rw [e, if_neg (show ¬ (80 : Int32) ≤ nI (fl + x) from nI_ge (b := 80) (by omega) (by omega))]
      rfl) (fun N V hV e => by
      show f_X12_unpack_b214 (f_X12_unpack_l214 N) V = _
      unfold f_X12_unpack_b214
      rw [e, if_pos (show (80 : Int32) ≤ nI (fl + (80 - fl)) from nI_le (a := 80) (by omega) (by omega))]) FU 0 W (FU_gt (by omega)) (by omega) Fr.refl h.2.2.2.2 (fun j => by rw [if_neg (by omega)])
    refine ⟨W', x1, h.1, h.2.1.trans x2, fun j hj => by rw [x4, if_neg (by omega)]; exact h.2.2.1 j hj, fun i hi => ?_⟩
    obtain ⟨u1, u2⟩ := h.2.2.2.1 i hi
    unfold rwM at u1 ⊢
    rw [x4]
    by_cases y : fl ≤ i / 8
    · rw [if_pos (by omega), u2 rfl y, nI_bt (by omega)]
      simp
    · rw [if_neg (by omega)]
      exact u1 (Or.inr (by omega))
theorem two_mode0 (h4 : DT c m d A o M o' n F p s) (hd : d ≤ 3) : ∀ (N N' i : Nat) (T W : Mm), s - i < N → s - i < N' → i ≤ s → UP true i c m T W → ∃ T' W', f_X4_unpack_l70 N 48 (125 + d) (nI i) T = some ((), T') ∧ f_X12_unpack_l34 N' (nI s) (nI i) W = some ((), W') ∧ UE c m T' W' := by
  have n1 := h4.1.n1
  have hps := h4.2.2.2.1
  -- beyond the row
  have big : ∀ (N' i : Nat) (T W : Mm), s - i < N' → i ≤ s → 80 ≤ i → UP true i c m T W → ∃ W', f_X12_unpack_l34 N' (nI s) (nI i) W = some ((), W') ∧ UE c m T W' := by
    intro N'
    induction N' with
    | zero => intro i T W h; omega
    | succ N' ih =>
      intro i T W h1 h2 h3 h5
      have d1 := h4.up h5.1 h5.2.1
      show ∃ W', f_X12_unpack_b34 (f_X12_unpack_l34 N') (nI s) (nI i) W = _ ∧ _
      unfold f_X12_unpack_b34
      by_cases q : s ≤ i
      · rw [if_pos (nI_le q (by omega))]
        exact m_white9 h5 (by omega)
      · obtain ⟨W1, e1, e2, e3, e4⟩ := m_fill1 (h4.1.g (p + i)) (by omega) h5.2.2.2.2
        rw [if_neg (nI_ge (by omega) (by omega)), m_data1 d1 hd (by omega), bd_eq, e1, bd_eq, show nI i + 1 = nI (i + 1) from nI_add i 1]
        have e5 : gA W1 134 = gA W 134 := funext fun j => by rw [e4, if_neg (by omega)]
        refine ih (i + 1) T W1 (by omega) (by omega) (by omega) ⟨h5.1, h5.2.1.trans e2, fun j hj => by rw [e5]; exact h5.2.2.1 j hj, ?_, e3⟩
        have := h5.2.2.2.1.big h3 (i + 1) (by omega)
        unfold UR rwM at this ⊢
        rw [e5]; exact this
  intro N
  induction N with
  | zero => intro N' i T W h; omega
  | succ N ih =>
    intro N' i T W h1 h2 h3 h5
    cases N' with
    | zero => omega
    | succ N' =>
      have d1 := h4.up h5.1 h5.2.1
      show ∃ T' W', f_X4_unpack_b70 (f_X4_unpack_l70 N) 48 (125 + d) (nI i) T = _ ∧ f_X12_unpack_l34 (N' + 1) (nI s) (nI i) W = _ ∧ _
      unfold f_X4_unpack_b70
      rw [d1.2.2.1]
      by_cases q : s ≤ i
      · rw [if_pos (nI_le q (by omega))]
        obtain ⟨W', x1, x2⟩ := m_white9 h5 (by omega)
        refine ⟨T, W', rfl, ?_, x2⟩
        show f_X12_unpack_b34 (f_X12_unpack_l34 N') (nI s) (nI i) W = _
        unfold f_X12_unpack_b34
        rw [if_pos (nI_le q (by omega))]; exact x1
      · rw [if_neg (nI_ge (by omega) (by omega))]
        by_cases q8 : 80 ≤ i
        · rw [if_pos (show (80 : Int32) ≤ nI i from nI_le (a := 80) q8 (by omega))]
          obtain ⟨W', x1, x2⟩ := big (N' + 1) i T W h2 h3 q8 h5
          exact ⟨T, W', rfl, x1, x2⟩
        · obtain ⟨W1, e1, e2, e3, e4⟩ := m_fill1 (h4.1.g (p + i)) (by omega) h5.2.2.2.2
          obtain ⟨T1, f1, f2, f3⟩ := c_put (c := T) (pl := i) (cnt := 1) (h4.1.g (p + i)) (by omega) (by omega)
          have f1' : f_X4_put 48 (nI i) (nI (F (p + i))) 1 T = some ((), T1) := f1
          rw [if_neg (show ¬ (80 : Int32) ≤ nI i from nI_ge (b := 80) (by omega) (by omega)), c_data1 d1 (by omega), bd_eq, f1', bd_eq, show nI i + 1 = nI (i + 1) from nI_add i 1]
          have up := h5.more (cnt := 1) (h4.1.g (p + i)) f2 e2 f3 e3 (fun j => by
            rw [e4]
            by_cases y : j = 60 + i ∧ i < 80
            · rw [if_pos y, if_pos (by omega)]
            · rw [if_neg y, if_neg (by omega)])
          obtain ⟨T', W', x1, x2, x3⟩ := ih N' (i + 1) T1 W1 (by omega) (by omega) (by omega) up
          refine ⟨T', W', x1, ?_, x3⟩
          show f_X12_unpack_b34 (f_X12_unpack_l34 N') (nI s) (nI i) W = _
          unfold f_X12_unpack_b34
          rw [if_neg (nI_ge (by omega) (by omega)), m_data1 d1 hd (by omega), bd_eq, e1, bd_eq, show nI i + 1 = nI (i + 1) from nI_add i 1]
          exact x2
theorem two_mode1 (h4 : DT c m d A o M o' n F p s) (hd : d ≤ 3) : ∀ (N N' i fl : Nat) (T W : Mm), s - i < N → s - i < N' → i ≤ s → fl ≤ 300 * i → UP true fl c m T W → ∃ T' W', f_X4_unpackPairs_l4 N 48 (125 + d) (nI fl) (nI i) T = some ((), T') ∧ f_X12_unpack_l65 N' (nI s) (nI i) W = some ((), W') ∧ UE c m T' W' := by
  have n1 := h4.1.n1
  have hps := h4.2.2.2.1
  intro N
  induction N with
  | zero => intro N' i fl T W h; omega
  | succ N ih =>
    intro N' i fl T W h1 h2 h3 hfl h5
    cases N' with
    | zero => omega
    | succ N' =>
      have d1 := h4.up h5.1 h5.2.1
      show ∃ T' W', f_X4_unpackPairs_b4 (f_X4_unpackPairs_l4 N) 48 (125 + d) (nI fl) (nI i) T = _ ∧ f_X12_unpack_b65 (f_X12_unpack_l65 N') (nI s) (nI i) W = _ ∧ _
      unfold f_X4_unpackPairs_b4 f_X12_unpack_b65
      rw [d1.2.2.1, show nI i + 1 = nI (i + 1) from nI_add i 1]
      by_cases q : s ≤ i + 1
      · rw [if_pos (nI_le q (by omega)), if_pos (nI_le q (by omega))]
        obtain ⟨W', x1, x2⟩ := m_white9 h5 (by omega)
        exact ⟨T, W', rfl, x1, x2⟩
      · have g0 := h4.1.g (p + i)
        have g1 := h4.1.g (p + (i + 1))
        obtain ⟨T1, f1, f2, f3⟩ := c_put (c := T) (pl := fl) (cnt := F (p + i) + 1) g1 (by omega) (by omega)
        rw [if_neg (nI_ge (by omega) (by omega)), if_neg (nI_ge (by omega) (by omega)), c_data1 d1 (by omega), bd_eq, m_data1 d1 hd (by omega), bd_eq, show nI (F (p + i)) + 1 = nI (F (p + i) + 1) from nI_add _ 1, lb_eq, lb_eq, c_data1 d1 (by omega), bd_eq, f1, bd_eq, nI_add, lb_eq, show nI i + 2 = nI (i + 2) from nI_add i 2]
        obtain ⟨W1, e1, e2, e3, e4⟩ := fills (m := W) (v := F (p + (i + 1))) (fl := fl) (cnt := F (p + i) + 1) (R := fun N x W => f_X12_unpack_l83 (f_X12_unpack_l65 N') N (nI s) (nI i) (nI (F (p + i) + 1)) (nI x) W) (K := fun W => f_X12_unpack_l65 N' (nI s) (nI (i + 2)) W) g1 (by omega) (fun N x V hV e hx => by
          have d2 := h4.up h5.1 (h5.2.1.trans hV)
          show f_X12_unpack_b83 (f_X12_unpack_l65 N') (f_X12_unpack_l83 (f_X12_unpack_l65 N') N) (nI s) (nI i) (nI (F (p + i) + 1)) (nI x) V = _
          unfold f_X12_unpack_b83
          rw [if_neg (nI_ge (by omega) (by omega)), show nI i + 1 = nI (i + 1) from nI_add i 1, m_data1 d2 hd (by omega), bd_eq, show nI x + 1 = nI (x + 1) from nI_add x 1]) (fun N V hV e => by
          show f_X12_unpack_b83 (f_X12_unpack_l65 N') (f_X12_unpack_l83 (f_X12_unpack_l65 N') N) (nI s) (nI i) (nI (F (p + i) + 1)) (nI (F (p + i) + 1)) V = _
          unfold f_X12_unpack_b83
          rw [if_pos (Int32.le_refl _), show nI i + 2 = nI (i + 2) from nI_add i 2]) FU 0 W (FU_gt (by omega)) (by omega) Fr.refl h5.2.2.2.2 (fun j => by rw [if_neg (by omega)])
        have up := h5.more (cnt := F (p + i) + 1) g1 f2 e2 f3 e3 e4
        obtain ⟨T', W', x1, x2, x3⟩ := ih N' (i + 2) _ T1 W1 (by omega) (by omega) (by omega) (by omega) up
        refine ⟨T', W', x1, ?_, x3⟩
        have e1' : f_X12_unpack_l83 (f_X12_unpack_l65 N') FU (nI s) (nI i) (nI (F (p + i) + 1)) 0 W = f_X12_unpack_l65 N' (nI s) (nI (i + 2)) W1 := e1
        rw [e1']; exact x2
end H2
