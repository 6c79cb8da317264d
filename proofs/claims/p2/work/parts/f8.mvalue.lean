/-! A value is read, on the reference's side. -/
def tn (k : Nat) : Nat := if k = 0 then 10000 else if k = 1 then 1000 else if k = 2 then 100 else if k = 3 then 10 else 1
def mn4 (k : Nat) : Nat := if k < 4 then k else 4
def mvF' (f i : Nat) : Bool := i == 133 && (f == 1227 || f == 1232 || f == 1251 || f == 1253)
def mvG' (f i : Nat) : Bool := i == 133 && (f == 1227 || f == 1232 || f == 1233 || f == 1251 || f == 1253)
def m13 (f i : Nat) : Bool := i == 133 && (f == 1251 || f == 1253)
/-- the value's end: in the count, or beyond it -/
def VR (m : Mm) (o' n q i E w b : Nat) (ng : Bool) (r : Option (Unit × Mm)) : Prop := (q + (E - i) ≤ 60000 → ∃ m', r = some ((), m') ∧ Fr mvF' noA m m' ∧ gI m' 1232 133 = nI (q + (E - i)) ∧ gI m' 1227 133 = nI (o' + E) ∧ gI m' 1251 133 = iz (vz w ng) ∧ gJ m' 1253 133 = jz (ve w b ng)) ∧ (60000 < q + (E - i) → ∃ m' p', r = some ((), m') ∧ Fr mvG' noA m m' ∧ gI m' 1233 133 = 1 ∧ gI m' 1227 133 = nI (o' + p') ∧ p' ≤ n)
section F8
variable {c c' c0 c1 c2 c3 m m' m0 m1 m2 m3 T : Mm} {d w b A o M o' n p r q a i E : Nat} {F : Nat → Nat} {ov ov' ng sg : Bool} {g L : Nat → Int32} {Gc Gm : Gty} {PF QF : Nat → Nat → Bool} {PA QA : Nat → Bool}
theorem VR.step {r : Option (Unit × Mm)} (h : VR m1 o' n (q + 1) (i + 1) E w b ng r) (f : Fr nxF noA m m1) (hE : i + 1 ≤ E) : VR m o' n q i E w b ng r := by
  have e : q + 1 + (E - (i + 1)) = q + (E - i) := by omega
  constructor
  · intro z
    obtain ⟨m', x1, x2, x3, x4⟩ := h.1 (by omega)
    exact ⟨m', x1, (f.weak (fun f i e => by unfold mvF' at e; unfold nxF; revert e; simp; omega) (fun _ e => e)).trans x2, by rw [x3, e], x4⟩
  · intro z
    obtain ⟨m', p', x1, x2, x3⟩ := h.2 (by omega)
    exact ⟨m', p', x1, (f.weak (fun f i e => by unfold mvG' at e; unfold nxF; revert e; simp; omega) (fun _ e => e)).trans x2, x3⟩
theorem SRC.mf (h : SRC c m d A o M o' n F) (f : Fr QF noA m m') (e : QF 1226 133 = false ∧ QF 1228 133 = false) : SRC c m' d A o M o' n F := by
  have ea : ∀ a, gA m' a = gA m a := fun a => f.a rfl
  exact SRC_mk h.a h.k ((f.r e.1).trans h.b) h.l h.e ((f.i e.2).trans h.e2) (by rw [ea]; exact h.s) (by rw [ea]; exact h.f) h.g (by rw [ea]; exact h.y)
theorem m_225 {x y z : Int32} : ∃ m', f_X12_readValue_225 (cI ng) x y z m = some ((), m') ∧ Fr m13 noA m m' ∧ gI m' 1251 133 = z ∧ gJ m' 1253 133 = if ng = true then -((x.toInt64 * 10000) + y.toInt64) else (x.toInt64 * 10000) + y.toInt64 := by
  unfold f_X12_readValue_225
  rw [lb_eq]
  cases ng
  · rw [if_pos (show cI false = 0 from rfl), lb_eq, if_neg (by decide)]
    exact ⟨_, rfl, (Fr.refl.uI _ (by rfl)).uJ _ (by rfl), by show gI (uI m 1251 133 z) 1251 133 = z; rw [gI_uI, if_pos ⟨rfl, rfl⟩], by rw [gJ_uJ, if_pos ⟨rfl, rfl⟩]⟩
  · rw [if_neg (show ¬ cI true = 0 by decide), lb_eq, if_pos rfl]
    exact ⟨_, rfl, (Fr.refl.uI _ (by rfl)).uJ _ (by rfl), by show gI (uI m 1251 133 z) 1251 133 = z; rw [gI_uI, if_pos ⟨rfl, rfl⟩], by rw [gJ_uJ, if_pos ⟨rfl, rfl⟩]⟩
theorem m_195 {x y : Int32} : ∀ (N k : Nat), 4 - k < N → k ≤ 4 → ∀ y : Int32, ∃ y', f_X12_readValue_l195 N (cI ng) x (nI k) y m = f_X12_readValue_225 (cI ng) x y' (if ng = true then -x else x) m ∧ (∀ a, y = nI a → y' = nI (a * 10 ^ (4 - k))) := by
  intro N
  induction N with
  | zero => intro k h; omega
  | succ N ih =>
    intro k h1 h2 y
    show ∃ y', f_X12_readValue_b195 (f_X12_readValue_l195 N) (cI ng) x (nI k) y m = _ ∧ _
    unfold f_X12_readValue_b195
    by_cases q : k = 4
    · subst q
      refine ⟨y, ?_, fun a e => by rw [e]; show nI a = nI (a * 1); rw [Nat.mul_one]⟩
      rw [if_pos (show (4 : Int32) ≤ nI 4 by decide)]
      cases ng
      · rw [if_pos (show cI false = 0 from rfl), if_neg (by decide)]
      · rw [if_neg (show ¬ cI true = 0 by decide), if_pos rfl]
    · rw [if_neg (show ¬ (4 : Int32) ≤ nI k from nI_ge (b := 4) (by omega) (by omega)), lb_eq, show nI k + 1 = nI (k + 1) from nI_add k 1]
      obtain ⟨y', x1, x2⟩ := ih (k + 1) (by omega) (by omega) (y * 10)
      refine ⟨y', x1, fun a e => ?_⟩
      rw [x2 (a * 10) (by rw [e]; exact pk_mul a 10)]
      congr 1
      rw [Nat.mul_assoc, show 4 - k = (4 - (k + 1)) + 1 by omega, Nat.pow_succ, Nat.mul_comm (10 ^ _) 10]
theorem tn_10 {k : Nat} : tn k = 10 ^ (4 - mn4 k) := by
  rcases (show k = 0 ∨ k = 1 ∨ k = 2 ∨ k = 3 ∨ 4 ≤ k by omega) with rfl | rfl | rfl | rfl | h
  · rfl
  · rfl
  · rfl
  · rfl
  · have : mn4 k = 4 := by unfold mn4; rw [if_neg (by omega)]
    rw [this]; unfold tn; rw [if_neg (by omega), if_neg (by omega), if_neg (by omega), if_neg (by omega)]
theorem mn4_le {k : Nat} : mn4 k ≤ 4 := by unfold mn4; split <;> omega
/-- the value when its bytes are read -/
theorem m_end {N k : Nat} (hN : 5 < N) (hw : w ≤ 32767) (ha : a * tn k ≤ 9999) : ∃ m', f_X12_readValue_l195 N (cI ng) (nI w) (nI (mn4 k)) (nI a) m = some ((), m') ∧ Fr m13 noA m m' ∧ gI m' 1251 133 = iz (vz w ng) ∧ gJ m' 1253 133 = jz (ve w (a * tn k) ng) := by
  have h4 := mn4_le (k := k)
  obtain ⟨y', x1, x2⟩ := m_195 (m := m) (ng := ng) (x := nI w) (y := 0) N (mn4 k) (by omega) mn4_le (nI a)
  obtain ⟨m', y1, y2, y3, y4⟩ := m_225 (m := m) (ng := ng) (x := nI w) (y := y') (z := if ng = true then -nI w else nI w)
  refine ⟨m', by rw [x1, y1], y2, ?_, ?_⟩
  · rw [y3]; unfold vz
    cases ng
    · rw [if_neg (by decide), if_neg (by decide), nI_iz]
    · rw [if_pos rfl, if_pos rfl, nI_iz, iz_neg]
  · rw [y4, x2 a rfl, ← tn_10]
    unfold ve
    have e : (nI w).toInt64 * 10000 + (nI (a * tn k)).toInt64 = jz ((10000 * w + a * tn k : Nat) : Int) := by
      rw [nI_j (by omega), nI_j (by omega), show (10000 : Int64) = jz 10000 from rfl, jz_mul, jz_add]
      congr 1; omega
    cases ng
    · rw [if_neg (by decide), if_neg (by decide), e]
    · rw [if_pos rfl, if_pos rfl, e, jz_neg]
theorem m_endo {N k : Nat} {x y : Int32} (hN : 5 < N) (hk : k ≤ 4) : ∃ m', f_X12_readValue_l195 N (cI ng) x (nI k) y m = some ((), m') ∧ Fr m13 noA m m' := by
  obtain ⟨y', x1, _⟩ := m_195 (m := m) (ng := ng) (x := x) (y := 0) N k (by omega) hk y
  obtain ⟨m', y1, y2, _⟩ := m_225 (m := m) (ng := ng) (x := x) (y := y') (z := if ng = true then -x else x)
  exact ⟨m', by rw [x1, y1], y2⟩
/-- a digit is seen or not -/
theorem dig_if {α : Type} (hF : ∀ i, F i < 256) (u v w' : α) : (if bs F n i < 48 then u else if 57 < bs F n i then v else w') = if isD F n i = true then w' else if bs F n i < 48 then u else v := by
  by_cases q : isD F n i = true
  · have z := isD_d q
    have hb : bs F n i = nI (F i) := if_pos z.1
    rw [if_pos q, hb, if_neg (show ¬ nI (F i) < 48 from nI_nlt (b := 48) z.2.1 (by omega)), if_neg (show ¬ 57 < nI (F i) from nI_nlt (a := 57) z.2.2 (by omega))]
  · rw [if_neg q]
    by_cases q1 : bs F n i < 48
    · rw [if_pos q1, if_pos q1]
    · rw [if_neg q1, if_neg q1]
      have : 57 < bs F n i := by
        unfold bs at q1 ⊢
        by_cases y : i < n
        · rw [if_pos y] at q1 ⊢
          have hf := hF i
          have h48 : 48 ≤ F i := by
            by_cases u : 48 ≤ F i
            · exact u
            · exact absurd (show nI (F i) < 48 from nI_lt (b := 48) (by omega) (by omega)) q1
          refine nI_lt (a := 57) ?_ (by omega)
          by_cases u : F i ≤ 57
          · exact absurd (show isD F n i = true by unfold isD; rw [decide_eq_true y, decide_eq_true h48, decide_eq_true u]; rfl) q
          · omega
        · rw [if_neg y] at q1
          exact absurd (show (-1 : Int32) < 48 by decide) q1
      rw [if_pos this]
theorem m_over139 {N k : Nat} {x y : Int32} (h : SRC c m d A o M o' n F) (hd : d ≤ 3) (e : gI m 1227 133 = nI (o' + i)) (hi : i ≤ n) (hn : n ≤ 30000) (h0 : gI m 1233 133 = 1) (hk : k ≤ 4) : ∃ m', f_X12_readValue_l139 (N + 1) (cI ng) x (nI k) y m = some ((), m') ∧ Fr m13 noA m m' := by
  show ∃ m', f_X12_readValue_b139 (f_X12_readValue_l139 N) (cI ng) x (nI k) y m = _ ∧ _
  obtain ⟨m', z1, z2⟩ := m_endo (m := m) (ng := ng) (x := x) (y := y) (N := FU) (k := k) (FU_gt (by omega)) hk
  unfold f_X12_readValue_b139
  rw [m_peek h hd e (by omega), bd_eq, m_peek h hd e (by omega), bd_eq, h0, if_neg (show ¬ (1 : Int32) = 0 by decide), z1, ite_self, ite_self]
  exact ⟨m', rfl, z2⟩
theorem m_over115 {k : Nat} {x : Int32} (h : SRC c m d A o M o' n F) (hd : d ≤ 3) (e : gI m 1227 133 = nI (o' + i)) (hi : i ≤ n) (hn : n ≤ 30000) (h0 : gI m 1233 133 = 1) (hk : k ≤ 4) : ∃ m', f_X12_readValue_115 (cI ng) x (nI k) m = some ((), m') ∧ Fr m13 noA m m' := by
  obtain ⟨m', z1, z2⟩ := m_endo (m := m) (ng := ng) (x := x) (y := 0) (N := FU) (k := k) (FU_gt (by omega)) hk
  unfold f_X12_readValue_115
  rw [m_peek h hd e (by omega), bd_eq, h0, if_neg (show ¬ (1 : Int32) = 0 by decide), z1, ite_self]
  exact ⟨m', rfl, z2⟩
theorem m_over51 {N k : Nat} {x : Int32} (h : SRC c m d A o M o' n F) (hd : d ≤ 3) (e : gI m 1227 133 = nI (o' + i)) (hi : i ≤ n) (hn : n ≤ 30000) (h0 : gI m 1233 133 = 1) (hk : k ≤ 4) : ∃ m', f_X12_readValue_l51 (N + 1) (cI ng) x (nI k) m = some ((), m') ∧ Fr m13 noA m m' := by
  show ∃ m', f_X12_readValue_b51 (f_X12_readValue_l51 N) (cI ng) x (nI k) m = _ ∧ _
  obtain ⟨m', z1, z2⟩ := m_over115 (ng := ng) (x := x) h hd e hi hn h0 hk
  unfold f_X12_readValue_b51
  rw [m_peek h hd e (by omega), bd_eq, m_peek h hd e (by omega), bd_eq, h0, if_neg (show ¬ (1 : Int32) = 0 by decide), z1, ite_self, ite_self]
  exact ⟨m', rfl, z2⟩
/-- much came by a byte of the value -/
theorem VR.mo {r : Option (Unit × Mm)} (f : Fr cn3 noA m m1) (h0 : gI m1 1233 133 = 1) (e : gI m1 1227 133 = nI (o' + i)) (hi : i ≤ n) (hr : ∃ m', r = some ((), m') ∧ Fr m13 noA m1 m') (hE : i + 1 ≤ E) : VR m o' n 60000 i E w b ng r := by
  refine ⟨fun z => by omega, fun _ => ?_⟩
  obtain ⟨m', x1, x2⟩ := hr
  exact ⟨m', i, x1, (f.weak (fun f i e => by unfold mvG' at e; unfold cn3; revert e; simp; omega) (fun _ e => e)).trans (x2.weak (fun f i e => by unfold mvG' at e; unfold m13; revert e; simp; omega) (fun _ e => e)), (x2.i rfl).trans h0, (x2.i rfl).trans e, hi⟩
theorem VR.fin {r : Option (Unit × Mm)} (h1 : gI m 1232 133 = nI q) (hq : q ≤ 60000) (e : gI m 1227 133 = nI (o' + i)) (hr : ∃ m', r = some ((), m') ∧ Fr m13 noA m m' ∧ gI m' 1251 133 = iz (vz w ng) ∧ gJ m' 1253 133 = jz (ve w b ng)) : VR m o' n q i i w b ng r := by
  rw [show VR m o' n q i i w b ng r = VR m o' n q i i w b ng r from rfl]
  refine ⟨fun _ => ?_, fun z => by omega⟩
  obtain ⟨m', x1, x2, x3, x4⟩ := hr
  exact ⟨m', x1, x2.weak (fun f i e => by unfold mvF' at e; unfold m13; revert e; simp; omega) (fun _ e => e), by rw [Nat.sub_self, Nat.add_zero]; exact (x2.i rfl).trans h1, (x2.i rfl).trans e, x3, x4⟩
theorem m_l139 (hd : d ≤ 3) (hn : n ≤ 30000) (hw : w ≤ 32767) : ∀ (N i k a q : Nat) (m : Mm), SRC c m d A o M o' n F → n - i < N → i ≤ n → gI m 1227 133 = nI (o' + i) → gI m 1233 133 = 0 → gI m 1232 133 = nI q → q ≤ 60000 → a * tn k ≤ lim k → VR m o' n q i (dEnd F n (n - i) i) w (fvq F n (n - i) i k (a * tn k)) ng (f_X12_readValue_l139 N (cI ng) (nI w) (nI (mn4 k)) (nI a) m) := by
  intro N
  induction N with
  | zero => intro i k a q m _ h; omega
  | succ N ih =>
    intro i k a q m S h1 h2 e7 h0 e1 hq hl
    have n2 := S.n2 hd
    have fin : (isD F n i = false → dEnd F n (n - i) i = i ∧ fvq F n (n - i) i k (a * tn k) = a * tn k) := fun hz => by
      rcases Nat.eq_zero_or_pos (n - i) with y | y
      · rw [y]; exact ⟨rfl, rfl⟩
      · obtain ⟨f, hf⟩ : ∃ f, n - i = f + 1 := ⟨n - i - 1, by omega⟩
        rw [hf]; unfold dEnd fvq
        rw [hz, if_neg (by decide), if_neg (by decide)]; exact ⟨rfl, rfl⟩
    show VR m o' n q i _ w _ ng (f_X12_readValue_b139 (f_X12_readValue_l139 N) (cI ng) (nI w) (nI (mn4 k)) (nI a) m)
    unfold f_X12_readValue_b139
    rw [m_peek S hd e7 (by omega), bd_eq, m_peek S hd e7 (by omega), bd_eq, h0, if_pos rfl, dig_if S.g]
    cases hz : isD F n i
    · rw [if_neg (by decide), ite_self, (fin hz).1, (fin hz).2]
      exact VR.fin e1 hq e7 (m_end (FU_gt (by omega)) hw (Nat.le_trans hl lim_9))
    · have z := isD_d hz
      obtain ⟨f, hf⟩ : ∃ f, n - i = f + 1 := ⟨n - i - 1, by omega⟩
      have hf2 : n - (i + 1) = f := by omega
      have eD : dEnd F n (n - i) i = dEnd F n (n - (i + 1)) (i + 1) := by
        rw [hf, hf2]; conv => lhs; unfold dEnd
        rw [hz, if_pos rfl]
      have eV : fvq F n (n - i) i k (a * tn k) = fvq F n (n - (i + 1)) (i + 1) (k + 1) (a * tn k + (F i - 48) * wt k) := by
        rw [hf, hf2]; conv => lhs; unfold fvq
        rw [hz, if_pos rfl]
      have ls := lim_s (k := k) (v := F i - 48) (by omega) hl
      have hE := (dEnd_le (F := F) (n := n) (n - (i + 1)) (i + 1)).1
      obtain ⟨k1, k2⟩ := m_next S hd e7 z.1 h0 e1 hq
      rw [if_pos rfl, eD, eV]
      by_cases y : q < 60000
      · obtain ⟨m1, x1, x2, x3, x4⟩ := k1 y
        have S1 := S.mf x2 ⟨rfl, rfl⟩
        rw [x1, bd_eq, lb_eq, show (48 : Int32) = nI 48 from rfl, pk_sub (by omega)]
        have h10 : gI m1 1233 133 = 0 := (x2.i rfl).trans h0
        by_cases k4 : k < 4
        · have e4 : mn4 k = k := by unfold mn4; rw [if_pos k4]
          have e5 : mn4 (k + 1) = k + 1 := by unfold mn4; split <;> omega
          have et : a * tn k + (F i - 48) * wt k = (a * 10 + (F i - 48)) * tn (k + 1) := by
            rcases (show k = 0 ∨ k = 1 ∨ k = 2 ∨ k = 3 by omega) with rfl | rfl | rfl | rfl
            · show a * 10000 + (F i - 48) * 1000 = (a * 10 + (F i - 48)) * 1000; omega
            · show a * 1000 + (F i - 48) * 100 = (a * 10 + (F i - 48)) * 100; omega
            · show a * 100 + (F i - 48) * 10 = (a * 10 + (F i - 48)) * 10; omega
            · show a * 10 + (F i - 48) * 1 = (a * 10 + (F i - 48)) * 1; omega
          rw [e4, if_neg (show ¬ (4 : Int32) ≤ nI k from nI_ge (b := 4) k4 (by omega)), show nI a * 10 = nI (a * 10) from pk_mul a 10, nI_add, lb_eq, show nI k + 1 = nI (k + 1) from nI_add k 1, et]
          have := ih (i + 1) (k + 1) (a * 10 + (F i - 48)) (q + 1) m1 S1 (by omega) (by omega) x4 h10 x3 (by omega) (by rw [← et]; exact ls)
          rw [e5] at this
          exact this.step x2 hE
        · have e4 : mn4 k = 4 := by unfold mn4; rw [if_neg k4]
          have e5 : mn4 (k + 1) = 4 := by unfold mn4; rw [if_neg (by omega)]
          have t1 : tn k = 1 := by unfold tn; rw [if_neg (by omega), if_neg (by omega), if_neg (by omega), if_neg (by omega)]
          have t2 : tn (k + 1) = 1 := by unfold tn; rw [if_neg (by omega), if_neg (by omega), if_neg (by omega), if_neg (by omega)]
          have w0 : wt k = 0 := by unfold wt; rw [if_neg (by omega), if_neg (by omega), if_neg (by omega), if_neg (by omega)]
          have et : a * tn k + (F i - 48) * wt k = a * tn (k + 1) := by rw [t1, t2, w0]; omega
          rw [e4, if_pos (show (4 : Int32) ≤ nI 4 by decide), et]
          have := ih (i + 1) (k + 1) a (q + 1) m1 S1 (by omega) (by omega) x4 h10 x3 (by omega) (by rw [← et]; exact ls)
          rw [e5] at this
          exact this.step x2 hE
      · have hq6 : q = 60000 := by omega
        subst hq6
        obtain ⟨m1, x1, x2, x3⟩ := k2 rfl
        have S1 := S.mf x2 ⟨rfl, rfl⟩
        have e71 : gI m1 1227 133 = nI (o' + i) := (x2.i rfl).trans e7
        have h4 := mn4_le (k := k)
        obtain ⟨N', rfl⟩ : ∃ N', N = N' + 1 := ⟨N - 1, by omega⟩
        refine VR.mo x2 x3 e71 h2 ?_ hE
        rw [x1, bd_eq, lb_eq]
        by_cases y4 : (4 : Int32) ≤ nI (mn4 k)
        · rw [if_pos y4]
          exact m_over139 S1 hd e71 h2 hn x3 h4
        · rw [if_neg y4, lb_eq, show nI (mn4 k) + 1 = nI (mn4 k + 1) from nI_add _ 1]
          refine m_over139 S1 hd e71 h2 hn x3 ?_
          by_cases u : mn4 k = 4
          · exact absurd (show (4 : Int32) ≤ nI (mn4 k) by rw [u]; decide) y4
          · omega
end F8
