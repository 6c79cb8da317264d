/-! A value whole, on the reference's side. -/
def pE (F : Nat → Nat) (n D : Nat) : Nat := if decide (bs F n D = 46) = true then dEnd F n (n - (D + 1)) (D + 1) else D
def pBq (F : Nat → Nat) (n D : Nat) : Nat := if decide (bs F n D = 46) = true then fvq F n (n - (D + 1)) (D + 1) 0 0 else 0
def mvH (f i : Nat) : Bool := i == 133 && (f == 1227 || f == 1232 || f == 1251 || f == 1253 || f == 1254)
def mvJ (f i : Nat) : Bool := i == 133 && (f == 1227 || f == 1232 || f == 1233 || f == 1251 || f == 1253 || f == 1254)
section F9
variable {c c' c0 c1 c2 c3 m m' m0 m1 m2 m3 T : Mm} {d w b A o M o' n p r q a i E : Nat} {F : Nat → Nat} {ov ov' ng sg : Bool} {g L : Nat → Int32} {Gc Gm : Gty} {PF QF : Nat → Nat → Bool} {PA QA : Nat → Bool}
theorem VR.w0 {r : Option (Unit × Mm)} (h : VR m o' n q i E w b ng r) {w' b' E' : Nat} (e1 : E' = E) (e2 : w' = w) (e3 : b' = b) : VR m o' n q i E' w' b' ng r := by rw [e1, e2, e3]; exact h
theorem m_115 (S : SRC c m d A o M o' n F) (hd : d ≤ 3) (hn : n ≤ 30000) (hw : w ≤ 32767) (hi : i ≤ n) (e7 : gI m 1227 133 = nI (o' + i)) (h0 : gI m 1233 133 = 0) (e1 : gI m 1232 133 = nI q) (hq : q ≤ 60000) : VR m o' n q i (pE F n i) w (pBq F n i) ng (f_X12_readValue_115 (cI ng) (nI w) 0 m) := by
  unfold f_X12_readValue_115 pE pBq
  rw [m_peek S hd e7 (by omega), bd_eq, h0, if_pos rfl]
  by_cases z : bs F n i = 46
  · have hlt := ((bs_eq (k := 46) S.g (by omega)).mp z).1
    rw [if_pos z, decide_eq_true z, if_pos rfl, if_pos rfl]
    obtain ⟨k1, k2⟩ := m_next S hd e7 hlt h0 e1 hq
    have hE := (dEnd_le (F := F) (n := n) (n - (i + 1)) (i + 1)).1
    by_cases y : q < 60000
    · obtain ⟨m1, x1, x2, x3, x4⟩ := k1 y
      rw [x1, bd_eq]
      have := m_l139 (ng := ng) hd hn hw FU (i + 1) 0 0 (q + 1) m1 (S.mf x2 ⟨rfl, rfl⟩) (FU_gt (by omega)) (by omega) x4 ((x2.i rfl).trans h0) x3 (by omega) (by rw [Nat.zero_mul]; exact Nat.zero_le _)
      exact VR.step (VR.w0 this rfl rfl (by rw [Nat.zero_mul])) x2 hE
    · have : q = 60000 := by omega
      subst this
      obtain ⟨m1, x1, x2, x3⟩ := k2 rfl
      have e71 : gI m1 1227 133 = nI (o' + i) := (x2.i rfl).trans e7
      refine VR.mo x2 x3 e71 hi ?_ hE
      rw [x1, bd_eq]
      exact m_over139 (N := 3999999999) (k := 0) (S.mf x2 ⟨rfl, rfl⟩) hd e71 hi hn x3 (by omega)
  · rw [if_neg z, decide_eq_false z, if_neg (by decide), if_neg (by decide)]
    have := m_end (m := m) (ng := ng) (w := w) (a := 0) (k := 0) (N := FU) (FU_gt (by omega)) hw (by omega)
    rw [Nat.zero_mul] at this
    exact VR.fin e1 hq e7 this
theorem m_l51 (hd : d ≤ 3) (hn : n ≤ 30000) : ∀ (N i w q : Nat) (m : Mm), SRC c m d A o M o' n F → n - i < N → i ≤ n → w ≤ 32767 → gI m 1227 133 = nI (o' + i) → gI m 1233 133 = 0 → gI m 1232 133 = nI q → q ≤ 60000 → VR m o' n q i (pE F n (dEnd F n (n - i) i)) (wv F n (n - i) i w) (pBq F n (dEnd F n (n - i) i)) ng (f_X12_readValue_l51 N (cI ng) (nI w) 0 m) := by
  intro N
  induction N with
  | zero => intro i w q m _ h; omega
  | succ N ih =>
    intro i w q m S h1 h2 hw e7 h0 e1 hq
    have n2 := S.n2 hd
    have fin : (isD F n i = false → dEnd F n (n - i) i = i ∧ wv F n (n - i) i w = w) := fun hz => by
      rcases Nat.eq_zero_or_pos (n - i) with y | y
      · rw [y]; exact ⟨rfl, rfl⟩
      · obtain ⟨f, hf⟩ : ∃ f, n - i = f + 1 := ⟨n - i - 1, by omega⟩
        rw [hf]; unfold dEnd wv
        rw [hz, if_neg (by decide), if_neg (by decide)]; exact ⟨rfl, rfl⟩
    show VR m o' n q i _ _ _ ng (f_X12_readValue_b51 (f_X12_readValue_l51 N) (cI ng) (nI w) 0 m)
    unfold f_X12_readValue_b51
    rw [m_peek S hd e7 (by omega), bd_eq, m_peek S hd e7 (by omega), bd_eq, h0, if_pos rfl, dig_if S.g]
    cases hz : isD F n i
    · rw [if_neg (by decide), ite_self, (fin hz).1, (fin hz).2]
      exact m_115 S hd hn hw h2 e7 h0 e1 hq
    · have z := isD_d hz
      obtain ⟨f, hf⟩ : ∃ f, n - i = f + 1 := ⟨n - i - 1, by omega⟩
      have hf2 : n - (i + 1) = f := by omega
      have eD : dEnd F n (n - i) i = dEnd F n (n - (i + 1)) (i + 1) := by
        rw [hf, hf2]; conv => lhs; unfold dEnd
        rw [hz, if_pos rfl]
      have eV : wv F n (n - i) i w = wv F n (n - (i + 1)) (i + 1) (if 10 * w + (F i - 48) ≤ 32767 then 10 * w + (F i - 48) else 32767) := by
        rw [hf, hf2]; conv => lhs; unfold wv
        rw [hz, if_pos rfl]
      have hE := (dEnd_le (F := F) (n := n) (n - (i + 1)) (i + 1)).1
      have hE2 : i + 1 ≤ pE F n (dEnd F n (n - (i + 1)) (i + 1)) := by
        unfold pE
        have := (dEnd_le (F := F) (n := n) (n - (dEnd F n (n - (i + 1)) (i + 1) + 1)) (dEnd F n (n - (i + 1)) (i + 1) + 1)).1
        split <;> omega
      obtain ⟨k1, k2⟩ := m_next S hd e7 z.1 h0 e1 hq
      rw [if_pos rfl, eD, eV]
      by_cases y : q < 60000
      · obtain ⟨m1, x1, x2, x3, x4⟩ := k1 y
        have S1 := S.mf x2 ⟨rfl, rfl⟩
        have h10 : gI m1 1233 133 = 0 := (x2.i rfl).trans h0
        rw [x1, bd_eq, lb_eq, show (48 : Int32) = nI 48 from rfl, pk_sub (by omega), show nI w * 10 = nI (w * 10) from pk_mul w 10, nI_add, show w * 10 + (F i - 48) = 10 * w + (F i - 48) by omega, lb_eq]
        by_cases y3 : 10 * w + (F i - 48) ≤ 32767
        · rw [if_pos (show nI (10 * w + (F i - 48)) ≤ 32767 from nI_le (b := 32767) y3 (by omega)), if_pos y3]
          exact (ih (i + 1) _ (q + 1) m1 S1 (by omega) (by omega) y3 x4 h10 x3 (by omega)).step x2 hE2
        · rw [if_neg (show ¬ nI (10 * w + (F i - 48)) ≤ 32767 from nI_ge (a := 32767) (by omega) (by omega)), if_neg y3]
          exact (ih (i + 1) 32767 (q + 1) m1 S1 (by omega) (by omega) (by omega) x4 h10 x3 (by omega)).step x2 hE2
      · have hq6 : q = 60000 := by omega
        subst hq6
        obtain ⟨m1, x1, x2, x3⟩ := k2 rfl
        have S1 := S.mf x2 ⟨rfl, rfl⟩
        have e71 : gI m1 1227 133 = nI (o' + i) := (x2.i rfl).trans e7
        obtain ⟨N', rfl⟩ : ∃ N', N = N' + 1 := ⟨N - 1, by omega⟩
        refine VR.mo x2 x3 e71 h2 ?_ hE2
        rw [x1, bd_eq, lb_eq, lb_eq]
        split
        · exact m_over51 (k := 0) S1 hd e71 h2 hn x3 (by omega)
        · exact m_over51 (k := 0) S1 hd e71 h2 hn x3 (by omega)
/-- the value whole -/
def VM (m : Mm) (o' n q p E w b : Nat) (ng sg : Bool) : Prop := (q + (E - p) ≤ 60000 → ∃ m', f_X12_readValue m = some ((), m') ∧ Fr mvH noA m m' ∧ gI m' 1232 133 = nI (q + (E - p)) ∧ gI m' 1227 133 = nI (o' + E) ∧ gI m' 1251 133 = iz (vz w ng) ∧ gJ m' 1253 133 = jz (ve w b ng) ∧ gI m' 1254 133 = cI sg) ∧ (60000 < q + (E - p) → ∃ m' p', f_X12_readValue m = some ((), m') ∧ Fr mvJ noA m m' ∧ gI m' 1233 133 = 1 ∧ gI m' 1227 133 = nI (o' + p') ∧ p' ≤ n)
theorem VM.of {r : Option (Unit × Mm)} (h : VR m1 o' n q p E w b ng r) (f : Fr (fun f i => i == 133 && f == 1254) noA m m1) (e : gI m1 1254 133 = cI sg) (hr : f_X12_readValue m = r) : VM m o' n q p E w b ng sg := by
  constructor
  · intro z
    obtain ⟨m', x1, x2, x3, x4, x5, x6⟩ := h.1 z
    exact ⟨m', hr.trans x1, (f.weak (fun f i e => by unfold mvH at e; revert e; simp; omega) (fun _ e => e)).trans (x2.weak (fun f i e => by unfold mvH at e; unfold mvF'; revert e; simp; omega) (fun _ e => e)), x3, x4, x5, x6, (x2.i rfl).trans e⟩
  · intro z
    obtain ⟨m', p', x1, x2, x3⟩ := h.2 z
    exact ⟨m', p', hr.trans x1, (f.weak (fun f i e => by unfold mvJ at e; revert e; simp; omega) (fun _ e => e)).trans (x2.weak (fun f i e => by unfold mvJ at e; unfold mvG'; revert e; simp; omega) (fun _ e => e)), x3⟩
theorem m_value (S : SRC c m d A o M o' n F) (hd : d ≤ 3) (hn : n ≤ 30000) (hp : p ≤ n) (e7 : gI m 1227 133 = nI (o' + p)) (h0 : gI m 1233 133 = 0) (e1 : gI m 1232 133 = nI q) (hq : q ≤ 60000) : VM m o' n q p (vE F n p) (vW F n p) (vBq F n p) (decide (bs F n p = 45)) (decide (bs F n p = 45 ∨ bs F n p = 43)) := by
  have fz : ∀ v, Fr (fun f i => i == 133 && f == 1254) noA m (uI m 1254 133 v) := fun v => Fr.refl.uI _ (by rfl)
  have S0 : ∀ v, SRC c (uI m 1254 133 v) d A o M o' n F := fun v => S.mf (fz v) ⟨rfl, rfl⟩
  have eE : vE F n p = pE F n (vD F n p) := rfl
  have eB : vBq F n p = pBq F n (vD F n p) := rfl
  have hE := vE_le S.g hp
  have hD := vD_le S.g hp
  have pk : f_X12_peek (uI m 1254 133 0) = some (bs F n p, uI m 1254 133 0) := m_peek (S0 0) hd (by rw [gI_uI, if_neg (by decide)]; exact e7) (by omega)
  by_cases hs : bs F n p = 45 ∨ bs F n p = 43
  · -- a sign
    have hlt : p < n := by
      rcases hs with y | y
      · exact ((bs_eq (k := 45) S.g (by omega)).mp y).1
      · exact ((bs_eq (k := 43) S.g (by omega)).mp y).1
    have es : vS F n p = p + 1 := by unfold vS; rw [if_pos hs]
    have fy : Fr (fun f i => i == 133 && f == 1254) noA m (uI (uI m 1254 133 0) 1254 133 1) := (fz 0).uI _ (by rfl)
    have Sy := S.mf fy ⟨rfl, rfl⟩
    obtain ⟨k1, k2⟩ := m_next Sy hd ((fy.i (by rfl)).trans e7) hlt ((fy.i (by rfl)).trans h0) ((fy.i (by rfl)).trans e1) hq
    have ey : gI (uI (uI m 1254 133 0) 1254 133 1) 1254 133 = cI (decide (bs F n p = 45 ∨ bs F n p = 43)) := by rw [gI_uI, if_pos ⟨rfl, rfl⟩, decide_eq_true hs]; rfl
    have main : ∀ ng : Bool, VR (uI (uI m 1254 133 0) 1254 133 1) o' n q p (vE F n p) (vW F n p) (vBq F n p) ng (bd (f_X12_next (uI (uI m 1254 133 0) 1254 133 1)) fun _ T3 => f_X12_readValue_l51 FU (cI ng) 0 0 T3) := fun ng => by
      by_cases y : q < 60000
      · obtain ⟨m1, x1, x2, x3, x4⟩ := k1 y
        have := m_l51 (ng := ng) hd hn FU (p + 1) 0 (q + 1) m1 (Sy.mf x2 ⟨rfl, rfl⟩) (FU_gt (by omega)) (by omega) (by omega) x4 ((x2.i rfl).trans ((fy.i (by rfl)).trans h0)) x3 (by omega)
        have eW : vW F n p = wv F n (n - (p + 1)) (p + 1) 0 := by unfold vW; rw [es]
        have eD : vD F n p = dEnd F n (n - (p + 1)) (p + 1) := by unfold vD; rw [es]
        rw [x1, bd_eq]
        exact VR.step (VR.w0 this (by rw [eE, eD]) eW (by rw [eB, eD])) x2 (by omega)
      · have : q = 60000 := by omega
        subst this
        obtain ⟨m1, x1, x2, x3⟩ := k2 rfl
        have e71 : gI m1 1227 133 = nI (o' + p) := (x2.i rfl).trans ((fy.i (by rfl)).trans e7)
        rw [x1, bd_eq]
        exact VR.mo x2 x3 e71 hp (m_over51 (N := 3999999999) (k := 0) (Sy.mf x2 ⟨rfl, rfl⟩) hd e71 hp hn x3 (by omega)) (by omega)
    by_cases q45 : bs F n p = 45
    · rw [decide_eq_true q45] at *
      refine VM.of (main true) fy (by rw [ey, decide_eq_true hs]) ?_
      unfold f_X12_readValue f_X12_readValue_24
      rw [lb_eq, pk, bd_eq, q45, if_neg (show ¬ (45 : Int32) = 43 by decide), if_pos rfl, lb_eq, if_pos rfl]
      rfl
    · have q43 : bs F n p = 43 := hs.resolve_left q45
      have e45 : decide (bs F n p = 45) = false := decide_eq_false q45
      rw [e45]
      refine VM.of (main false) fy ey ?_
      unfold f_X12_readValue f_X12_readValue_24
      rw [lb_eq, pk, bd_eq, q43, if_pos rfl, lb_eq, if_neg (show ¬ (43 : Int32) = 45 by decide)]
      rfl
  · have es : vS F n p = p := by unfold vS; rw [if_neg hs]
    have n45 : ¬ bs F n p = 45 := fun y => hs (Or.inl y)
    have n43 : ¬ bs F n p = 43 := fun y => hs (Or.inr y)
    have eW : vW F n p = wv F n (n - p) p 0 := by unfold vW; rw [es]
    have eD : vD F n p = dEnd F n (n - p) p := by unfold vD; rw [es]
    have := m_l51 (ng := false) hd hn FU p 0 q _ (S0 0) (FU_gt (by omega)) hp (by omega) (((fz 0).i (by rfl)).trans e7) (((fz 0).i (by rfl)).trans h0) (((fz 0).i (by rfl)).trans e1) hq
    rw [decide_eq_false n45, decide_eq_false hs]
    refine VM.of (VR.w0 this (by rw [eE, eD]) eW (by rw [eB, eD])) (fz 0) (by rw [gI_uI, if_pos ⟨rfl, rfl⟩]; rfl) ?_
    unfold f_X12_readValue
    rw [lb_eq, pk, bd_eq, if_neg n43, if_neg n45]
    rfl
end F9
