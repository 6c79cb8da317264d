/-! A row is unpacked, on both sides; a row laid in the class's line. -/
section H4
variable {c c' c0 c1 c2 c3 m m' m0 m1 m2 m3 T M' : Mm} {d w b A o M o' n p r q a i s f k u h rb t v fl cnt wd sc st : Nat} {F : Nat → Nat} {ov ov' ng sg z : Bool} {g L : Nat → Int32} {Gc Gm : Gty} {PF QF : Nat → Nat → Bool} {PA QA : Nat → Bool}
theorem two_unpack (h : RR d ov c m) (h4 : DT c m d A o M o' n F p s) : ∃ c' m', f_X4_unpack 48 (125 + d) c = some ((), c') ∧ f_X12_unpack (nI s) m = some ((), m') ∧ UE c m c' m' := by
  have hd := h.d3
  have n1 := h4.1.n1
  have hps := h4.2.2.2.1
  obtain ⟨k, k1, k2⟩ := h.eb.k54
  have e401 : gI c 401 48 = nI k := (h.ev.i (401, 3, 54) (by decide)).trans k1
  obtain ⟨m1, hm1⟩ : ∃ m1, m1 = uI m 1255 133 0 := ⟨_, rfl⟩
  have fm1 : Fr f55 a134 m m1 := by rw [hm1]; exact Fr.refl.uI _ (by rfl)
  have em1 : ∀ j, gA m1 134 j = gA m 134 j := fun j => by rw [hm1]; rfl
  have e55 : gI m1 1255 133 = nI 0 := by rw [hm1, gI_uI, if_pos ⟨rfl, rfl⟩]; rfl
  obtain ⟨c1, hc1⟩ : ∃ c1, c1 = vA c 49 (fun j => if j < LN 49 then 0 else gA c 49 j) := ⟨_, rfl⟩
  have fc1 : Fr nF a49 c c1 := by rw [hc1]; exact Fr.refl.vA _ (by rfl)
  have white : ∀ i, i < 640 → rwC c1 i = false := fun i hi => by
    unfold rwC
    rw [hc1, gA_vA, if_pos rfl, if_pos (show i / 32 < LN 49 from (show i / 32 < 20 by omega)), b_0]
  have up1 : UP true 0 c m c1 m1 := ⟨fc1, fm1, fun j _ => em1 j, fun i hi => ⟨fun y => by
    rcases y with y | y
    · cases y
    · omega, fun _ _ => white i hi⟩, e55⟩
  have up0 : UP false 0 c m c m1 := ⟨Fr.refl, fm1, fun j _ => em1 j, fun i hi => ⟨fun _ => by
    have := h.ev.b i hi
    unfold rwC rwM
    rw [em1]; exact this, fun y => by cases y⟩, e55⟩
  have cl : f_X4_clearRow 48 c = some ((), c1) := by
    unfold f_X4_clearRow
    rw [f_fill (by decide), bd_eq, hc1]
  have e401' : gI c1 401 48 = nI k := (fc1.i rfl).trans e401
  have e54 : gA m1 134 54 = nI k := (em1 54).trans k1
  unfold f_X4_unpack f_X12_unpack
  rw [e401, lb_eq, ← hm1, e54, cl, bd_eq]
  unfold f_X4_unpack_12
  rw [lb_eq, lb_eq, e401, e401']
  rcases (show k = 0 ∨ k = 1 ∨ k = 2 ∨ k = 3 by omega) with rfl | rfl | rfl | rfl
  · rw [if_neg (show ¬ nI 0 = 3 by decide), if_neg (show ¬ nI 0 = 1 by decide), if_neg (show ¬ nI 0 = 2 by decide), if_neg (show ¬ nI 0 = 3 by decide), if_neg (show ¬ nI 0 = 3 by decide), if_pos (show nI 0 = 0 from rfl)]
    exact two_mode0 h4 hd FU FU 0 c1 m1 (FU_gt (by omega)) (FU_gt (by omega)) (by omega) up1
  · obtain ⟨T', W', x1, x2, x3⟩ := two_mode1 h4 hd FU FU 0 0 c1 m1 (FU_gt (by omega)) (FU_gt (by omega)) (by omega) (by omega) up1
    have x1' : f_X4_unpackPairs 48 (125 + d) c1 = some ((), T') := x1
    rw [if_neg (show ¬ nI 1 = 3 by decide), if_pos (show nI 1 = 1 from rfl), x1', bd_eq, if_neg (show ¬ nI 1 = 3 by decide), if_neg (show ¬ nI 1 = 0 by decide), if_pos (show nI 1 = 1 from rfl)]
    exact ⟨T', W', rfl, x2, x3⟩
  · obtain ⟨T', W', x1, x2, x3⟩ := two_mode2 h4 hd FU FU 0 0 c1 m1 (FU_gt (by omega)) (FU_gt (by omega)) (by omega) (by omega) up1
    have x1' : f_X4_unpackMixed 48 (125 + d) c1 = some ((), T') := x1
    rw [if_neg (show ¬ nI 2 = 3 by decide), if_neg (show ¬ nI 2 = 1 by decide), if_pos (show nI 2 = 2 from rfl), x1', bd_eq, if_neg (show ¬ nI 2 = 3 by decide), if_neg (show ¬ nI 2 = 0 by decide), if_neg (show ¬ nI 2 = 1 by decide)]
    exact ⟨T', W', rfl, x2, x3⟩
  · obtain ⟨T', W', x1, x2, x3⟩ := two_mode3 h4 hd FU FU 0 0 c m1 (FU_gt (by omega)) (FU_gt (by omega)) (by omega) (by omega) up0
    have x1' : f_X4_unpackChanges 48 (125 + d) c = some ((), T') := x1
    have x2' : f_X12_changed (nI s) m1 = some ((), W') := x2
    rw [if_pos (show nI 3 = 3 from rfl), if_neg (show ¬ nI 3 = 1 by decide), if_neg (show ¬ nI 3 = 2 by decide), if_pos (show nI 3 = 3 from rfl), x1', bd_eq, if_pos (show nI 3 = 3 from rfl), x2', bd_eq]
    exact ⟨T', W', rfl, rfl, x3⟩
/-! the class's line -/
def lnR (R : Nat → Bool) (st sc fr X : Nat) : Bool := decide (st ≤ X) && (decide ((X - st) / sc < fr) && R ((X - st) / sc))
theorem c_l28 (e405 : gI c 405 48 = nI st) (e400 : gI c 400 48 = nI sc) (hst : st ≤ 800) (hs1 : 1 ≤ sc) (hs4 : sc ≤ 4) (w1 : 1 ≤ wd) (w2 : wd ≤ 640) : ∀ (N fr x : Nat) (T : Mm), wd - fr < N → x ≤ fr → fr ≤ wd → (fr < wd → rwC c fr = true) → Fr nF a26 c T → (∀ X, X < 800 → dotW (gA T 26) 0 X = lnR (rwC c) st sc fr X) → ∃ c', f_X0_layRow_l28 N 48 (nI wd) (nI fr) (nI x) T = some ((), c') ∧ Fr nF a26 c c' ∧ ∀ X, X < 800 → dotW (gA c' 26) 0 X = lnR (rwC c) st sc wd X := by
  intro N
  induction N with
  | zero => intro fr x T h; omega
  | succ N ih =>
    intro fr x T h1 h2 h3 h5 h6 h7
    have ln49 : LN 49 = 20 := rfl
    have e49 : gA T 49 = gA c 49 := h6.a rfl
    have eR : ∀ X, dotW (gA T 49) 0 X = rwC c X := fun X => by unfold dotW rwC; rw [e49, Nat.zero_add]
    have eRf : dotW (gA T 49) 0 = rwC c := funext eR
    show ∃ c', f_X0_layRow_b28 (f_X0_layRow_l28 N) 48 (nI wd) (nI fr) (nI x) T = _ ∧ _
    unfold f_X0_layRow_b28
    by_cases q : wd ≤ fr
    · have : fr = wd := by omega
      subst this
      rw [if_pos (Int32.le_refl (nI fr)), ite_self]
      exact ⟨T, rfl, h6, h7⟩
    · have hto1 := fo_ge (P := rwC c) (c := true) (show fr ≤ wd by omega)
      have hto2 := fo_le (P := rwC c) (fr := fr) (wd := wd) (c := true)
      have hto3 : fr < fo (rwC c) fr wd true := by
        rcases Nat.lt_or_ge fr (fo (rwC c) fr wd true) with y | y
        · exact y
        · have e : fo (rwC c) fr wd true = fr := by omega
          have := fo_ne (P := rwC c) (fr := fr) (wd := wd) (c := true) (by omega)
          rw [e] at this
          exact absurd (h5 (by omega)) this
      have f1 : f_X11_firstOther 49 (nI 0) (nI fr) (nI wd) (cI true) T = some (nI (fo (rwC c) fr wd true), T) := by
        rw [← eRf]; exact f_fo (by rw [ln49]; omega) (by rw [ln49]; decide) (by omega) (by omega)
      have f1' : f_X11_firstOther (48 + 1) 0 (nI fr) (nI wd) 1 T = some (nI (fo (rwC c) fr wd true), T) := f1
      rw [if_neg (nI_ge (by omega) (by omega)), if_neg (nI_ge (by omega) (by omega)), f1', bd_eq, show gI T 405 48 = nI st from (h6.i rfl).trans e405, show gI T 400 48 = nI sc from (h6.i rfl).trans e400, pk_mul, nI_add, pk_mul, nI_add, lb_eq, lb_eq]
      have hge := fo_ge (P := rwC c) (c := false) hto2
      have hle := fo_le (P := rwC c) (fr := fo (rwC c) fr wd true) (wd := wd) (c := false)
      have hff := fun j (a : fo (rwC c) fr wd true ≤ j) (b : j < fo (rwC c) (fo (rwC c) fr wd true) wd false) => fo_eq (P := rwC c) a b
      have htt := fun j (a : fr ≤ j) (b : j < fo (rwC c) fr wd true) => fo_eq (P := rwC c) a b
      have hnn := fo_ne (P := rwC c) (fr := fo (rwC c) fr wd true) (wd := wd) (c := false)
      revert hto2 hto3 hge hle hff htt hnn
      generalize fo (rwC c) fr wd true = to
      intro hto2 hto3 hge hle hff htt hnn
      have m1 : to * sc ≤ 640 * 4 := Nat.mul_le_mul (by omega) (by omega)
      have m2 : fr * sc ≤ 640 * 4 := Nat.mul_le_mul (by omega) (by omega)
      have emin : (if (800 : Int32) < nI (st + to * sc) then (800 : Int32) else nI (st + to * sc)) = nI (if 800 < st + to * sc then 800 else st + to * sc) := by
        by_cases y : 800 < st + to * sc
        · rw [if_pos (show (800 : Int32) < nI (st + to * sc) from nI_lt (a := 800) y (by omega)), if_pos y]; rfl
        · rw [if_neg (show ¬ (800 : Int32) < nI (st + to * sc) from nI_nlt (a := 800) (by omega) (by omega)), if_neg y]
      obtain ⟨g, b1, b2, _⟩ := c_black (T := T) (a := 26) (rw := 0) (fr := st + fr * sc) (t := if 800 < st + to * sc then 800 else st + to * sc) (fun x hx => by
        rw [show LN 26 = 25 from rfl]
        split at hx <;> omega) (by decide) (by omega) (by split <;> omega)
      have b1' : f_X11_blacken 26 0 (nI (st + fr * sc)) (nI (if 800 < st + to * sc then 800 else st + to * sc)) T = some ((), vA T 26 g) := b1
      have fT : Fr nF a26 c (vA T 26 g) := h6.vA _ (by rfl)
      have e49' : gA (vA T 26 g) 49 = gA c 49 := fT.a rfl
      have eRf' : dotW (gA (vA T 26 g) 49) 0 = rwC c := funext fun X => by unfold dotW rwC; rw [e49', Nat.zero_add]
      have f2 : f_X11_firstOther 49 (nI 0) (nI to) (nI wd) (cI false) (vA T 26 g) = some (nI (fo (rwC c) to wd false), vA T 26 g) := by
        rw [← eRf']; exact f_fo (by rw [ln49]; omega) (by rw [ln49]; decide) (by omega) (by omega)
      have f2' : f_X11_firstOther (48 + 1) 0 (nI to) (nI wd) 0 (vA T 26 g) = some (nI (fo (rwC c) to wd false), vA T 26 g) := f2
      rw [f_min, bd_eq, emin, b1', bd_eq, f2', bd_eq, show nI x + 1 = nI (x + 1) from nI_add x 1]
      refine ih _ (x + 1) _ (by omega) (by omega) hle (fun y => by
        have := hnn y
        cases hz : rwC c (fo (rwC c) to wd false)
        · exact absurd hz this
        · rfl) fT (fun X hX => ?_)
      rw [show gA (vA T 26 g) 26 = g from funext fun j => by rw [gA_vA, if_pos rfl], b2, h7 X hX]
      unfold lnR
      by_cases y : st ≤ X
      · have d1 : (st + fr * sc ≤ X) ↔ fr ≤ (X - st) / sc := by
          rw [Nat.le_div_iff_mul_le (by omega)]; omega
        have d2 : (X < st + to * sc) ↔ (X - st) / sc < to := by
          rw [Nat.div_lt_iff_lt_mul (by omega)]; omega
        rw [decide_eq_true y, Bool.true_and, Bool.true_and]
        revert d1 d2
        generalize (X - st) / sc = k
        intro d1 d2
        have d3 : X < (if 800 < st + to * sc then 800 else st + to * sc) ↔ k < to := by
          rw [← d2]; split <;> omega
        by_cases k1 : k < fr
        · rw [decide_eq_true k1, decide_eq_false (show ¬ st + fr * sc ≤ X from fun u => by have := d1.mp u; omega), decide_eq_true (show k < fo (rwC c) to wd false by omega)]
          simp
        · by_cases k2 : k < to
          · rw [decide_eq_false k1, decide_eq_true (d1.mpr (by omega)), decide_eq_true (d3.mpr k2), decide_eq_true (show k < fo (rwC c) to wd false by omega), htt k (by omega) k2]
            rfl
          · rw [decide_eq_false k1, decide_eq_false (show ¬ X < _ from fun u => k2 (d3.mp u))]
            by_cases k3 : k < fo (rwC c) to wd false
            · rw [hff k (by omega) k3]; simp
            · rw [decide_eq_false k3]; simp
      · rw [decide_eq_false y, decide_eq_false (show ¬ st + fr * sc ≤ X by omega)]
        simp
theorem c_layRow (e405 : gI c 405 48 = nI st) (e400 : gI c 400 48 = nI sc) (edir : ∀ T, gI T 402 48 = gI c 402 48 → f_X4_dotsInRow 48 T = some (nI wd, T)) (hst : st ≤ 800) (hs1 : 1 ≤ sc) (hs4 : sc ≤ 4) (w1 : 1 ≤ wd) (w2 : wd ≤ 640) : ∃ c', f_X0_layRow 48 c = some ((), c') ∧ Fr nF a26 c c' ∧ ∀ X, X < 800 → dotW (gA c' 26) 0 X = lnR (rwC c) st sc wd X := by
  have ln49 : LN 49 = 20 := rfl
  unfold f_X0_layRow
  rw [f_fill (by decide), bd_eq]
  obtain ⟨T, hT⟩ : ∃ T, T = vA c 26 (fun j => if j < LN 26 then 0 else gA c 26 j) := ⟨_, rfl⟩
  have fT : Fr nF a26 c T := by rw [hT]; exact Fr.refl.vA _ (by rfl)
  have e49 : gA T 49 = gA c 49 := fT.a rfl
  have eRf : dotW (gA T 49) 0 = rwC c := funext fun X => by unfold dotW rwC; rw [e49, Nat.zero_add]
  have z : ∀ X, X < 800 → dotW (gA T 26) 0 X = false := fun X hX => by
    unfold dotW
    rw [hT, gA_vA, if_pos rfl, if_pos (show 0 + X / 32 < LN 26 from (show 0 + X / 32 < 25 by omega)), b_0]
  have f1 : f_X11_firstOther 49 (nI 0) (nI 0) (nI wd) (cI false) T = some (nI (fo (rwC c) 0 wd false), T) := by
    rw [← eRf]; exact f_fo (by rw [ln49]; omega) (by rw [ln49]; decide) (by omega) (by omega)
  have f1' : f_X11_firstOther (48 + 1) 0 0 (nI wd) 0 T = some (nI (fo (rwC c) 0 wd false), T) := f1
  rw [← hT, edir T (fT.i rfl), bd_eq, f1', bd_eq]
  have hle := fo_le (P := rwC c) (fr := 0) (wd := wd) (c := false)
  have hff := fun j (a : 0 ≤ j) (b : j < fo (rwC c) 0 wd false) => fo_eq (P := rwC c) a b
  have hnn := fo_ne (P := rwC c) (fr := 0) (wd := wd) (c := false)
  have := c_l28 e405 e400 hst hs1 hs4 w1 w2 FU (fo (rwC c) 0 wd false) 0 T (FU_gt (by omega)) (by omega) hle (fun y => by
    have := hnn y
    cases hz : rwC c (fo (rwC c) 0 wd false)
    · exact absurd hz this
    · rfl) fT (fun X hX => by
    rw [z X hX]
    unfold lnR
    by_cases k3 : (X - st) / sc < fo (rwC c) 0 wd false
    · rw [hff _ (Nat.zero_le _) k3]; simp
    · rw [decide_eq_false k3]; simp)
  exact this
end H4
