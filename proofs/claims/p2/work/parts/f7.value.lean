/-! A value is read, on the class's side. -/
def isD (F : Nat → Nat) (n i : Nat) : Bool := decide (i < n) && (decide (48 ≤ F i) && decide (F i ≤ 57))
def dEnd (F : Nat → Nat) (n : Nat) : Nat → Nat → Nat
  | 0, i => i
  | f + 1, i => if isD F n i = true then dEnd F n f (i + 1) else i
def wv (F : Nat → Nat) (n : Nat) : Nat → Nat → Nat → Nat
  | 0, _, w => w
  | f + 1, i, w => if isD F n i = true then wv F n f (i + 1) (if 10 * w + (F i - 48) ≤ 32767 then 10 * w + (F i - 48) else 32767) else w
def wt (k : Nat) : Nat := if k = 0 then 1000 else if k = 1 then 100 else if k = 2 then 10 else if k = 3 then 1 else 0
def fvq (F : Nat → Nat) (n : Nat) : Nat → Nat → Nat → Nat → Nat
  | 0, _, _, b => b
  | f + 1, i, k, b => if isD F n i = true then fvq F n f (i + 1) (k + 1) (b + (F i - 48) * wt k) else b
/-- where the digits begin, end; whether a point stands there; the end of the value -/
def vS (F : Nat → Nat) (n p : Nat) : Nat := if bs F n p = 45 ∨ bs F n p = 43 then p + 1 else p
def vD (F : Nat → Nat) (n p : Nat) : Nat := dEnd F n (n - vS F n p) (vS F n p)
def vP (F : Nat → Nat) (n p : Nat) : Bool := decide (bs F n (vD F n p) = 46)
def vE (F : Nat → Nat) (n p : Nat) : Nat := if vP F n p = true then dEnd F n (n - (vD F n p + 1)) (vD F n p + 1) else vD F n p
def vW (F : Nat → Nat) (n p : Nat) : Nat := wv F n (n - vS F n p) (vS F n p) 0
def vBq (F : Nat → Nat) (n p : Nat) : Nat := if vP F n p = true then fvq F n (n - (vD F n p + 1)) (vD F n p + 1) 0 0 else 0
def vF (d : Nat) (f i : Nat) : Bool := i == 125 + d && (f == 507 || f == 508 || f == 509 || f == 510)
section F7
variable {c c' c0 c1 c2 c3 m m' m0 m1 m2 m3 T : Mm} {d w b A o M o' n p r q a i : Nat} {F : Nat → Nat} {ov ov' ng sg : Bool} {g L : Nat → Int32} {Gc Gm : Gty} {PF QF : Nat → Nat → Bool} {PA QA : Nat → Bool}
theorem dEnd_le : ∀ (f i : Nat), i ≤ dEnd F n f i ∧ (i ≤ n → dEnd F n f i ≤ n) := by
  intro f
  induction f with
  | zero => intro i; exact ⟨Nat.le_refl _, id⟩
  | succ f ih =>
    intro i
    unfold dEnd
    split
    · rename_i h
      have : i < n := by
        unfold isD at h
        simp only [Bool.and_eq_true, decide_eq_true_eq] at h
        exact h.1
      have := ih (i + 1)
      exact ⟨by omega, fun _ => this.2 (by omega)⟩
    · exact ⟨Nat.le_refl _, id⟩
theorem bs_eq {k : Nat} (hF : ∀ i, F i < 256) (hk : k < 256) : bs F n p = nI k ↔ p < n ∧ F p = k := by
  unfold bs
  by_cases q : p < n
  · rw [if_pos q]
    have := hF p
    exact ⟨fun e => ⟨q, (nI_eq (by omega) (by omega)).mp e⟩, fun e => by rw [e.2]⟩
  · rw [if_neg q]
    refine ⟨fun e => ?_, fun e => absurd e.1 q⟩
    have := congrArg Int32.toInt e
    rw [nI_toInt (by omega)] at this
    have h2 : (-1 : Int32).toInt = -1 := by decide
    omega
theorem vS_le (hF : ∀ i, F i < 256) (hp : p ≤ n) : p ≤ vS F n p ∧ vS F n p ≤ n := by
  unfold vS
  split
  · rename_i h
    have : p < n := by
      rcases h with h | h
      · exact ((bs_eq (k := 45) hF (by omega)).mp h).1
      · exact ((bs_eq (k := 43) hF (by omega)).mp h).1
    omega
  · omega
theorem vD_le (hF : ∀ i, F i < 256) (hp : p ≤ n) : vS F n p ≤ vD F n p ∧ vD F n p ≤ n := by
  have h := vS_le hF hp
  have := dEnd_le (F := F) (n := n) (n - vS F n p) (vS F n p)
  exact ⟨this.1, this.2 h.2⟩
theorem vE_le (hF : ∀ i, F i < 256) (hp : p ≤ n) : vD F n p ≤ vE F n p ∧ vE F n p ≤ n := by
  have h := vD_le hF hp
  unfold vE
  split
  · rename_i hv
    unfold vP at hv
    have hv := (bs_eq (k := 46) hF (by omega)).mp (of_decide_eq_true hv)
    have := dEnd_le (F := F) (n := n) (n - (vD F n p + 1)) (vD F n p + 1)
    exact ⟨by omega, this.2 (by omega)⟩
  · omega
theorem wv_le : ∀ (f i w : Nat), w ≤ 32767 → wv F n f i w ≤ 32767 := by
  intro f
  induction f with
  | zero => intro i w h; exact h
  | succ f ih =>
    intro i w h
    unfold wv
    split
    · exact ih _ _ (by split <;> omega)
    · exact h
theorem isD_d (h : isD F n i = true) : i < n ∧ 48 ≤ F i ∧ F i ≤ 57 := by
  unfold isD at h
  simp only [Bool.and_eq_true, decide_eq_true_eq] at h
  exact ⟨h.1, h.2.1, h.2.2⟩
def lim (k : Nat) : Nat := if k = 0 then 0 else if k = 1 then 9000 else if k = 2 then 9900 else if k = 3 then 9990 else 9999
theorem lim_s {k v b : Nat} (hv : v ≤ 9) (hb : b ≤ lim k) : b + v * wt k ≤ lim (k + 1) := by
  rcases (show k = 0 ∨ k = 1 ∨ k = 2 ∨ k = 3 ∨ 4 ≤ k by omega) with rfl | rfl | rfl | rfl | h
  · have : b ≤ 0 := hb
    show b + v * 1000 ≤ 9000; omega
  · have : b ≤ 9000 := hb
    show b + v * 100 ≤ 9900; omega
  · have : b ≤ 9900 := hb
    show b + v * 10 ≤ 9990; omega
  · have : b ≤ 9990 := hb
    show b + v * 1 ≤ 9999; omega
  · have e1 : lim k = 9999 := by unfold lim; rw [if_neg (by omega), if_neg (by omega), if_neg (by omega), if_neg (by omega)]
    have e2 : lim (k + 1) = 9999 := by unfold lim; rw [if_neg (by omega), if_neg (by omega), if_neg (by omega), if_neg (by omega)]
    have e3 : wt k = 0 := by unfold wt; rw [if_neg (by omega), if_neg (by omega), if_neg (by omega), if_neg (by omega)]
    rw [e3, e2]; omega
theorem lim_9 {k : Nat} : lim k ≤ 9999 := by unfold lim; split <;> (try split) <;> (try split) <;> (try split) <;> omega
theorem wt_d {k : Nat} : wt k / 10 = wt (k + 1) ∧ wt k ≤ 1000 := by
  rcases (show k = 0 ∨ k = 1 ∨ k = 2 ∨ k = 3 ∨ 4 ≤ k by omega) with rfl | rfl | rfl | rfl | h
  · exact ⟨rfl, by decide⟩
  · exact ⟨rfl, by decide⟩
  · exact ⟨rfl, by decide⟩
  · exact ⟨rfl, by decide⟩
  · have e3 : wt k = 0 := by unfold wt; rw [if_neg (by omega), if_neg (by omega), if_neg (by omega), if_neg (by omega)]
    have e4 : wt (k + 1) = 0 := by unfold wt; rw [if_neg (by omega), if_neg (by omega), if_neg (by omega), if_neg (by omega)]
    rw [e3, e4]; exact ⟨rfl, by omega⟩
theorem fvq_le : ∀ (f i k b : Nat), b ≤ lim k → fvq F n f i k b ≤ 9999 := by
  intro f
  induction f with
  | zero => intro i k b h; exact Nat.le_trans h lim_9
  | succ f ih =>
    intro i k b h
    unfold fvq
    split
    · rename_i hd
      have := isD_d hd
      exact ih _ _ _ (lim_s (by omega) h)
    · exact Nat.le_trans h lim_9
theorem c_isD (h : SRC c m d A o M o' n F) {i : Nat} (hi : i < 40000) : f_X5_isDigit (125 + d) (nI (o + i)) c = some (cI (isD F n i), c) := by
  unfold f_X5_isDigit isD
  rw [c_byteAt h hi, bd_eq]
  unfold bs
  by_cases q : i < n
  · have hF := h.g i
    rw [if_pos q, decide_eq_true q, Bool.true_and]
    by_cases q1 : F i < 48
    · rw [if_pos (show nI (F i) < 48 from nI_lt (b := 48) q1 (by omega)), decide_eq_false (by omega), Bool.false_and]; rfl
    · rw [if_neg (show ¬ nI (F i) < 48 from nI_nlt (b := 48) (by omega) (by omega)), decide_eq_true (show 48 ≤ F i by omega), Bool.true_and]
      by_cases q2 : 57 < F i
      · rw [if_pos (show 57 < nI (F i) from nI_lt (a := 57) q2 (by omega)), decide_eq_false (by omega)]; rfl
      · rw [if_neg (show ¬ 57 < nI (F i) from nI_nlt (a := 57) (by omega) (by omega)), decide_eq_true (by omega)]; rfl
  · rw [if_neg q, decide_eq_false q, Bool.false_and, if_pos (by decide)]; rfl
theorem vF_e {f i : Nat} (e : (i == 125 + d && (f == 507 || f == 508 || f == 509 || f == 510)) = false) : vF d f i = false := e
theorem SRC.vf (h : SRC c m d A o M o' n F) (f : Fr (vF d) noA c c') : SRC c' m d A o M o' n F := h.fr f (Fr.refl (PF := nF) (PA := noA)) ⟨by unfold vF; simp, by unfold vF; simp⟩ ⟨rfl, fun _ => rfl⟩ ⟨rfl, rfl⟩ rfl (fun _ _ => rfl)
/-- the digits ahead of the point -/
theorem c_l68 (h : SRC c m d A o M o' n F) (hn : n ≤ 30000) : ∀ (N i w : Nat) (T : Mm), n - i < N → i ≤ n → w ≤ 32767 → Fr (vF d) noA c T → gI T 509 (125 + d) = nI w → ∃ T', f_X5_readValue_l68 N (125 + d) (nI (o + i)) T = f_X5_readValue_116 (125 + d) (nI (o + dEnd F n (n - i) i)) T' ∧ Fr (vF d) noA c T' ∧ gI T' 509 (125 + d) = nI (wv F n (n - i) i w) ∧ Fr (fun f i => i == 125 + d && f == 509) noA T T' := by
  have n1 := h.n1
  intro N
  induction N with
  | zero => intro i w T h1; omega
  | succ N ih =>
    intro i w T h1 h2 h3 h4 h5
    have S := h.vf h4
    show ∃ T', f_X5_readValue_b68 (f_X5_readValue_l68 N) (125 + d) (nI (o + i)) T = _ ∧ _
    unfold f_X5_readValue_b68
    rw [S.e]
    by_cases q : i = n
    · subst q
      rw [if_pos (Int32.le_refl _), Nat.sub_self]
      exact ⟨T, rfl, h4, h5, Fr.refl⟩
    · rw [if_neg (nI_ge (by omega) (by omega)), c_isD S (by omega), bd_eq]
      obtain ⟨f, hf⟩ : ∃ f, n - i = f + 1 := ⟨n - i - 1, by omega⟩
      have hf2 : n - (i + 1) = f := by omega
      cases hd : isD F n i
      · rw [if_pos (show cI false = 0 from rfl), hf]
        unfold dEnd wv
        rw [hd, if_neg (by decide), if_neg (by decide)]
        exact ⟨T, rfl, h4, h5, Fr.refl⟩
      · have z := isD_d hd
        rw [if_neg (show ¬ cI true = 0 by decide), c_byteAt S (by omega), bd_eq, h5]
        unfold bs
        have eb : (((10 : Int32) * nI w) + nI (F i)) - 48 = nI (10 * w + (F i - 48)) := by
          rw [show (10 : Int32) * nI w = nI (10 * w) from pk_mul 10 w, nI_add, show (48 : Int32) = nI 48 from rfl, pk_sub (by omega)]
          congr 1; omega
        have e67 : (if (32767 : Int32) < nI (10 * w + (F i - 48)) then (32767 : Int32) else nI (10 * w + (F i - 48))) = nI (if 10 * w + (F i - 48) ≤ 32767 then 10 * w + (F i - 48) else 32767) := by
          by_cases y : 10 * w + (F i - 48) ≤ 32767
          · rw [if_neg (show ¬ (32767 : Int32) < nI _ from nI_nlt (a := 32767) y (by omega)), if_pos y]
          · rw [if_pos (show (32767 : Int32) < nI _ from nI_lt (a := 32767) (by omega) (by omega)), if_neg y]; rfl
        rw [if_pos z.1, eb, f_min, bd_eq, e67, lb_eq, show nI (o + i) + 1 = nI (o + (i + 1)) from nI_add _ 1]
        obtain ⟨T', x1, x2, x3, x4⟩ := ih (i + 1) (if 10 * w + (F i - 48) ≤ 32767 then 10 * w + (F i - 48) else 32767) (uI T 509 (125 + d) (nI (if 10 * w + (F i - 48) ≤ 32767 then 10 * w + (F i - 48) else 32767))) (by omega) (by omega) (by split <;> omega) (h4.uI _ (by unfold vF; simp)) (by rw [gI_uI, if_pos ⟨rfl, rfl⟩])
        rw [hf2] at x1 x3
        refine ⟨T', ?_, x2, ?_, (Fr.refl.uI _ (by simp)).trans x4⟩
        · rw [x1, hf]
          conv => rhs; unfold dEnd
          rw [hd, if_pos rfl]
        · rw [x3, hf]
          conv => rhs; unfold wv
          rw [hd, if_pos rfl]
/-- the digits behind it -/
theorem c_l133 (h : SRC c m d A o M o' n F) (e1 : gI c 501 (125 + d) = nI (o + p)) (hn : n ≤ 30000) (hp : p ≤ n) : ∀ (N i k b : Nat) (T : Mm), n - i < N → p ≤ i → i ≤ n → b ≤ lim k → Fr (vF d) noA c T → gI T 510 (125 + d) = nI b → ∃ T', f_X5_readValue_l133 N (125 + d) (nI (o + i)) (nI (wt k)) T = some (nI (dEnd F n (n - i) i - p), T') ∧ Fr (vF d) noA c T' ∧ gI T' 510 (125 + d) = nI (fvq F n (n - i) i k b) ∧ Fr (fun f i => i == 125 + d && f == 510) noA T T' := by
  have n1 := h.n1
  intro N
  induction N with
  | zero => intro i k b T h1; omega
  | succ N ih =>
    intro i k b T h1 hpi h2 h3 h4 h5
    have S := h.vf h4
    have e501 : gI T 501 (125 + d) = nI (o + p) := (h4.i (by unfold vF; simp)).trans e1
    have hl := lim_9 (k := k)
    show ∃ T', f_X5_readValue_b133 (f_X5_readValue_l133 N) (125 + d) (nI (o + i)) (nI (wt k)) T = _ ∧ _
    unfold f_X5_readValue_b133
    rw [S.e, e501]
    have fin : nI (o + i) - nI (o + p) = nI (i - p) := by rw [pk_sub (by omega)]; congr 1; omega
    by_cases q : i = n
    · subst q
      rw [if_pos (Int32.le_refl _), Nat.sub_self, fin]
      exact ⟨T, rfl, h4, h5, Fr.refl⟩
    · rw [if_neg (nI_ge (by omega) (by omega)), c_isD S (by omega), bd_eq]
      obtain ⟨f, hf⟩ : ∃ f, n - i = f + 1 := ⟨n - i - 1, by omega⟩
      have hf2 : n - (i + 1) = f := by omega
      cases hd : isD F n i
      · rw [if_pos (show cI false = 0 from rfl), hf, e501, fin]
        unfold dEnd fvq
        rw [hd, if_neg (by decide), if_neg (by decide)]
        exact ⟨T, rfl, h4, h5, Fr.refl⟩
      · have z := isD_d hd
        have ls := lim_s (k := k) (v := F i - 48) (by omega) h3
        have hl2 := lim_9 (k := k + 1)
        rw [if_neg (show ¬ cI true = 0 by decide), c_byteAt S (by omega), bd_eq, h5]
        unfold bs
        rw [if_pos z.1, show (48 : Int32) = nI 48 from rfl, pk_sub (by omega), pk_mul, nI_add, lb_eq, show nI (wt k) / 10 = nI (wt k / 10) from pk_div (d := 10) (by have := (wt_d (k := k)).2; omega) (by decide) (by decide), (wt_d (k := k)).1, lb_eq, show nI (o + i) + 1 = nI (o + (i + 1)) from nI_add _ 1]
        obtain ⟨T', x1, x2, x3, x4⟩ := ih (i + 1) (k + 1) (b + (F i - 48) * wt k) (uI T 510 (125 + d) (nI (b + (F i - 48) * wt k))) (by omega) (by omega) (by omega) ls (h4.uI _ (by unfold vF; simp)) (by rw [gI_uI, if_pos ⟨rfl, rfl⟩])
        rw [hf2] at x1 x3
        refine ⟨T', ?_, x2, ?_, (Fr.refl.uI _ (by simp)).trans x4⟩
        · rw [x1, hf]
          conv => rhs; unfold dEnd
          rw [hd, if_pos rfl]
        · rw [x3, hf]
          conv => rhs; unfold fvq
          rw [hd, if_pos rfl]
theorem c_value (h : SRC c m d A o M o' n F) (e1 : gI c 501 (125 + d) = nI (o + p)) (hn : n ≤ 30000) (hp : p ≤ n) : ∃ c', f_X5_readValue (125 + d) c = some (nI (vE F n p - p), c') ∧ Fr (vF d) noA c c' ∧ gI c' 509 (125 + d) = nI (vW F n p) ∧ gI c' 510 (125 + d) = nI (vBq F n p) ∧ gI c' 508 (125 + d) = cI (decide (bs F n p = 45)) ∧ gI c' 507 (125 + d) = cI (decide (bs F n p = 45 ∨ bs F n p = 43)) := by
  have n1 := h.n1
  have h1 := vS_le h.g hp
  have h2 := vD_le h.g hp
  have h3 := vE_le h.g hp
  -- from the sign on
  have go : ∀ (T : Mm), Fr (vF d) noA c T → gI T 509 (125 + d) = 0 → gI T 510 (125 + d) = 0 → ∃ c', f_X5_readValue_l68 FU (125 + d) (nI (o + vS F n p)) T = some (nI (vE F n p - p), c') ∧ Fr (vF d) noA c c' ∧ gI c' 509 (125 + d) = nI (vW F n p) ∧ gI c' 510 (125 + d) = nI (vBq F n p) ∧ gI c' 508 (125 + d) = gI T 508 (125 + d) ∧ gI c' 507 (125 + d) = gI T 507 (125 + d) := by
    intro T fT t9 t10
    obtain ⟨T1, x1, x2, x3, x4⟩ := c_l68 h hn FU (vS F n p) 0 T (FU_gt (by omega)) h1.2 (by omega) fT t9
    have S1 := h.vf x2
    have x1' : f_X5_readValue_l68 FU (125 + d) (nI (o + vS F n p)) T = f_X5_readValue_116 (125 + d) (nI (o + vD F n p)) T1 := x1
    rw [x1']
    unfold f_X5_readValue_116
    rw [c_byteAt S1 (by omega), bd_eq]
    by_cases q : bs F n (vD F n p) = 46
    · have hv : vP F n p = true := by unfold vP; exact decide_eq_true q
      have hlt := ((bs_eq (k := 46) h.g (by omega)).mp q).1
      obtain ⟨T2, y1, y2, y3, y4⟩ := c_l133 h e1 hn hp FU (vD F n p + 1) 0 0 T1 (FU_gt (by omega)) (by omega) (by omega) (Nat.zero_le _) x2 ((x4.i (by simp)).trans t10)
      rw [if_pos q, show nI (o + vD F n p) + 1 = nI (o + (vD F n p + 1)) from nI_add _ 1]
      refine ⟨T2, ?_, y2, (y4.i (by simp)).trans x3, ?_, (y4.i (by simp)).trans (x4.i (by simp)), (y4.i (by simp)).trans (x4.i (by simp))⟩
      · have : vE F n p = dEnd F n (n - (vD F n p + 1)) (vD F n p + 1) := by unfold vE; rw [hv, if_pos rfl]
        rw [this]; exact y1
      · have : vBq F n p = fvq F n (n - (vD F n p + 1)) (vD F n p + 1) 0 0 := by unfold vBq; rw [hv, if_pos rfl]
        rw [this]; exact y3
    · have hv : vP F n p = false := by unfold vP; exact decide_eq_false q
      have e501 : gI T1 501 (125 + d) = nI (o + p) := (x2.i (by unfold vF; simp)).trans e1
      rw [if_neg q, e501]
      have ee : vE F n p = vD F n p := by unfold vE; rw [hv, if_neg (by decide)]
      have eb : vBq F n p = 0 := by unfold vBq; rw [hv, if_neg (by decide)]
      refine ⟨T1, ?_, x2, x3, ?_, x4.i (by simp), x4.i (by simp)⟩
      · rw [ee, pk_sub (by omega), show o + vD F n p - (o + p) = vD F n p - p by omega]
      · rw [eb, show gI T1 510 (125 + d) = gI T 510 (125 + d) from x4.i (by simp), t10]; rfl
  have r45 : ∀ (sv : Int32) (T : Mm), Fr (vF d) noA c T → (sv = 0 ∧ ¬ (bs F n p = 45 ∨ bs F n p = 43) ∨ sv = 1 ∧ (bs F n p = 45 ∨ bs F n p = 43)) → ∃ c', f_X5_readValue_45 (125 + d) (nI (o + p)) sv (125 + d) T = some (nI (vE F n p - p), c') ∧ Fr (vF d) noA c c' ∧ gI c' 509 (125 + d) = nI (vW F n p) ∧ gI c' 510 (125 + d) = nI (vBq F n p) ∧ gI c' 508 (125 + d) = gI T 508 (125 + d) ∧ gI c' 507 (125 + d) = sv := by
    intro sv T fT hs
    have f0 : ∀ v, Fr (vF d) noA c (uI (uI (uI T 507 (125 + d) v) 509 (125 + d) 0) 510 (125 + d) 0) := fun v => ((fT.uI _ (by unfold vF; simp)).uI _ (by unfold vF; simp)).uI _ (by unfold vF; simp)
    have g9 : ∀ v, gI (uI (uI (uI T 507 (125 + d) v) 509 (125 + d) 0) 510 (125 + d) 0) 509 (125 + d) = 0 := fun v => by rw [gI_uI, if_neg (by omega), gI_uI, if_pos ⟨rfl, rfl⟩]
    have g10 : ∀ v, gI (uI (uI (uI T 507 (125 + d) v) 509 (125 + d) 0) 510 (125 + d) 0) 510 (125 + d) = 0 := fun v => by rw [gI_uI, if_pos ⟨rfl, rfl⟩]
    have g8 : ∀ v, gI (uI (uI (uI T 507 (125 + d) v) 509 (125 + d) 0) 510 (125 + d) 0) 508 (125 + d) = gI T 508 (125 + d) := fun v => by rw [gI_uI, if_neg (by omega), gI_uI, if_neg (by omega), gI_uI, if_neg (by omega)]
    have g7 : ∀ v, gI (uI (uI (uI T 507 (125 + d) v) 509 (125 + d) 0) 510 (125 + d) 0) 507 (125 + d) = v := fun v => by rw [gI_uI, if_neg (by omega), gI_uI, if_neg (by omega), gI_uI, if_pos ⟨rfl, rfl⟩]
    unfold f_X5_readValue_45
    rcases hs with ⟨rfl, hs⟩ | ⟨rfl, hs⟩
    · have es : vS F n p = p := by unfold vS; rw [if_neg hs]
      obtain ⟨c', y1, y2, y3, y4, y5, y6⟩ := go _ (f0 0) (g9 0) (g10 0)
      rw [es] at y1
      rw [gd_eq (Or.inl rfl), lb_eq, show gI (uI T 507 (125 + d) 0) 507 (125 + d) = 0 by rw [gI_uI, if_pos ⟨rfl, rfl⟩], if_pos rfl, lb_eq, lb_eq]
      exact ⟨c', y1, y2, y3, y4, y5.trans (g8 0), y6.trans (g7 0)⟩
    · have es : vS F n p = p + 1 := by unfold vS; rw [if_pos hs]
      obtain ⟨c', y1, y2, y3, y4, y5, y6⟩ := go _ (f0 1) (g9 1) (g10 1)
      rw [es] at y1
      rw [gd_eq (Or.inr rfl), lb_eq, show gI (uI T 507 (125 + d) 1) 507 (125 + d) = 1 by rw [gI_uI, if_pos ⟨rfl, rfl⟩], if_neg (by decide), lb_eq, lb_eq, show nI (o + p) + 1 = nI (o + (p + 1)) from nI_add _ 1]
      exact ⟨c', y1, y2, y3, y4, y5.trans (g8 1), y6.trans (g7 1)⟩
  have f8 : ∀ v, Fr (vF d) noA c (uI c 508 (125 + d) v) := fun v => Fr.refl.uI _ (by unfold vF; simp)
  have g8 : ∀ v, gI (uI c 508 (125 + d) v) 508 (125 + d) = v := fun v => by rw [gI_uI, if_pos ⟨rfl, rfl⟩]
  unfold f_X5_readValue
  rw [lb_eq, e1, c_byteAt h (by omega), bd_eq]
  unfold f_X5_readValue_23
  by_cases q45 : bs F n p = 45
  · obtain ⟨c', y1, y2, y3, y4, y5, y6⟩ := r45 1 _ (f8 1) (Or.inr ⟨rfl, Or.inl q45⟩)
    rw [if_pos q45, gd_eq (Or.inr rfl), lb_eq, g8, if_neg (by decide), y1]
    exact ⟨c', rfl, y2, y3, y4, by rw [y5, g8, decide_eq_true q45]; rfl, by rw [y6, decide_eq_true (Or.inl q45)]; rfl⟩
  · rw [if_neg q45, gd_eq (Or.inl rfl), lb_eq, g8, if_pos rfl]
    by_cases q43 : bs F n p = 43
    · obtain ⟨c', y1, y2, y3, y4, y5, y6⟩ := r45 1 _ (f8 0) (Or.inr ⟨rfl, Or.inr q43⟩)
      rw [if_pos q43, y1]
      exact ⟨c', rfl, y2, y3, y4, by rw [y5, g8, decide_eq_false q45]; rfl, by rw [y6, decide_eq_true (Or.inr q43)]; rfl⟩
    · have hn : ¬ (bs F n p = 45 ∨ bs F n p = 43) := fun y => by
        rcases y with y | y
        · exact q45 y
        · exact q43 y
      obtain ⟨c', y1, y2, y3, y4, y5, y6⟩ := r45 0 _ (f8 0) (Or.inl ⟨rfl, hn⟩)
      rw [if_neg q43, y1]
      exact ⟨c', rfl, y2, y3, y4, by rw [y5, g8, decide_eq_false q45]; rfl, by rw [y6, decide_eq_false hn]; rfl⟩
end F7
