/-! Closed forms: the JDK's small methods, rows of dots. -/
theorem f_max (a b : Int32) (T : Mm) : f_J9_max_7cf53 a b T = some (if a < b then b else a, T) := by
  unfold f_J9_max_7cf53; split <;> rfl
theorem f_min (a b : Int32) (T : Mm) : f_J9_min_7cf53 a b T = some (if b < a then b else a, T) := by
  unfold f_J9_min_7cf53; split <;> rfl
theorem f_maxl (a b : Int64) (T : Mm) : f_J9_max_f86c9 a b T = some (if a < b then b else a, T) := by
  unfold f_J9_max_f86c9; simp only [c_lt]; split <;> rfl
theorem f_minl (a b : Int64) (T : Mm) : f_J9_min_f86c9 a b T = some (if b < a then b else a, T) := by
  unfold f_J9_min_f86c9; simp only [c_gt]; split <;> rfl
theorem f_bits (w : Int32) (T : Mm) : f_J6_bitCount_0f7a4 w T = some (bcE w, T) := rfl
theorem f_za (w : Int32) (T : Mm) : f_X11_zerosAhead w T = some (nI (lz w), T) := by
  rw [show f_X11_zerosAhead w T = some (32 - bcE (sm 16 (sm 8 (sm 4 (sm 2 (sm 1 w))))), T) from rfl, za_ok]
theorem onat (n : Nat) : Int32.ofNat n = nI n := rfl
/-- a row's address in an array of N words: none (white), or from word rw on -/
theorem f_dotAt {a rw x : Nat} {T : Mm} (hin : rw + x / 32 < LN a) (hN : LN a < 2 ^ 31) (hx : x < 2 ^ 31) : f_X11_dotAt a (nI rw) (nI x) T = some (cI (dotW (gA T a) rw x), T) := by
  have e1 : nI x >>> ((5 : Int32) &&& 31) = nI (x / 32) := pk_shrN (by omega) _ 5 (by decide)
  have e2 : nI x &&& 31 = nI (x % 32) := pk_andN (by omega) 5 (by decide)
  unfold f_X11_dotAt
  rw [e1, nI_add, lb_eq, if_neg (nI_pos (by omega)), if_neg (nI_pos hx), if_neg (nI_pos (by omega)), onat, if_pos (nI_lt (by omega) (by omega)), ix_in (j := rw + x / 32) (nI_pos (by omega)) (nI_clamp (by omega)) hin, e2, show (31 : Int32) - nI (x % 32) = nI (31 - x % 32) from pk_sub (a := 31) (by omega), dot_bt _ (by omega)]
  rfl
theorem f_dotAtN {a x : Nat} {T : Mm} : f_X11_dotAt a (-1) (nI x) T = some (0, T) := by
  unfold f_X11_dotAt
  rw [lb_eq, if_pos (by decide)]
theorem f_fo_loop {a rw wd fr : Nat} {c : Bool} {T : Mm} (hf : fr < wd) (hin : rw + (wd - 1) / 32 < LN a) (hN : LN a < 2 ^ 26) (hwd : wd < 2 ^ 26) : ∀ (n q : Nat) (b : Int32), (wd - 1) / 32 - q < n → fr / 32 ≤ q → q ≤ (wd - 1) / 32 → FOI (gA T a) rw fr c q b → f_X11_firstOther_l77 n a (nI rw) (nI wd) (nI (rw + (wd - 1) / 32)) (fI c) (nI (rw + q)) b T = some (nI (fo (dotW (gA T a) rw) fr wd c), T) := by
  intro n
  induction n with
  | zero => intro q b h; omega
  | succ n ih =>
    intro q b h hq1 hq2 hF
    show f_X11_firstOther_b77 (f_X11_firstOther_l77 n) _ _ _ _ _ _ _ _ = _
    have fin : ∀ b' : Int32, b' = b → (b = 0 → (wd - 1) / 32 ≤ q) → f_X11_firstOther_104 (nI rw) (nI wd) (nI (rw + q)) b T = some (nI (fo (dotW (gA T a) rw) fr wd c), T) := by
      intro b' _ hz
      unfold f_X11_firstOther_104
      by_cases h0 : b = 0
      · subst h0
        rw [if_pos rfl, foi_none hf (hz rfl) hF]
      · rw [if_neg h0, f_za, bd_eq, pk_sub (by omega), show rw + q - rw = q by omega, pk_shlN (n := q) _ 5 (by decide) (by omega), nI_add, f_min, bd_eq]
        have hl := lz_le b
        rw [show q * 2 ^ 5 = q * 32 by omega, fo_min (by omega) (by omega), ← foi_yes hf hq1 hF h0]
    unfold f_X11_firstOther_b77
    by_cases h0 : b = 0
    · subst h0
      rw [if_pos rfl]
      rcases Nat.lt_or_ge q ((wd - 1) / 32) with hlt | hge
      · rw [if_neg (nI_ge (by omega) (by omega)), show nI (rw + q) + 1 = nI (rw + (q + 1)) from nI_add _ 1, ix_in (j := rw + (q + 1)) (nI_pos (by omega)) (nI_clamp (by omega)) (by omega), lb_eq]
        exact ih (q + 1) _ (by omega) (by omega) (by omega) (foi_next hq1 hF)
      · rw [if_pos (nI_le (by omega) (by omega))]
        exact fin _ rfl (fun _ => hge)
    · rw [if_neg h0]
      exact fin _ rfl (fun e => absurd e h0)
theorem FU_gt {k : Nat} (h : k < 2 ^ 31) : k < FU := by unfold FU; omega
theorem f_fo {a rw fr wd : Nat} {c : Bool} {T : Mm} (hin : rw + (wd - 1) / 32 < LN a) (hN : LN a < 2 ^ 26) (hwd : wd < 2 ^ 26) (hfr : fr < 2 ^ 26) : f_X11_firstOther a (nI rw) (nI fr) (nI wd) (cI c) T = some (nI (fo (dotW (gA T a) rw) fr wd c), T) := by
  unfold f_X11_firstOther
  rw [if_neg (nI_pos (by omega))]
  rcases Nat.lt_or_ge fr wd with h | h
  · rw [if_pos (nI_lt h (by omega)), if_pos (nI_pos' (by omega)), show nI wd - 1 = nI (wd - 1) from pk_sub (b := 1) (by omega), pk_shrN (n := wd - 1) (by omega) _ 5 (by decide), nI_add, lb_eq, if_neg (nI_pos (by omega)), onat, if_pos (nI_lt (by omega) (by omega)), pk_shrN (n := fr) (by omega) _ 5 (by decide), nI_add, lb_eq, ix_in (j := rw + fr / 2 ^ 5) (nI_pos (by omega)) (nI_clamp (by omega)) (by omega), lb_eq, fI_eq, pk_andN (n := fr) (by omega) 5 (by decide)]
    exact f_fo_loop h hin hN hwd FU (fr / 2 ^ 5) _ (FU_gt (by omega)) (by omega) (by omega) foi_0
  · rw [if_neg (nI_nlt h (by omega)), fo_out h]
theorem f_foN {a fr wd : Nat} {c : Bool} {T : Mm} (hwd : wd < 2 ^ 26) (hfr : fr < 2 ^ 26) : f_X11_firstOther a (-1) (nI fr) (nI wd) (cI c) T = some (nI (fo (fun _ => false) fr wd c), T) := by
  unfold f_X11_firstOther
  rw [if_neg (nI_pos (by omega))]
  rcases Nat.lt_or_ge fr wd with h | h
  · rw [if_pos (nI_lt h (by omega)), if_neg (by decide)]
    cases c
    · rw [if_pos (by decide), fo_w0 h]
    · rw [if_neg (by decide), fo_w1 h]
  · rw [if_neg (nI_nlt h (by omega)), fo_out h]
/-- a row of words, or none -/
theorem f_fo' {a fr wd : Nat} {ra : Int32} {P : Nat → Bool} {c : Bool} {T : Mm} (hR : RP (gA T a) ra P wd (LN a)) (hN : LN a < 2 ^ 26) (hwd : wd < 2 ^ 26) (hfr : fr < 2 ^ 26) : f_X11_firstOther a ra (nI fr) (nI wd) (cI c) T = some (nI (fo P fr wd c), T) := by
  rcases hR with ⟨rfl, rfl⟩ | ⟨rw, rfl, rfl, hin⟩
  · exact f_foN hwd hfr
  · exact f_fo hin hN hwd hfr
theorem f_da' {a x wd : Nat} {ra : Int32} {P : Nat → Bool} {T : Mm} (hR : RP (gA T a) ra P wd (LN a)) (hN : LN a < 2 ^ 26) (hwd : wd < 2 ^ 26) (hx : x < wd) : f_X11_dotAt a ra (nI x) T = some (cI (P x), T) := by
  rcases hR with ⟨rfl, rfl⟩ | ⟨rw, rfl, rfl, hin⟩
  · exact f_dotAtN
  · exact f_dotAt (by omega) (by omega) (by omega)
theorem one_cI (c : Bool) : (1 : Int32) - cI c = cI (!c) := cI_not c
/-- the code's b1: from place fr (a0 + 1) on -/
theorem f_fc {a fr wd : Nat} {ra : Int32} {P : Nat → Bool} {c : Bool} {T : Mm} (hR : RP (gA T a) ra P wd (LN a)) (hN : LN a < 2 ^ 26) (hwd : wd < 2 ^ 26) (hfr : fr ≤ wd) : f_X11_firstChange a ra (nI fr - 1) (nI wd) (cI c) T = some (nI (fch P c fr wd), T) := by
  unfold f_X11_firstChange
  rw [show nI fr - 1 + 1 = nI fr by simp, lb_eq]
  have go : ∀ b : Bool, b = (if fr = 0 then false else P (fr - 1)) → f_X11_firstChange_23 a ra (nI wd) (cI c) (nI fr) (cI b) T = some (nI (fch P c fr wd), T) := by
    intro b hb
    unfold f_X11_firstChange_23 fch
    rw [← hb]
    by_cases e : b = c
    · rw [if_pos (by rw [e]), f_fo' hR hN hwd (by omega), if_pos e, bd_eq]
    · rw [if_neg (fun q => e (cI_inj.mp q)), one_cI, f_fo' hR hN hwd (by omega), bd_eq, f_fo' hR hN hwd (fo_lt26 hwd), bd_eq, if_neg e]
  by_cases h0 : fr = 0
  · subst h0
    rw [if_pos nI_0]
    exact go false rfl
  · rw [if_neg (nI_ne0 (by omega) (by omega)), show nI fr - 1 = nI (fr - 1) from pk_sub (b := 1) (by omega), f_da' hR hN hwd (by omega), bd_eq]
    exact go _ (by rw [if_neg h0])
