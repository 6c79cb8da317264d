/-! writeRow on both sides. -/
def mRowF (f i : Nat) : Bool := i == 133 && (f == 1242 || f == 1233 || f == 1264 || f == 1265 || f == 1261 || f == 1262 || f == 1263)
theorem RwN.fr {m m' : Mm} {w : Nat} {N B : Nat → Bool} {PF : Nat → Nat → Bool} {PA : Nat → Bool} (h : RwN m w N B) (f : Fr PF PA m m') (e0 : PF 1260 133 = false) (e1 : PA 168 = false) (e2 : PA 167 = false) : RwN m' w N B := by
  unfold RwN; rw [f.a e1, f.a e2, f.i e0]; exact h
theorem bit_row {m m' : Mm} (f : Fr mBitF mOutA m m') : Fr mRowF mOutA m m' := f.weak (fun f i e => by simp only [mBitF, mRowF] at *; simp_all) (fun a e => e)
theorem WX.fr {z : Nat} {c c' m m' : Mm} {PF QF : Nat → Nat → Bool} {PA QA : Nat → Bool} (h : WX z c m) (h1 : Fr PF PA c c') (h2 : Fr QF QA m m') (e1 : PF 601 5 = false) (e2 : PF 603 5 = false) (e3 : PA 6 = false) (e4 : QF 1242 133 = false) (e5 : QF 1233 133 = false) (e6 : QA 161 = false) (e7 : PF 608 5 = false) (e8 : PF 609 5 = false) (e9 : QF 1264 133 = false) (e10 : QF 1265 133 = false) : WX z c' m' := by
  obtain ⟨⟨s, y, a⟩, b, p, b1, b2, b3, b4, b5, b6⟩ := h
  exact ⟨⟨s, y, a.fr h1 h2 e1 e2 e3 e4 e5 e6⟩, b, p, b1, b2, by rw [h1.i e8]; exact b3, by rw [h2.i e9]; exact b4, by rw [h2.i e10]; exact b5, by rw [h1.i e7]; exact b6⟩
theorem WX.mI {z : Nat} {c m : Mm} (h : WX z c m) {f : Nat} (v : Int32) (e : f ≠ 1242 ∧ f ≠ 1233 ∧ f ≠ 1264 ∧ f ≠ 1265) : WX z c (uI m f 133 v) :=
  h.fr (PF := fun _ _ => false) (PA := fun _ => false) (QF := fun g i => decide (g = f ∧ i = 133)) (QA := fun _ => false) Fr.refl (Fr.refl.uI _ (by simp)) rfl rfl rfl (by simp; omega) (by simp; omega) rfl rfl rfl (by simp; omega) (by simp; omega)
/-- the class's rows stay where the bytes alone may have changed -/
theorem RP.out {c c' : Mm} {a : Nat} {ra : Int32} {P : Nat → Bool} {w : Nat} (h : RP (gA c a) ra P w (LN a)) (f : Fr cBitF cOutA c c') (ha : a ≠ 6) : RP (gA c' a) ra P w (LN a) := by
  rw [f.a (by simp [cOutA, ha])]; exact h
theorem fch_le {B : Nat → Bool} {col : Bool} {k w : Nat} : fch B col k w ≤ w := by unfold fch; exact fo_le
theorem near_d (a1 b1 : Nat) : nI a1 - nI b1 = iz ((a1 : Int) - b1) := by rw [nI_iz, nI_iz, iz_sub]
theorem P2_near {z : Nat} {d : Int} {c m : Mm} (hX : WX z c m) (h1 : -3 ≤ d) (h2 : d ≤ 3) {α β : Type} {Q : α → Mm → β → Mm → Prop} {K : Unit → Mm → Option (α × Mm)} {L : Mm → Option (β × Mm)} (hk : ∀ c' m', WX z c' m' → Fr cBitF cOutA c c' → Fr mBitF mOutA m m' → P2 (K () c') (L m') Q) :
    P2 (ix (iz d + 3) 7 fun j10 => ix (iz d + 3) 7 fun j12 => bd (f_X6_putBits (st_NEAR_CODES.getD j10 0) (st_NEAR_BITS.getD j12 0) c) fun u T14 => K u T14)
      (if iz d = 0 then (bd (f_X12_bits 1 1 m) fun _ T14 => L T14)
  else (if iz d = 1 then (bd (f_X12_bits 3 3 m) fun _ T13 => L T13)
  else (if iz d = 2 then (bd (f_X12_bits 6 3 m) fun _ T12 => L T12)
  else (if iz d = 3 then (bd (f_X12_bits 7 3 m) fun _ T11 => L T11)
  else (if iz d = (-1) then (bd (f_X12_bits 3 2 m) fun _ T10 => L T10)
  else (if iz d = (-2) then (bd (f_X12_bits 6 2 m) fun _ T9 => L T9)
  else (bd (f_X12_bits 7 2 m) fun _ T8 => L T8))))))) Q := by
  have go : ∀ (j q n : Nat), iz d + 3 = nI j → j < 7 → st_NEAR_CODES.getD j 0 = nI q → st_NEAR_BITS.getD j 0 = nI n → n ≤ 13 → q < 2 ^ n → P2 (ix (iz d + 3) 7 fun j10 => ix (iz d + 3) 7 fun j12 => bd (f_X6_putBits (st_NEAR_CODES.getD j10 0) (st_NEAR_BITS.getD j12 0) c) fun u T14 => K u T14) (bd (f_X12_bits (nI n) (nI q) m) fun _ T => L T) Q := by
    intro j q n e hj e1 e2 hn hq
    rw [e, ix_in (j := j) (nI_pos (by omega)) (nI_clamp (by omega)) hj, ix_in (j := j) (nI_pos (by omega)) (nI_clamp (by omega)) hj, e1, e2]
    refine P2_bd (P2_bits hn hq hX) ?_
    rintro _ c2 _ m2 ⟨h, f1, f2⟩
    exact hk c2 m2 h f1 f2
  have hd : d = 0 ∨ d = 1 ∨ d = 2 ∨ d = 3 ∨ d = -1 ∨ d = -2 ∨ d = -3 := by omega
  rcases hd with rfl | rfl | rfl | rfl | rfl | rfl | rfl
  · rw [if_pos (by decide)]; exact go 3 1 1 (by decide) (by decide) (by decide) (by decide) (by decide) (by decide)
  · rw [if_neg (by decide), if_pos (by decide)]; exact go 4 3 3 (by decide) (by decide) (by decide) (by decide) (by decide) (by decide)
  · rw [if_neg (by decide), if_neg (by decide), if_pos (by decide)]; exact go 5 3 6 (by decide) (by decide) (by decide) (by decide) (by decide) (by decide)
  · rw [if_neg (by decide), if_neg (by decide), if_neg (by decide), if_pos (by decide)]; exact go 6 3 7 (by decide) (by decide) (by decide) (by decide) (by decide) (by decide)
  · rw [if_neg (by decide), if_neg (by decide), if_neg (by decide), if_neg (by decide), if_pos (by decide)]; exact go 2 2 3 (by decide) (by decide) (by decide) (by decide) (by decide) (by decide)
  · rw [if_neg (by decide), if_neg (by decide), if_neg (by decide), if_neg (by decide), if_neg (by decide), if_pos (by decide)]; exact go 1 2 6 (by decide) (by decide) (by decide) (by decide) (by decide) (by decide)
  · rw [if_neg (by decide), if_neg (by decide), if_neg (by decide), if_neg (by decide), if_neg (by decide), if_neg (by decide)]; exact go 0 2 7 (by decide) (by decide) (by decide) (by decide) (by decide) (by decide)
theorem max0 (fr : Nat) (first : Bool) (a0 : Nat) (hfr : fr = if first then 0 else a0 + 1) (h0 : first = true → a0 = 0) (ha : a0 < 2 ^ 30) : (if nI fr - 1 < 0 then 0 else nI fr - 1) = nI a0 := by
  cases first
  · rw [hfr]
    have : nI (a0 + 1) - 1 = nI a0 := nI_pred a0
    simp only [Bool.false_eq_true, if_false]
    rw [this, if_neg (nI_pos (by omega))]
  · rw [hfr, h0 rfl]; decide
theorem P2_wrow {z : Nat} {a w : Nat} {rh ra : Int32} {N B : Nat → Bool} (ha : a ≠ 6) (hN : LN a < 2 ^ 26) (hw : w ≤ 640) (hw1 : 1 ≤ w) : ∀ (n n' fr a0 : Nat) (first col : Bool) (t : Nat) (c m : Mm), w + 2 - fr < n → w + 2 - fr < n' → fr = (if first then 0 else a0 + 1) → (first = true → a0 = 0) → a0 ≤ w → t ≤ fr → (first = false → a0 < w → N a0 = col) →
    RP (gA c a) rh N w (LN a) → RP (gA c a) ra B w (LN a) → RwN m w N B → Tab m → WX z c m → gI m 1261 133 = nI a0 → gI m 1262 133 = cI first → gI m 1263 133 = cI col →
    P2 (f_X6_writeRow_l30 n a (nI w) rh ra (nI fr - 1) (cI col) (nI t) c) (f_X12_writeRow_l15 n' m) (fun _ c' _ m' => WX z c' m' ∧ Fr cBitF cOutA c c' ∧ Fr mRowF mOutA m m') := by
  intro n
  induction n with
  | zero => intro n' fr a0 first col t c m h; omega
  | succ n ih =>
  intro n' fr a0 first col t c m hn hn' hfr hf0 ha0 ht hNa hR1 hR2 hRw hT hX e1 e2 e3
  obtain ⟨n', rfl⟩ : ∃ k, n' = k + 1 := ⟨n' - 1, by omega⟩
  show P2 (f_X6_writeRow_b30 (f_X6_writeRow_l30 n) a (nI w) rh ra (nI fr - 1) (cI col) (nI t) c) (f_X12_writeRow_b15 (f_X12_writeRow_l15 n') m) _
  unfold f_X6_writeRow_b30 f_X12_writeRow_b15
  rw [hRw.1, e1, e3]
  have hfr1 : fr ≤ w + 1 := by rw [hfr]; split <;> omega
  have hlast : nI w ≤ nI fr - 1 ↔ first = false ∧ w ≤ a0 := by
    cases first
    · have : nI fr - 1 = nI a0 := by rw [hfr]; exact nI_pred a0
      rw [this, nI_leI (by omega) (by omega)]; simp
    · have : nI fr - 1 = (-1 : Int32) := by rw [hfr, if_pos rfl]; decide
      rw [this]
      constructor
      · intro h; exact absurd (Int32.lt_of_le_of_lt h (by decide)) (nI_pos (by omega))
      · intro h; simp at h
  rcases Nat.lt_or_ge a0 w with hlt | hge
  · have hfrw : fr ≤ w := by rw [hfr]; split <;> omega
    rw [if_neg (nI_nlt (a := w) (b := t) (by omega) (by omega)), if_neg (fun q => by have := (hlast.mp q).2; omega), if_neg (nI_ge hlt (by omega))]
    rw [f_max, bd_eq, max0 fr first a0 hfr hf0 (by omega), f_fo' hR1 hN (by omega) (by omega), bd_eq, f_fc hR2 hN (by omega) hfrw, bd_eq, one_cI, f_fo' hR2 hN (by omega) (Nat.lt_of_le_of_lt fch_le (by omega)), bd_eq, lb_eq]
    rw [m_change hRw hw ha0, bd_eq, m_b1 hRw hw e1 e2 e3 hfr (by omega), bd_eq]
    have hbw : fch B col fr w ≤ w := by unfold fch; exact fo_le
    have hBb : fch B col fr w < w → B (fch B col fr w) = !col := fun q => bne (by unfold fch at q ⊢; exact fo_ne q)
    rw [m_b2 hRw hw hbw hBb, bd_eq]
    have hbfr : fr ≤ fch B col fr w := by
      rw [fch_lf]
      split
      · exact fo_ge hfrw
      · exact Nat.le_trans (fo_ge hfrw) (fo_ge fo_le)
    generalize ha1 : fo N a0 w col = a1
    generalize hb1 : fch B col fr w = b1 at hbw hBb hbfr
    generalize hb2 : fo B b1 w (!col) = b2
    have ha1w : a1 ≤ w := by rw [← ha1]; exact fo_le
    have ha1g : a0 ≤ a1 := by rw [← ha1]; exact fo_ge ha0
    have hb2w : b2 ≤ w := by rw [← hb2]; exact fo_le
    have hb2g : b1 ≤ b2 := by rw [← hb2]; exact fo_ge hbw
    have hb2s : b1 < w → b1 < b2 := fun q => by
      rw [← hb2, fo_skip q (hBb q)]
      exact fo_ge q
    have hNbet : ∀ j, a0 ≤ j → j < a1 → N j = col := fun j h1 h2 => fo_eq h1 (by rw [ha1]; exact h2)
    have hNa1 : a1 < w → N a1 = !col := fun q => bne (by rw [← ha1] at q ⊢; exact fo_ne q)
    have hstrict : first = false → a0 < a1 := fun q => by
      rcases Nat.lt_or_ge a0 a1 with h | h
      · exact h
      · have e : a1 = a0 := by omega
        have := hNa1 (by omega)
        rw [e, hNa q hlt] at this
        cases col <;> simp at this
    -- the next turn
    have next : ∀ (a0' : Nat) (col' : Bool) (c2 m2 : Mm), fr ≤ a0' → a0' ≤ w → (a0' < w → N a0' = col') → Fr cBitF cOutA c c2 → Fr mRowF mOutA m m2 → WX z c2 m2 → gI m2 1261 133 = nI a0' → gI m2 1262 133 = 0 → gI m2 1263 133 = cI col' →
        P2 (f_X6_writeRow_l30 n a (nI w) rh ra (nI a0') (cI col') (nI t + 1) c2) (f_X12_writeRow_l15 n' m2) (fun _ c' _ m' => WX z c' m' ∧ Fr cBitF cOutA c c' ∧ Fr mRowF mOutA m m') := by
      intro a0' col' c2 m2 g1 g2 g3 f1 f2 hX2 k1 k2 k3
      have := ih n' (a0' + 1) a0' false col' (t + 1) c2 m2 (by omega) (by omega) rfl (fun q => by cases q) g2 (by omega) (fun _ => g3) (hR1.out f1 ha) (hR2.out f1 ha) (hRw.fr f2 rfl rfl rfl) (hT.fr f2 rfl rfl) hX2 k1 k2 k3
      rw [nI_pred] at this
      rw [nI_1]
      refine P2_mono this ?_
      rintro _ c3 _ m3 ⟨h3, f3, f4⟩
      exact ⟨h3, f1.trans f3, f2.trans f4⟩
    rcases Nat.lt_or_ge b2 a1 with hpass | hno
    · -- PASS
      rw [if_neg (nI_ge hpass (by omega)), if_neg (nI_ge hpass (by omega))]
      refine P2_bd (P2_bits (q := 1) (n := 4) (by omega) (by decide) hX) ?_
      rintro _ c2 _ m2 ⟨h2, f1, f2⟩
      rw [lb_eq, lb_eq]
      have hb1w : b1 < w := by omega
      have := hb2s hb1w
      refine next b2 col c2 _ (by omega) hb2w (fun q => hNbet b2 (by
        have : first = true ∨ first = false := by cases first <;> simp
        rcases this with q | q
        · rw [hf0 q]; omega
        · have : fr = a0 + 1 := by rw [hfr, q]; rfl
          omega) hpass) f1 (((bit_row f2).uI _ rfl).uI _ rfl) ((h2.mI _ (by decide)).mI _ (by decide)) ?_ ?_ ?_
      · rw [gI_uI, if_neg (by decide), gI_uI, if_pos ⟨rfl, rfl⟩]
      · rw [gI_uI, if_pos ⟨rfl, rfl⟩]
      · rw [gI_uI, if_neg (by decide), gI_uI, if_neg (by decide), f2.i rfl]; exact e3
    · rw [if_pos (nI_le hno (by omega)), if_pos (nI_le hno (by omega))]
      have hd : nI a1 - nI b1 = iz ((a1 : Int) - b1) := near_d a1 b1
      have hd2 : nI b1 - nI a1 = iz ((b1 : Int) - a1) := near_d b1 a1
      rw [hd, hd2]
      have hd3 : iz ((a1 : Int) - b1) + 3 = iz ((a1 : Int) - b1 + 3) := iz_add _ 3
      have c1 : iz ((a1 : Int) - b1) + 3 < 0 ↔ (a1 : Int) - b1 + 3 < 0 := by rw [hd3]; exact iz_nn (by omega) (by omega)
      have c2 : (7 : Int32) ≤ iz ((a1 : Int) - b1) + 3 ↔ (7 : Int) ≤ (a1 : Int) - b1 + 3 := by rw [hd3]; exact iz_le (a := 7) (by omega) (by omega) (by omega) (by omega)
      have c3 : (3 : Int32) < iz ((a1 : Int) - b1) ↔ (3 : Int) < (a1 : Int) - b1 := iz_lt (a := 3) (by omega) (by omega) (by omega) (by omega)
      have c4 : (3 : Int32) < iz ((b1 : Int) - a1) ↔ (3 : Int) < (b1 : Int) - a1 := iz_lt (a := 3) (by omega) (by omega) (by omega) (by omega)
      by_cases hnear : -3 ≤ (a1 : Int) - b1 ∧ (a1 : Int) - b1 ≤ 3
      · rw [if_neg (fun q => by have := c1.mp q; omega), if_neg (fun q => by have := c2.mp q; omega), if_neg (fun q => by have := c2.mp q; omega), if_neg (fun q => by have := c3.mp q; omega), if_neg (fun q => by have := c4.mp q; omega), lb_eq]
        refine P2_near hX hnear.1 hnear.2 (K := fun _ T14 => lb (cI (!col)) fun v15 => f_X6_writeRow_l30 n a (nI w) rh ra (nI a1) v15 (nI t + 1) T14) (L := fun T => f_X12_writeRow_188 (f_X12_writeRow_l15 n') (nI a1) T) ?_
        intro c2 m2 h2 f1 f2
        unfold f_X12_writeRow_188
        rw [lb_eq, lb_eq, lb_eq, lb_eq]
        have e9 : gI (uI m2 1261 133 (nI a1)) 1263 133 = cI col := by rw [gI_uI, if_neg (by decide), f2.i rfl]; exact e3
        rw [e9, one_cI]
        refine next a1 (!col) c2 _ (by
          have : first = true ∨ first = false := by cases first <;> simp
          rcases this with q | q
          · have : fr = 0 := by rw [hfr, q]; rfl
            omega
          · have := hstrict q
            have : fr = a0 + 1 := by rw [hfr, q]; rfl
            omega) ha1w hNa1 f1 ((((bit_row f2).uI _ rfl).uI _ rfl).uI _ rfl) (((h2.mI _ (by decide)).mI _ (by decide)).mI _ (by decide)) ?_ ?_ ?_
        · rw [gI_uI, if_neg (by decide), gI_uI, if_neg (by decide), gI_uI, if_pos ⟨rfl, rfl⟩]
        · rw [gI_uI, if_pos ⟨rfl, rfl⟩]
        · rw [gI_uI, if_neg (by decide), gI_uI, if_pos ⟨rfl, rfl⟩]
      · -- two RUNS
        have runs : P2 (f_X6_writeRow_172 (f_X6_writeRow_l30 n) a (nI w) rh ra (cI col) (nI t) (nI a0) (nI a1) c) (f_X12_writeRow_206 (f_X12_writeRow_l15 n') (nI a1) m) (fun _ c' _ m' => WX z c' m' ∧ Fr cBitF cOutA c c' ∧ Fr mRowF mOutA m m') := by
          unfold f_X6_writeRow_172 f_X12_writeRow_206
          rw [one_cI, f_fo' hR1 hN (by omega) (by omega), bd_eq, e3, one_cI, m_change hRw hw ha1w, bd_eq]
          generalize ha2 : fo N a1 w (!col) = a2
          have ha2w : a2 ≤ w := by rw [← ha2]; exact fo_le
          have ha2g : a1 ≤ a2 := by rw [← ha2]; exact fo_ge ha1w
          have hNa2 : a2 < w → N a2 = col := fun q => by
            have := bne (by rw [← ha2] at q ⊢; exact fo_ne q : N a2 ≠ !col)
            rw [this]; cases col <;> rfl
          refine P2_bd (P2_bits (q := 1) (n := 3) (by omega) (by decide) hX) ?_
          rintro _ c2 _ m2 ⟨h2, f1, f2⟩
          rw [f2.i rfl, e3, f2.i rfl, e1, pk_sub ha1g]
          refine P2_bd (P2_run (by omega) h2 (hT.fr f2 rfl rfl)) ?_
          rintro _ c3 _ m3 ⟨h3, f3, f4⟩
          rw [f4.i rfl, f2.i rfl, e3, one_cI, pk_sub ha2g]
          refine P2_bd (P2_run (by omega) h3 ((hT.fr f2 rfl rfl).fr f4 rfl rfl)) ?_
          rintro _ c4 _ m4 ⟨h4, f5, f6⟩
          rw [lb_eq, lb_eq]
          refine next a2 col c4 _ ?_ ha2w hNa2 ((f1.trans f3).trans f5) (((((bit_row f2).trans (bit_row f4)).trans (bit_row f6)).uI _ rfl).uI _ rfl) ((h4.mI _ (by decide)).mI _ (by decide)) ?_ ?_ ?_
          · have : first = true ∨ first = false := by cases first <;> simp
            rcases this with q | q
            · have : fr = 0 := by rw [hfr, q]; rfl
              omega
            · have := hstrict q
              have : fr = a0 + 1 := by rw [hfr, q]; rfl
              omega
          · rw [gI_uI, if_neg (by decide), gI_uI, if_pos ⟨rfl, rfl⟩]
          · rw [gI_uI, if_pos ⟨rfl, rfl⟩]
          · rw [gI_uI, if_neg (by decide), gI_uI, if_neg (by decide), f6.i rfl, f4.i rfl, f2.i rfl]; exact e3
        have hfar : (a1 : Int) - b1 < -3 ∨ 3 < (a1 : Int) - b1 := by omega
        rcases hfar with q | q
        · rw [if_pos (c1.mpr (by omega)), if_neg (fun z => by have := c3.mp z; omega), if_pos (c4.mpr (by omega))]
          exact runs
        · rw [if_neg (fun z => by have := c1.mp z; omega), if_pos (c2.mpr (by omega)), if_pos (c3.mpr q)]
          exact runs
  · rw [if_pos (nI_le hge (by omega))]
    have hff : first = false := by
      cases first
      · rfl
      · have := hf0 rfl
        omega
    have hx := hlast.mpr ⟨hff, hge⟩
    have done9 : P2 (some ((), c)) (some ((), m)) (fun _ c' _ m' => WX z c' m' ∧ Fr cBitF cOutA c c' ∧ Fr mRowF mOutA m m') := P2_ret ⟨hX, Fr.refl, Fr.refl⟩
    split
    · exact done9
    · exact done9
