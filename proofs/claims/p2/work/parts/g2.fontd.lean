/-! A font is sent, on both sides. -/
section G2
variable {c c' c0 c1 c2 c3 m m' m0 m1 m2 m3 T : Mm} {d w b A o M o' n p r q a i s f k : Nat} {F : Nat → Nat} {ov ov' ng sg : Bool} {g L : Nat → Int32} {Gc Gm : Gty} {PF QF : Nat → Nat → Bool} {PA QA : Nat → Bool}
theorem DT.fr (h : DT c m d A o M o' n F p s) (fc : Fr PF PA c c') (fm : Fr QF QA m m') (e1 : ∀ f, PF f (125 + d) = false) (e2 : PA 2 = false ∧ PA 43 = false) (e3 : QF 1226 133 = false ∧ QF 1227 133 = false ∧ QF 1228 133 = false) (e4 : QA 152 = false ∧ QA 156 = false) : DT c' m' d A o M o' n F p s :=
  ⟨h.1.fr fc fm ⟨e1 _, e1 _⟩ ⟨e2.1, fun _ => e2.2⟩ ⟨e3.1, e3.2.2⟩ e4.1 (fun j _ => by rw [fm.a e4.2]), (fc.i (e1 _)).trans h.2.1, (fc.i (e1 _)).trans h.2.2.1, h.2.2.2.1, (fm.i e3.2.1).trans h.2.2.2.2⟩
theorem two_n {x y : Nat} (hx : x < 8388608) (hy : y < 256) : ((nI x) <<< ((8 : Int32) &&& 31)) ||| nI y = nI (x * 256 + y) := by
  rw [pk_shlN (n := x) _ 8 (by decide) (by omega), nI_or]
  congr 1
  rw [show x * 2 ^ 8 = 2 ^ 8 * x from Nat.mul_comm _ _, ← Nat.two_pow_add_eq_or_of_lt (show y < 2 ^ 8 by omega), Nat.mul_comm]
theorem c_two (h : DT c m d A o M o' n F p s) (hi : i < 30000) : f_X5_dataTwo (125 + d) (nI i) c = some (if i + 1 < s then nI (F (p + i) * 256 + F (p + (i + 1))) else (((if i < s then nI (F (p + i)) else 0) <<< ((8 : Int32) &&& 31)) ||| (if i + 1 < s then nI (F (p + (i + 1))) else 0)), c) := by
  unfold f_X5_dataTwo
  rw [c_data h (by omega), bd_eq, show nI i + 1 = nI (i + 1) from nI_add i 1, c_data h (by omega), bd_eq]
  by_cases q : i + 1 < s
  · have g1 := h.1.g (p + i)
    have g2 := h.1.g (p + (i + 1))
    rw [if_pos q, if_pos q, if_pos (show i < s by omega), two_n (by omega) g2]
  · rw [if_neg q, if_neg q]
theorem c_two1 (h : DT c m d A o M o' n F p s) (hi : i + 1 < s) : f_X5_dataTwo (125 + d) (nI i) c = some (nI (F (p + i) * 256 + F (p + (i + 1))), c) := by
  have n1 := h.1.n1
  have := h.2.2.2.1
  rw [c_two h (by omega), if_pos hi]
theorem c_setN {v : Int32} (hf : f < 17) (hk : k < 7) : f_X2_setNumber (nI f) (nI k) v c = some ((), uA c 30 (7 * f + k) v) := by
  unfold f_X2_setNumber
  rw [show nI f * 7 = nI (f * 7) from pk_mul f 7, nI_add, lb_eq, if_neg (nI_pos (by omega)), if_neg (show ¬ (119 : Int32) ≤ nI (f * 7 + k) from nI_ge (b := 119) (by omega) (by omega)), ix_in (j := f * 7 + k) (nI_pos (by omega)) (nI_clamp (by omega)) (by omega), lb_eq, show f * 7 + k = 7 * f + k by omega]
/-- the numbers of fonts on both sides, but some of one font -/
def NMr (f : Nat) (E : Nat → Prop) (c m : Mm) : Prop := (∀ f' k, f' < 17 → k < 7 → (f' = f → E k) → gA c 30 (7 * f' + k) = gA m 138 (7 * f' + wpi k)) ∧ (∀ j, j < 119 → -2000000 ≤ (gA m 138 j).toInt ∧ (gA m 138 j).toInt ≤ 2000000) ∧ gA m 138 112 = 0 ∧ ∀ f, f < 17 → 0 ≤ (gA m 138 (7 * f + 1)).toInt ∧ (gA m 138 (7 * f + 1)).toInt ≤ 32000
theorem NMr.step {E : Nat → Prop} {v : Nat} (h : NMr f E c m) (hf : f < 16) (hk : k < 7) (x : Int32) (v1 : -2000000 ≤ x.toInt) (v2 : x.toInt ≤ 2000000) (v3 : wpi k = 1 → 0 ≤ x.toInt ∧ x.toInt ≤ 32000) : NMr f (fun j => E j ∨ j = k) (uA c 30 (7 * f + k) x) (uA m 138 (7 * f + wpi k) x) := by
  obtain ⟨h1, h2, h3, h4⟩ := h
  have hw := wpi_lt hk
  refine ⟨fun f' k' a1 a2 a3 => ?_, fun j hj => ?_, ?_, fun f' hf' => ?_⟩
  · have hw' := wpi_lt a2
    rw [gA_one, gA_one]
    by_cases e : f' = f
    · subst e
      by_cases e2 : k' = k
      · subst e2; rw [if_pos rfl, if_pos rfl]
      · rw [if_neg (by omega), if_neg (fun z => e2 (wpi_inj (by omega) (by omega) (by omega)))]
        exact h1 _ _ a1 a2 (fun _ => (a3 rfl).resolve_right e2)
    · rw [if_neg (by omega), if_neg (by omega)]
      exact h1 _ _ a1 a2 (fun z => absurd z e)
  · rw [gA_one]
    split
    · exact ⟨v1, v2⟩
    · exact h2 j hj
  · rw [gA_one, if_neg (by omega)]; exact h3
  · rw [gA_one]
    by_cases e : 7 * f' + 1 = 7 * f + wpi k
    · rw [if_pos e]; exact v3 (by omega)
    · rw [if_neg e]; exact h4 f' hf'
theorem FT.nmr (h : FT c m) : NMr 99 (fun _ => False) c m := ⟨fun f k a1 a2 _ => h.nm f k a1 a2, h.nb, h.n0, h.hp⟩
def s29 (a : Nat) : Bool := a == 29 || a == 30
def s136 (a : Nat) : Bool := a == 136 || a == 137 || a == 138
theorem FT.num (h : FT c m) (fc : Fr nF s29 c c') (fm : Fr nF s136 m m') (sv : SV c' m' 29 136 137) (rs : gA m' 136 16 = 1) (nm : NMr f (fun k => k < 7) c' m') (nt : ∀ f k, f < 16 → k < 256 → gA m' 136 f = 0 → gA m 136 f = 0) : FT c' m' := by
  obtain ⟨n1, n2, n3, n4⟩ := nm
  refine FT_mk sv rs (fun f k a1 a2 => n1 f k a1 a2 (fun _ => a2)) n2 n3 n4 ?_ ?_ ?_ ?_ ?_ ?_ ?_ ?_ ?_ ?_ ?_
  · rw [fc.a rfl, fm.a rfl, fm.a rfl]; exact h.gl
  · rw [fm.a rfl]; exact h.ij
  · rw [fc.a rfl]; exact h.gr
  · rw [fc.a rfl, fm.a rfl]; exact h.tk
  · rw [fm.a rfl, fm.i rfl]; exact h.ct
  · rw [fc.a rfl, fm.a rfl]; exact h.hd
  · rw [fm.a rfl]; exact h.hb
  · rw [fc.a rfl]; exact h.hr
  · rw [fc.a rfl, fm.a rfl, fm.a rfl]; exact h.rw
  · intro f k a1 a2 a3
    rw [fm.a rfl]; exact h.nt f k a1 a2 (nt f k a1 a2 a3)
  · rw [fc.a rfl]; exact h.rr
/-- the rest of the numbers, on both sides -/
theorem two_79 {x : Nat} {b0 : Nat} (hf : f < 16) (hd : d ≤ 3) (hs : 9 ≤ s) (hx : x ≤ 7200) (hb0 : b0 ≤ 1) (h : DT c m d A o M o' n F p s) (nm : NMr f (fun _ => False) c m) : ∃ c' m', f_X2_send_79 (nI f) (125 + d) (nI x) (nI b0) 1 (nI f) c = some ((), c') ∧ f_X12_fontData_88 (nI x) (nI f) (nI b0) ((7 : Int32) * nI f) m = some ((), m') ∧ Fr nF (fun a => a == 30) c c' ∧ Fr nF (fun a => a == 138) m m' ∧ NMr f (fun k => k < 7) c' m' := by
  have g3 := h.1.g (p + 3)
  have g4 := h.1.g (p + 4)
  have g5 := h.1.g (p + 5)
  have g6 := h.1.g (p + 6)
  have g7 := h.1.g (p + 7)
  have g8 := h.1.g (p + (7 + 1))
  have fz : ∀ (T : Mm) (j : Nat) (v : Int32), Fr nF (fun a => a == 30) T (uA T 30 j v) := fun T j v => Fr.refl.uA _ _ (by rfl)
  have mz : ∀ (T : Mm) (j : Nat) (v : Int32), Fr nF (fun a => a == 138) T (uA T 138 j v) := fun T j v => Fr.refl.uA _ _ (by rfl)
  have mv : ∀ {c c' m m' : Mm}, DT c m d A o M o' n F p s → Fr nF (fun a => a == 30) c c' → Fr nF (fun a => a == 138) m m' → DT c' m' d A o M o' n F p s := fun h a b => h.fr a b (fun _ => rfl) ⟨rfl, rfl⟩ ⟨rfl, rfl, rfl⟩ ⟨rfl, rfl⟩
  have ti : ∀ {y : Nat}, y < 100000 → -2000000 ≤ (nI y).toInt ∧ (nI y).toInt ≤ 2000000 := fun {y} hy => by rw [nI_toInt (by omega)]; omega
  have ix7 : ∀ {α : Type} {j : Nat} (K : Nat → Option α), j < 7 → ix (nI (7 * f) + nI j) 119 K = K (7 * f + j) := fun {α j} K hj => by rw [nI_add, ix_in (j := 7 * f + j) (nI_pos (by omega)) (nI_clamp (by omega)) (by omega)]
  have e7 : (7 : Int32) * nI f = nI (7 * f) := pk_mul 7 f
  -- the seven writes
  obtain ⟨c1, hc1⟩ : ∃ c1, c1 = uA c 30 (7 * f + 1) (nI b0) := ⟨_, rfl⟩
  obtain ⟨m1, hm1⟩ : ∃ m1, m1 = uA m 138 (7 * f + wpi 1) (nI b0) := ⟨_, rfl⟩
  have n1 := nm.step (v := 0) hf (k := 1) (by omega) (nI b0) (ti (by omega)).1 (ti (by omega)).2 (fun z => absurd z (by decide))
  rw [← hc1, ← hm1] at n1
  have f1 : Fr nF (fun a => a == 30) c c1 := by rw [hc1]; exact fz _ _ _
  have h1 : Fr nF (fun a => a == 138) m m1 := by rw [hm1]; exact mz _ _ _
  obtain ⟨c2, hc2⟩ : ∃ c2, c2 = uA c1 30 (7 * f + 2) (nI x) := ⟨_, rfl⟩
  obtain ⟨m2, hm2⟩ : ∃ m2, m2 = uA m1 138 (7 * f + wpi 2) (nI x) := ⟨_, rfl⟩
  have n2 := n1.step (v := 0) hf (k := 2) (by omega) (nI x) (ti (by omega)).1 (ti (by omega)).2 (fun _ => by rw [nI_toInt (by omega)]; omega)
  rw [← hc2, ← hm2] at n2
  have f2 : Fr nF (fun a => a == 30) c c2 := by rw [hc2]; exact f1.trans (fz _ _ _)
  have h2 : Fr nF (fun a => a == 138) m m2 := by rw [hm2]; exact h1.trans (mz _ _ _)
  have d2 := mv h f2 h2
  obtain ⟨c3, hc3⟩ : ∃ c3, c3 = uA c2 30 (7 * f + 3) (nI (F (p + 3))) := ⟨_, rfl⟩
  obtain ⟨m3, hm3⟩ : ∃ m3, m3 = uA m2 138 (7 * f + wpi 3) (nI (F (p + 3))) := ⟨_, rfl⟩
  have n3 := n2.step (v := 0) hf (k := 3) (by omega) (nI (F (p + 3))) (ti (by omega)).1 (ti (by omega)).2 (fun z => absurd z (by decide))
  rw [← hc3, ← hm3] at n3
  have f3 : Fr nF (fun a => a == 30) c c3 := by rw [hc3]; exact f2.trans (fz _ _ _)
  have h3 : Fr nF (fun a => a == 138) m m3 := by rw [hm3]; exact h2.trans (mz _ _ _)
  have d3 := mv h f3 h3
  obtain ⟨c4, hc4⟩ : ∃ c4, c4 = uA c3 30 (7 * f + 4) (nI (F (p + 4))) := ⟨_, rfl⟩
  obtain ⟨m4, hm4⟩ : ∃ m4, m4 = uA m3 138 (7 * f + wpi 4) (nI (F (p + 4))) := ⟨_, rfl⟩
  have n4 := n3.step (v := 0) hf (k := 4) (by omega) (nI (F (p + 4))) (ti (by omega)).1 (ti (by omega)).2 (fun z => absurd z (by decide))
  rw [← hc4, ← hm4] at n4
  have f4 : Fr nF (fun a => a == 30) c c4 := by rw [hc4]; exact f3.trans (fz _ _ _)
  have h4 : Fr nF (fun a => a == 138) m m4 := by rw [hm4]; exact h3.trans (mz _ _ _)
  have d4 := mv h f4 h4
  have b5 : -128 ≤ ((nI (F (p + 5))).toInt8.toInt32).toInt ∧ ((nI (F (p + 5))).toInt8.toInt32).toInt ≤ 127 := by
    rw [Int8.toInt_toInt32]
    have h1 := Int8.le_toInt (nI (F (p + 5))).toInt8
    have h2 := Int8.toInt_lt (nI (F (p + 5))).toInt8
    omega
  obtain ⟨c5, hc5⟩ : ∃ c5, c5 = uA c4 30 (7 * f + 5) ((nI (F (p + 5))).toInt8.toInt32) := ⟨_, rfl⟩
  obtain ⟨m5, hm5⟩ : ∃ m5, m5 = uA m4 138 (7 * f + wpi 5) ((nI (F (p + 5))).toInt8.toInt32) := ⟨_, rfl⟩
  have n5 := n4.step (v := 0) hf (k := 5) (by omega) ((nI (F (p + 5))).toInt8.toInt32) (by omega) (by omega) (fun z => absurd z (by decide))
  rw [← hc5, ← hm5] at n5
  have f5 : Fr nF (fun a => a == 30) c c5 := by rw [hc5]; exact f4.trans (fz _ _ _)
  have h5 : Fr nF (fun a => a == 138) m m5 := by rw [hm5]; exact h4.trans (mz _ _ _)
  have d5 := mv h f5 h5
  obtain ⟨c6, hc6⟩ : ∃ c6, c6 = uA c5 30 (7 * f + 6) (nI (F (p + 6))) := ⟨_, rfl⟩
  obtain ⟨m6, hm6⟩ : ∃ m6, m6 = uA m5 138 (7 * f + wpi 6) (nI (F (p + 6))) := ⟨_, rfl⟩
  have n6 := n5.step (v := 0) hf (k := 6) (by omega) (nI (F (p + 6))) (ti (by omega)).1 (ti (by omega)).2 (fun z => absurd z (by decide))
  rw [← hc6, ← hm6] at n6
  have f6 : Fr nF (fun a => a == 30) c c6 := by rw [hc6]; exact f5.trans (fz _ _ _)
  have h6 : Fr nF (fun a => a == 138) m m6 := by rw [hm6]; exact h5.trans (mz _ _ _)
  have d6 := mv h f6 h6
  obtain ⟨c7, hc7⟩ : ∃ c7, c7 = uA c6 30 (7 * f + 0) (nI (F (p + 7) * 256 + F (p + (7 + 1)))) := ⟨_, rfl⟩
  obtain ⟨m7, hm7⟩ : ∃ m7, m7 = uA m6 138 (7 * f + wpi 0) (nI (F (p + 7) * 256 + F (p + (7 + 1)))) := ⟨_, rfl⟩
  have n7 := n6.step (v := 0) hf (k := 0) (by omega) (nI (F (p + 7) * 256 + F (p + (7 + 1)))) (ti (by omega)).1 (ti (by omega)).2 (fun z => absurd z (by decide))
  rw [← hc7, ← hm7] at n7
  have f7 : Fr nF (fun a => a == 30) c c7 := by rw [hc7]; exact f6.trans (fz _ _ _)
  have h7 : Fr nF (fun a => a == 138) m m7 := by rw [hm7]; exact h6.trans (mz _ _ _)
  have hw1 : uA m 138 (7 * f + 0) (nI b0) = m1 := hm1.symm
  have hw2 : uA m1 138 (7 * f + 1) (nI x) = m2 := hm2.symm
  have hw3 : uA m2 138 (7 * f + 2) (nI (F (p + 3))) = m3 := hm3.symm
  have hw4 : uA m3 138 (7 * f + 3) (nI (F (p + 4))) = m4 := hm4.symm
  have hw5 : uA m4 138 (7 * f + 4) ((nI (F (p + 5))).toInt8.toInt32) = m5 := hm5.symm
  have hw6 : uA m5 138 (7 * f + 5) (nI (F (p + 6))) = m6 := hm6.symm
  have hw7 : uA m6 138 (7 * f + 6) (nI (F (p + 7) * 256 + F (p + (7 + 1)))) = m7 := hm7.symm
  refine ⟨c7, m7, ?_, ?_, f7, h7, ⟨fun f' k' a1 a2 _ => n7.1 f' k' a1 a2 (fun _ => by omega), n7.2⟩⟩
  · unfold f_X2_send_79
    rw [show (1 : Int32) = nI 1 from rfl, c_setN (by omega) (by omega), ← hc1, bd_eq, show (2 : Int32) = nI 2 from rfl, c_setN (by omega) (by omega), ← hc2, bd_eq, show (3 : Int32) = nI 3 from rfl, c_data1 d2 (by omega), bd_eq, c_setN (by omega) (by omega), ← hc3, bd_eq, show (4 : Int32) = nI 4 from rfl, c_data1 d3 (by omega), bd_eq, c_setN (by omega) (by omega), ← hc4, bd_eq, show (5 : Int32) = nI 5 from rfl, c_data1 d4 (by omega), bd_eq, c_setN (by omega) (by omega), ← hc5, bd_eq, show (6 : Int32) = nI 6 from rfl, c_data1 d5 (by omega), bd_eq, c_setN (by omega) (by omega), ← hc6, bd_eq, show (7 : Int32) = nI 7 from rfl, c_two1 d6 (by omega), bd_eq, show (0 : Int32) = nI 0 from rfl, c_setN (by omega) (by omega), ← hc7, bd_eq]
  · have i0 : ∀ {α : Type} (K : Nat → Option α), ix (nI (7 * f)) 119 K = K (7 * f + 0) := fun K => ix_in (nI_pos (by omega)) (nI_clamp (by omega)) (by omega)
    unfold f_X12_fontData_88
    rw [e7, i0, lb_eq, hw1, show (1 : Int32) = nI 1 from rfl, ix7 _ (by omega), lb_eq, hw2, show (3 : Int32) = nI 3 from rfl, m_data1 d2 hd (by omega), bd_eq, show (2 : Int32) = nI 2 from rfl, ix7 _ (by omega), lb_eq, hw3, show (4 : Int32) = nI 4 from rfl, m_data1 d3 hd (by omega), bd_eq, ix7 _ (by omega), lb_eq, hw4, show (5 : Int32) = nI 5 from rfl, m_sign1 d4 hd (by omega), bd_eq, ix7 _ (by omega), lb_eq, hw5, show (6 : Int32) = nI 6 from rfl, m_data1 d5 hd (by omega), bd_eq, ix7 _ (by omega), lb_eq, hw6, show (7 : Int32) = nI 7 from rfl, m_data1 d6 hd (by omega), bd_eq, show (8 : Int32) = nI 8 from rfl, m_data1 d6 hd (by omega), bd_eq, ix7 _ (by omega), lb_eq, show nI (F (p + 7)) * 256 = nI (F (p + 7) * 256) from pk_mul _ 256, nI_add, hw7]
end G2
