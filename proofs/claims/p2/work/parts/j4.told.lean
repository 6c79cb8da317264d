/-! What a stream leaves to be told, on both sides. -/
section J4
variable {c c' c0 c1 c2 c3 m m' m0 m1 m2 m3 T T' M' : Mm} {d w b A o M o' n p p1 r q a i s f k u h rb t v kd gp L N : Nat} {F : Nat → Nat} {ov ov' ng sg z sm wt e : Bool} {g : Nat → Int32} {Gc Gm : Gty} {PF QF : Nat → Nat → Bool} {PA QA : Nat → Bool}
/-- the reference's writes -/
noncomputable def toldK (T13 : Mm) (K : Mm → Option (Unit × Mm)) : Option (Unit × Mm) := lb (uA T13 162 0 ((gA T13 134 189))) fun T14 => lb (uA T14 162 1 ((gA T14 134 190))) fun T15 => lb (uA T15 162 2 ((gA T15 134 7))) fun T16 => lb (uA T16 162 3 ((gA T16 134 6))) fun T17 => lb (uA T17 162 4 ((gA T17 134 2))) fun T18 => lb (uA T18 162 5 ((gA T18 134 3))) fun T19 => lb (uA T19 162 6 ((gA T19 134 4))) fun T20 => lb (uA T20 162 7 ((gA T20 134 5))) fun T21 => bd (f_X12_fontInUse T21) fun v22 T23 => lb (uA T23 162 8 (v22)) fun T24 => lb (uA T24 162 9 ((gA T24 134 0))) fun T25 => lb (uA T25 162 10 ((gA T25 134 1))) fun T26 => lb (uA T26 162 11 ((gA T26 134 146))) fun T27 => K T27
def w8 (T : Mm) (a : Nat) (x0 x1 x2 x3 x4 x5 x6 x7 : Int32) : Mm := uA (uA (uA (uA (uA (uA (uA (uA T a 0 x0) a 1 x1) a 2 x2) a 3 x3) a 4 x4) a 5 x5) a 6 x6) a 7 x7
def w4 (T : Mm) (a : Nat) (x0 x1 x2 x3 : Int32) : Mm := uA (uA (uA (uA T a 8 x0) a 9 x1) a 10 x2) a 11 x3
theorem w8_fr {a : Nat} {x0 x1 x2 x3 x4 x5 x6 x7 : Int32} : Fr nF (fun b => b == a) T (w8 T a x0 x1 x2 x3 x4 x5 x6 x7) := by
  unfold w8
  exact (((((((Fr.refl.uA _ _ (by simp)).uA _ _ (by simp)).uA _ _ (by simp)).uA _ _ (by simp)).uA _ _ (by simp)).uA _ _ (by simp)).uA _ _ (by simp)).uA _ _ (by simp)
theorem w4_fr {a : Nat} {x0 x1 x2 x3 : Int32} : Fr nF (fun b => b == a) T (w4 T a x0 x1 x2 x3) := by
  unfold w4
  exact (((Fr.refl.uA _ _ (by simp)).uA _ _ (by simp)).uA _ _ (by simp)).uA _ _ (by simp)
def nth8 (x0 x1 x2 x3 x4 x5 x6 x7 : Int32) (k : Nat) : Int32 := if k = 0 then x0 else if k = 1 then x1 else if k = 2 then x2 else if k = 3 then x3 else if k = 4 then x4 else if k = 5 then x5 else if k = 6 then x6 else x7
theorem w8_v {a : Nat} {x0 x1 x2 x3 x4 x5 x6 x7 : Int32} (hk : k < 8) : gA (w8 T a x0 x1 x2 x3 x4 x5 x6 x7) a k = nth8 x0 x1 x2 x3 x4 x5 x6 x7 k := by
  unfold w8 nth8
  rw [gA_one, gA_one, gA_one, gA_one, gA_one, gA_one, gA_one, gA_one]
  rcases (show k = 0 ∨ k = 1 ∨ k = 2 ∨ k = 3 ∨ k = 4 ∨ k = 5 ∨ k = 6 ∨ k = 7 by omega) with rfl | rfl | rfl | rfl | rfl | rfl | rfl | rfl <;> rfl
theorem w4_v {a : Nat} {x0 x1 x2 x3 : Int32} : gA (w4 T a x0 x1 x2 x3) a k = if k = 11 then x3 else if k = 10 then x2 else if k = 9 then x1 else if k = 8 then x0 else gA T a k := by
  unfold w4
  rw [gA_one, gA_one, gA_one, gA_one]
def b65 (a : Nat) : Bool := a == 65 || a == 35
def b162 (a : Nat) : Bool := a == 162 || a == 164
theorem two_told (h : RR d ov c m) : ∃ c' m', f_X9_keepStates c = some ((), c') ∧ (∀ K, toldK m K = K m') ∧ RR d ov c' m' ∧ (∀ k, k < 12 → gA c' 65 k = gA m' 162 k) ∧ Fr cIU b65 c c' ∧ Fr nF b162 m m' := by
  have ei : ∀ {c m : Mm}, RR d ov c m → ∀ q, q ∈ envT → gI c q.1 (45 + q.2.1) = gA m 134 q.2.2 := fun h => h.ev.i
  obtain ⟨c8, hc8⟩ : ∃ c8, c8 = w8 c 65 (gI c 706 46) (gI c 707 46) (gI c 709 46) (gI c 708 46) (gI c 702 46) (gI c 703 46) (gI c 704 46) (gI c 705 46) := ⟨_, rfl⟩
  obtain ⟨m8, hm8⟩ : ∃ m8, m8 = w8 m 162 (gA m 134 189) (gA m 134 190) (gA m 134 7) (gA m 134 6) (gA m 134 2) (gA m 134 3) (gA m 134 4) (gA m 134 5) := ⟨_, rfl⟩
  have fc8 : Fr nF (fun b => b == 65) c c8 := by rw [hc8]; exact w8_fr
  have fm8 : Fr nF (fun b => b == 162) m m8 := by rw [hm8]; exact w8_fr
  have h8 : RR d ov c8 m8 := h.frG fc8 fm8 (fun _ _ _ => rfl) (fun a e => by unfold qqA at e; revert e; simp; omega) (fun _ _ => rfl) (fun a e => by unfold qqN at e; revert e; simp; omega)
  obtain ⟨r, c9, m9, r1, r2, e1, e2, h9, fc9, fm9⟩ := use2 h8
  obtain ⟨c', hc'⟩ : ∃ c', c' = w4 c9 65 (nI r) (gI c9 700 46) (gI c9 701 46) (gI c9 711 46) := ⟨_, rfl⟩
  obtain ⟨m', hm'⟩ : ∃ m', m' = w4 m9 162 (nI r) (gA m9 134 0) (gA m9 134 1) (gA m9 134 146) := ⟨_, rfl⟩
  have fc4 : Fr nF (fun b => b == 65) c9 c' := by rw [hc']; exact w4_fr
  have fm4 : Fr nF (fun b => b == 162) m9 m' := by rw [hm']; exact w4_fr
  have h' : RR d ov c' m' := h9.frG fc4 fm4 (fun _ _ _ => rfl) (fun a e => by unfold qqA at e; revert e; simp; omega) (fun _ _ => rfl) (fun a e => by unfold qqN at e; revert e; simp; omega)
  refine ⟨c', m', ?_, fun K => ?_, h', fun k hk => ?_, ?_, ?_⟩
  · have : f_X9_keepStates c = (bd (f_X1_wishes 45 c8) fun v1 T2 => gd (kS true v1 = 14) <| bd (f_X2_inUse v1 T2) fun v12 T13 => lb (uA T13 65 8 (v12)) fun T14 => lb (uA T14 65 9 ((gI T14 700 46))) fun T15 => lb (uA T15 65 10 ((gI T15 701 46))) fun T16 => lb (uA T16 65 11 ((gI T16 711 46))) fun T17 => some ((), T17)) := by rw [hc8]; rfl
    rw [this, e1, hc']; rfl
  · have : toldK m K = (bd (f_X12_fontInUse m8) fun v22 T23 => lb (uA T23 162 8 (v22)) fun T24 => lb (uA T24 162 9 ((gA T24 134 0))) fun T25 => lb (uA T25 162 10 ((gA T25 134 1))) fun T26 => lb (uA T26 162 11 ((gA T26 134 146))) fun T27 => K T27) := by
      rw [hm8]
      unfold toldK w8
      simp only [lb_eq, gA_wo _ _ _ (show (134 : Nat) ≠ 162 by decide)]
    rw [this, e2, bd_eq, hm']
    unfold w4
    simp only [lb_eq, gA_wo _ _ _ (show (134 : Nat) ≠ 162 by decide)]
  · rw [hc', hm', w4_v, w4_v]
    by_cases q11 : k = 11
    · rw [if_pos q11, if_pos q11]; exact ei h9 (711, 1, 146) (by decide)
    rw [if_neg q11, if_neg q11]
    by_cases q10 : k = 10
    · rw [if_pos q10, if_pos q10]; exact ei h9 (701, 1, 1) (by decide)
    rw [if_neg q10, if_neg q10]
    by_cases q9 : k = 9
    · rw [if_pos q9, if_pos q9]; exact ei h9 (700, 1, 0) (by decide)
    rw [if_neg q9, if_neg q9]
    by_cases q8 : k = 8
    · rw [if_pos q8, if_pos q8]
    rw [if_neg q8, if_neg q8, fc9.a rfl, fm9.a rfl, hc8, hm8, w8_v (by omega), w8_v (by omega)]
    unfold nth8
    rw [show gI c 706 46 = gA m 134 189 from ei h (706, 1, 189) (by decide), show gI c 707 46 = gA m 134 190 from ei h (707, 1, 190) (by decide), show gI c 709 46 = gA m 134 7 from ei h (709, 1, 7) (by decide), show gI c 708 46 = gA m 134 6 from ei h (708, 1, 6) (by decide), show gI c 702 46 = gA m 134 2 from ei h (702, 1, 2) (by decide), show gI c 703 46 = gA m 134 3 from ei h (703, 1, 3) (by decide), show gI c 704 46 = gA m 134 4 from ei h (704, 1, 4) (by decide), show gI c 705 46 = gA m 134 5 from ei h (705, 1, 5) (by decide)]
  · exact ((fc8.weak (fun _ _ _ => rfl) (fun a z => (Bool.or_eq_false_iff.mp z).1)).trans (fc9.weak (fun _ _ z => z) (fun a z => (Bool.or_eq_false_iff.mp z).2))).trans (fc4.weak (fun _ _ _ => rfl) (fun a z => (Bool.or_eq_false_iff.mp z).1))
  · exact ((fm8.weak (fun _ _ _ => rfl) (fun a z => (Bool.or_eq_false_iff.mp z).1)).trans (fm9.weak (fun _ _ _ => rfl) (fun a z => (Bool.or_eq_false_iff.mp z).2))).trans (fm4.weak (fun _ _ _ => rfl) (fun a z => (Bool.or_eq_false_iff.mp z).1))
end J4
