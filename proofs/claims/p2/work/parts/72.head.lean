/-! The header of a picture file. -/
theorem byt_id {v : Int32} (h : byt v) : v.toInt8.toInt32 = v := by
  unfold byt fits at h
  simp only [Bool.and_eq_true, decide_eq_true_eq, Int32.le_iff_toInt_le] at h
  refine Int32.toInt_inj.mp ?_
  rw [Int8.toInt_toInt32, Int32.toInt_toInt8]
  have h1 : (-128 : Int32).toInt = -128 := by decide
  have h2 : (127 : Int32).toInt = 127 := by decide
  rw [h1, h2] at h
  exact Int.bmod_eq_of_le (by omega) (by omega)
theorem byt_ext {v w : Int32} (hv : byt v) (hw : byt w) : v &&& 255 = w &&& 255 ↔ v = w := by
  refine ⟨fun h => ?_, fun h => by rw [h]⟩
  rw [← byt_id hv, ← byt_id hw]
  refine congrArg _ (i8_eq fun i hi => ?_)
  have := congrArg (fun x => bt x i) h
  simp only [b_and, b_255, decide_eq_true hi, Bool.and_true] at this
  exact this
theorem f_fail {c : Mm} {k : Int32} {p sz : Nat} (h0 : gI c 304 129 = 0) (hs : gI c 303 129 = nI sz) (hp : p < 2 ^ 60) (hz : sz < 2 ^ 30) : f_X3_fail k (lN p) c = some ((), uI (uI c 304 129 k) 305 129 (nI (if sz < p then sz else p))) := by
  unfold f_X3_fail
  rw [h0, if_pos rfl, lb_eq, gI_uI, if_neg (by decide), hs, nI_l (by omega), f_minl, bd_eq, lb_eq]
  by_cases q : sz < p
  · rw [if_pos ((pk_lLT (by omega) (by omega)).mpr q), if_pos q, lN_i]
  · rw [if_neg (fun z => q ((pk_lLT (by omega) (by omega)).mp z)), if_neg q, lN_i]
theorem f_failed {c : Mm} {k : Int32} {p : Int64} (h0 : ¬ gI c 304 129 = 0) : f_X3_fail k p c = some ((), c) := by
  unfold f_X3_fail; rw [if_neg h0]
theorem PicC.fr {c c' : Mm} {st sz : Nat} {F : Nat → Nat} {PF : Nat → Nat → Bool} {PA : Nat → Bool} (h : PicC c st sz F) (f : Fr PF PA c c') (e1 : PF 301 129 = false) (e2 : PF 302 129 = false) (e3 : PF 303 129 = false) (e4 : PA 2 = false) : PicC c' st sz F := by
  obtain ⟨h1, h2, h3, h4, h5, h6, h7⟩ := h
  exact ⟨(f.r e1).trans h1, (f.i e2).trans h2, (f.i e3).trans h3, h4, by rw [f.a e4]; exact h5, h6, h7⟩
theorem PicM.fr {c c' : Mm} {st sz : Nat} {F : Nat → Nat} {PF : Nat → Nat → Bool} {PA : Nat → Bool} (h : PicM c st sz F) (f : Fr PF PA c c') (e2 : PF 1267 133 = false) (e3 : PF 1268 133 = false) (e4 : PA 152 = false) : PicM c' st sz F := by
  obtain ⟨h2, h3, h4, h5, h6⟩ := h
  exact ⟨(f.i e2).trans h2, (f.i e3).trans h3, h4, by rw [f.a e4]; exact h5, h6⟩
/-- byte i of the header as it should be -/
def hOk (F : Nat → Nat) (sz i : Nat) : Prop := i < sz ∧ (i = 0 → F 0 = 73 ∨ F 0 = 77) ∧ (i = 1 → F 1 = F 0) ∧ (i = 2 → F 2 = if F 0 = 73 then 42 else 0) ∧ (i = 3 → F 3 = if F 0 = 73 then 0 else 42)
theorem h_tail {c : Mm} {n i b : Nat} {st sz : Nat} {F : Nat → Nat} {ok : Bool} (h : PicC c st sz F) (h0 : gI c 304 129 = 0) (hi : i < 8) (hok : i < sz ∧ ok = true ∨ ¬ (i < sz ∧ ok = true)) (hsz : i ≤ sz) : f_X3_readHeader_130 (f_X3_readHeader_l23 n) (nI b) (nI i) (cI ok) c = if i < sz ∧ ok = true then f_X3_readHeader_l23 n (nI b) (nI (i + 1)) c else f_X3_readHeader_l23 n (nI b) (nI (i + 1)) (uI (uI c 304 129 2) 305 129 (nI i)) := by
  have hs := h.2.2.2.1
  unfold f_X3_readHeader_130
  rw [h.2.2.1, nI_1, nI_l (by omega), f_fail h0 h.2.2.1 (by omega) (by omega), bd_eq, if_neg (by omega : ¬ sz < i)]
  rcases Nat.lt_or_ge i sz with q | q
  · rw [if_neg (nI_ge q (by omega))]
    cases ok
    · rw [if_pos (by decide), if_neg (fun z => by simp at z)]
    · rw [if_neg (by decide), if_pos ⟨q, rfl⟩]
  · rw [if_pos (nI_le q (by omega)), if_neg (fun z => by omega)]
theorem h_step {c : Mm} {n i : Nat} {st sz : Nat} {F : Nat → Nat} (h : PicC c st sz F) (h0 : gI c 304 129 = 0) (hl : gI c 306 129 = cI (decide (F 0 = 73))) (hi : i < 8) (hsz : i ≤ sz) (hd : Decidable (hOk F sz i)) : f_X3_readHeader_l23 (n + 1) (nI (F 0)) (nI i) c = if hOk F sz i then f_X3_readHeader_l23 n (nI (F 0)) (nI (i + 1)) c else f_X3_readHeader_l23 n (nI (F 0)) (nI (i + 1)) (uI (uI c 304 129 2) 305 129 (nI i)) := by
  have h255 : ∀ j, F j < 256 := h.2.2.2.2.2.1
  have hs := h.2.2.2.1
  show f_X3_readHeader_b23 (f_X3_readHeader_l23 n) _ _ _ = _
  unfold f_X3_readHeader_b23
  rw [show (8 : Int32) = nI 8 from rfl, if_neg (nI_ge hi (by omega)), h0, if_pos rfl]
  have fin : ∀ ok : Bool, (hOk F sz i ↔ i < sz ∧ ok = true) → f_X3_readHeader_130 (f_X3_readHeader_l23 n) (nI (F 0)) (nI i) (cI ok) c = if hOk F sz i then f_X3_readHeader_l23 n (nI (F 0)) (nI (i + 1)) c else f_X3_readHeader_l23 n (nI (F 0)) (nI (i + 1)) (uI (uI c 304 129 2) 305 129 (nI i)) := by
    intro ok e
    rw [h_tail h h0 hi (Classical.em _) hsz]
    by_cases q : hOk F sz i
    · rw [if_pos q, if_pos (e.mp q)]
    · rw [if_neg q, if_neg (fun z => q (e.mpr z))]
  have eqF : ∀ (a : Nat) (b : Nat), a < 256 → b < 256 → (nI a = nI b ↔ a = b) := fun a b h1 h2 => nI_eq (by omega) (by omega)
  have h8 : i = 0 ∨ i = 1 ∨ i = 2 ∨ i = 3 ∨ 4 ≤ i := by omega
  rcases h8 with rfl | rfl | rfl | rfl | h4
  · rw [if_pos nI_0]
    by_cases q1 : F 0 = 73
    · rw [if_pos (by rw [q1]; rfl)]
      exact fin true (by unfold hOk; simp [q1])
    · rw [if_neg (show ¬ nI (F 0) = (73 : Int32) from fun z => q1 ((eqF _ 73 (h255 0) (by omega)).mp z))]
      by_cases q2 : F 0 = 77
      · rw [if_pos (by rw [q2]; rfl)]
        exact fin true (by unfold hOk; simp [q2])
      · rw [if_neg (show ¬ nI (F 0) = (77 : Int32) from fun z => q2 ((eqF _ 77 (h255 0) (by omega)).mp z))]
        exact fin false (by unfold hOk; simp [q1, q2])
  · rw [if_neg (by decide), if_pos (by decide), nI_l (by omega), pic_byte h (by omega), bd_eq]
    by_cases q : F 1 = F 0
    · rw [if_pos (by rw [q])]
      exact fin true (by unfold hOk; simp [q])
    · rw [if_neg (fun z => q ((eqF _ _ (h255 1) (h255 0)).mp z))]
      exact fin false (by unfold hOk; simp [q])
  · rw [if_neg (by decide), if_neg (by decide), if_neg (by decide), nI_l (by omega), pic_byte h (by omega), bd_eq, if_pos (by decide), hl]
    unfold f_X3_readHeader_112
    by_cases q0 : F 0 = 73
    · rw [if_pos (by simp [q0]; rfl)]
      unfold f_X3_readHeader_121
      by_cases q : F 2 = 42
      · rw [if_pos (by rw [q]; rfl)]
        exact fin true (by unfold hOk; simp [q, q0])
      · rw [if_neg (show ¬ nI (F 2) = (42 : Int32) from fun z => q ((eqF _ 42 (h255 2) (by omega)).mp z))]
        exact fin false (by unfold hOk; simp [q, q0])
    · rw [if_neg (by simp [q0]; decide)]
      unfold f_X3_readHeader_121
      by_cases q : F 2 = 0
      · rw [if_pos (by rw [q]; rfl)]
        exact fin true (by unfold hOk; simp [q, q0])
      · rw [if_neg (show ¬ nI (F 2) = (0 : Int32) from fun z => q ((eqF _ 0 (h255 2) (by omega)).mp z))]
        exact fin false (by unfold hOk; simp [q, q0])
  · rw [if_neg (by decide), if_neg (by decide), if_neg (by decide), nI_l (by omega), pic_byte h (by omega), bd_eq, if_neg (by decide), hl]
    unfold f_X3_readHeader_112
    by_cases q0 : F 0 = 73
    · rw [if_neg (by simp [q0]; decide)]
      unfold f_X3_readHeader_121
      by_cases q : F 3 = 0
      · rw [if_pos (by rw [q]; rfl)]
        exact fin true (by unfold hOk; simp [q, q0])
      · rw [if_neg (show ¬ nI (F 3) = (0 : Int32) from fun z => q ((eqF _ 0 (h255 3) (by omega)).mp z))]
        exact fin false (by unfold hOk; simp [q, q0])
    · rw [if_pos (by simp [q0]; rfl)]
      unfold f_X3_readHeader_121
      by_cases q : F 3 = 42
      · rw [if_pos (by rw [q]; rfl)]
        exact fin true (by unfold hOk; simp [q, q0])
      · rw [if_neg (show ¬ nI (F 3) = (42 : Int32) from fun z => q ((eqF _ 42 (h255 3) (by omega)).mp z))]
        exact fin false (by unfold hOk; simp [q, q0])
  · rw [if_neg (nI_ne0 (by omega) (by omega)), if_neg (fun z => by rw [show (1 : Int32) = nI 1 from rfl, nI_eq (by omega) (by omega)] at z; omega), if_pos (show (4 : Int32) ≤ nI i from nI_le (a := 4) h4 (by omega))]
    exact fin true (by unfold hOk; simp; omega)
/-- from place i on: all is right, or the first that is not -/
theorem h_all {c : Mm} {st sz : Nat} {F : Nat → Nat} (h : PicC c st sz F) (h0 : gI c 304 129 = 0) (hl : gI c 306 129 = cI (decide (F 0 = 73))) : ∀ (k i n : Nat), i + k = 8 → k + 1 < n → (∀ j, j < i → hOk F sz j) → i ≤ sz → (f_X3_readHeader_l23 n (nI (F 0)) (nI i) c = some ((), c) ∧ ∀ j, j < 8 → hOk F sz j) ∨ ∃ p, p < 8 ∧ (∀ j, j < p → hOk F sz j) ∧ ¬ hOk F sz p ∧ p ≤ sz ∧ f_X3_readHeader_l23 n (nI (F 0)) (nI i) c = some ((), uI (uI c 304 129 2) 305 129 (nI p)) := by
  intro k
  induction k with
  | zero =>
    intro i n hi hn hj hs
    have : i = 8 := by omega
    subst this
    obtain ⟨n, rfl⟩ : ∃ k, n = k + 1 := ⟨n - 1, by omega⟩
    refine Or.inl ⟨?_, hj⟩
    show f_X3_readHeader_b23 (f_X3_readHeader_l23 n) _ _ _ = _
    unfold f_X3_readHeader_b23
    rw [if_pos (by decide)]
  | succ k ih =>
    intro i n hi hn hj hs
    obtain ⟨n, rfl⟩ : ∃ k, n = k + 1 := ⟨n - 1, by omega⟩
    rw [h_step h h0 hl (by omega) hs (Classical.propDecidable _)]
    by_cases q : hOk F sz i
    · rw [if_pos q]
      refine ih (i + 1) n (by omega) (by omega) (fun j hj2 => ?_) q.1
      rcases Nat.lt_succ_iff_lt_or_eq.mp hj2 with q2 | rfl
      · exact hj j q2
      · exact q
    · rw [if_neg q]
      refine Or.inr ⟨i, by omega, hj, q, hs, ?_⟩
      obtain ⟨n, rfl⟩ : ∃ k, n = k + 1 := ⟨n - 1, by omega⟩
      show f_X3_readHeader_b23 (f_X3_readHeader_l23 n) _ _ _ = _
      unfold f_X3_readHeader_b23
      have e9 : gI (uI (uI c 304 129 2) 305 129 (nI i)) 304 129 = 2 := by rw [gI_uI, if_neg (by decide), gI_uI, if_pos ⟨rfl, rfl⟩]
      rw [e9, if_neg (by decide : ¬ (2 : Int32) = 0)]
      split <;> rfl
theorem c_header {c : Mm} {st sz : Nat} {F : Nat → Nat} (h : PicC c st sz F) (h0 : gI c 304 129 = 0) : (f_X3_readHeader c = some ((), uI c 306 129 (cI (decide (F 0 = 73)))) ∧ ∀ j, j < 8 → hOk F sz j) ∨ ∃ p, p < 8 ∧ (∀ j, j < p → hOk F sz j) ∧ ¬ hOk F sz p ∧ p ≤ sz ∧ f_X3_readHeader c = some ((), uI (uI (uI c 306 129 (cI (decide (F 0 = 73)))) 304 129 2) 305 129 (nI p)) := by
  have e : f_X3_readHeader c = f_X3_readHeader_l23 FU (nI (F 0)) (nI 0) (uI c 306 129 (cI (decide (F 0 = 73)))) := by
    unfold f_X3_readHeader
    rw [show (0 : Int64) = lN 0 from rfl, pic_byte h (by omega), bd_eq]
    by_cases q : F 0 = 73
    · rw [if_pos (by rw [q]; rfl), lb_eq]; simp [q]; rfl
    · rw [if_neg (show ¬ nI (F 0) = (73 : Int32) from fun z => q ((nI_eq (b := 73) (by have := h.2.2.2.2.2.1 0; omega) (by omega)).mp z)), lb_eq]; simp [q]; rfl
  rw [e]
  exact h_all (h.fr (PF := fun f i => i == 129 && f == 306) (PA := fun _ => false) (Fr.refl.uI _ rfl) rfl rfl rfl rfl) (by rw [gI_uI, if_neg (by decide)]; exact h0) (by rw [gI_uI, if_pos ⟨rfl, rfl⟩]) 8 0 FU rfl (FU_gt (by omega)) (fun j hj => by omega) (Nat.zero_le _)
