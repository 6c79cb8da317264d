/-! Frames: from S to S', only the fields WI (whole numbers, longs), WR (references) and the rows of the arrays WA may have changed, of all that was there. -/
def Fm (WI WR : Nat → Nat → Prop) (WA : Nat → Prop) (S S' : Hp) : Prop := ∀ a, a ∈ hL S → a ∈ hL S' ∧ hK S' a = hK S a ∧ hN S' a = hN S a ∧ (∀ f, ¬ WI f a → hI S' f a = hI S f a ∧ hJ S' f a = hJ S f a) ∧ (∀ f, ¬ WR f a → hR S' f a = hR S f a) ∧ (¬ WA a → ∀ j, aI S' a j = aI S a j ∧ aJ S' a j = aJ S a j ∧ aR S' a j = aR S a j)
section FRM
variable {WI WR VI VR : Nat → Nat → Prop} {WA VA : Nat → Prop} {S S' S2 : Hp}
theorem Fm.refl : Fm WI WR WA S S := fun a h => ⟨h, rfl, rfl, fun _ _ => ⟨rfl, rfl⟩, fun _ _ => rfl, fun _ _ => ⟨rfl, rfl, rfl⟩⟩
theorem Fm.mem (h : Fm WI WR WA S S') {a : Nat} (ha : a ∈ hL S) : a ∈ hL S' := (h a ha).1
theorem Fm.kd (h : Fm WI WR WA S S') {a c : Nat} (ha : a ∈ hL S) (hc : hK S a = c) : hK S' a = c := (h a ha).2.1.trans hc
theorem Fm.ln (h : Fm WI WR WA S S') {a c : Nat} (ha : a ∈ hL S) (hc : hN S a = c) : hN S' a = c := (h a ha).2.2.1.trans hc
theorem Fm.fi (h : Fm WI WR WA S S') {a f : Nat} {v : Int32} (ha : a ∈ hL S) (hw : ¬ WI f a) (hc : hI S f a = v) : hI S' f a = v := ((h a ha).2.2.2.1 f hw).1.trans hc
theorem Fm.fj (h : Fm WI WR WA S S') {a f : Nat} {v : Int64} (ha : a ∈ hL S) (hw : ¬ WI f a) (hc : hJ S f a = v) : hJ S' f a = v := ((h a ha).2.2.2.1 f hw).2.trans hc
theorem Fm.fr (h : Fm WI WR WA S S') {a f : Nat} {v : Option Nat} (ha : a ∈ hL S) (hw : ¬ WR f a) (hc : hR S f a = v) : hR S' f a = v := ((h a ha).2.2.2.2.1 f hw).trans hc
theorem Fm.ai (h : Fm WI WR WA S S') {a : Nat} (ha : a ∈ hL S) (hw : ¬ WA a) (j : Nat) : aI S' a j = aI S a j := ((h a ha).2.2.2.2.2 hw j).1
theorem Fm.aj (h : Fm WI WR WA S S') {a : Nat} (ha : a ∈ hL S) (hw : ¬ WA a) (j : Nat) : aJ S' a j = aJ S a j := ((h a ha).2.2.2.2.2 hw j).2.1
theorem Fm.ar (h : Fm WI WR WA S S') {a : Nat} (ha : a ∈ hL S) (hw : ¬ WA a) (j : Nat) : aR S' a j = aR S a j := ((h a ha).2.2.2.2.2 hw j).2.2
theorem Fm.then (h : Fm WI WR WA S S') (h2 : Fm VI VR VA S' S2) (h3 : ∀ a, a ∈ hL S → (∀ f, VI f a → WI f a) ∧ (∀ f, VR f a → WR f a) ∧ (VA a → WA a)) : Fm WI WR WA S S2 := fun a ha => by
  obtain ⟨q1, q2, q3, q4, q5, q6⟩ := h a ha
  obtain ⟨p1, p2, p3, p4, p5, p6⟩ := h2 a q1
  obtain ⟨w1, w2, w3⟩ := h3 a ha
  exact ⟨p1, p2.trans q2, p3.trans q3, fun f hf => ⟨(p4 f (fun q => hf (w1 f q))).1.trans (q4 f hf).1, (p4 f (fun q => hf (w1 f q))).2.trans (q4 f hf).2⟩, fun f hf => (p5 f (fun q => hf (w2 f q))).trans (q5 f hf), fun hf j => ⟨(p6 (fun q => hf (w3 q)) j).1.trans (q6 hf j).1, (p6 (fun q => hf (w3 q)) j).2.1.trans (q6 hf j).2.1, (p6 (fun q => hf (w3 q)) j).2.2.trans (q6 hf j).2.2⟩⟩
theorem Fm.weak (h : Fm WI WR WA S S') (h1 : ∀ f a, WI f a → VI f a) (h2 : ∀ f a, WR f a → VR f a) (h3 : ∀ a, WA a → VA a) : Fm VI VR VA S S' := Fm.then Fm.refl h fun a _ => ⟨fun f => h1 f a, fun f => h2 f a, h3 a⟩
theorem Fm.sI (h : Fm WI WR WA S S') {g b : Nat} (v : Int32) (hw : b ∈ hL S → WI g b) : Fm WI WR WA S (sI S' g b v) := fun a ha => by
  obtain ⟨q1, q2, q3, q4, q5, q6⟩ := h a ha
  refine ⟨q1, q2, q3, fun f hf => ⟨?_, (q4 f hf).2⟩, q5, q6⟩
  rw [hI_sI, if_neg]
  · exact (q4 f hf).1
  · rintro ⟨rfl, rfl⟩
    exact hf (hw ha)
theorem Fm.sJ (h : Fm WI WR WA S S') {g b : Nat} (v : Int64) (hw : b ∈ hL S → WI g b) : Fm WI WR WA S (sJ S' g b v) := fun a ha => by
  obtain ⟨q1, q2, q3, q4, q5, q6⟩ := h a ha
  refine ⟨q1, q2, q3, fun f hf => ⟨(q4 f hf).1, ?_⟩, q5, q6⟩
  rw [hJ_sJ, if_neg]
  · exact (q4 f hf).2
  · rintro ⟨rfl, rfl⟩
    exact hf (hw ha)
theorem Fm.sR (h : Fm WI WR WA S S') {g b : Nat} (v : Option Nat) (hw : b ∈ hL S → WR g b) : Fm WI WR WA S (sR S' g b v) := fun a ha => by
  obtain ⟨q1, q2, q3, q4, q5, q6⟩ := h a ha
  refine ⟨q1, q2, q3, q4, fun f hf => ?_, q6⟩
  rw [hR_sR, if_neg]
  · exact q5 f hf
  · rintro ⟨rfl, rfl⟩
    exact hf (hw ha)
theorem Fm.tI (h : Fm WI WR WA S S') {b : Nat} (i : Nat) (v : Int32) (hw : b ∈ hL S → WA b) : Fm WI WR WA S (tI S' b i v) := fun a ha => by
  obtain ⟨q1, q2, q3, q4, q5, q6⟩ := h a ha
  refine ⟨q1, q2, q3, q4, q5, fun hf j => ⟨?_, (q6 hf j).2⟩⟩
  rw [aI_tI, if_neg]
  · exact (q6 hf j).1
  · rintro ⟨rfl, rfl⟩
    exact hf (hw ha)
theorem Fm.tJ (h : Fm WI WR WA S S') {b : Nat} (i : Nat) (v : Int64) (hw : b ∈ hL S → WA b) : Fm WI WR WA S (tJ S' b i v) := fun a ha => by
  obtain ⟨q1, q2, q3, q4, q5, q6⟩ := h a ha
  refine ⟨q1, q2, q3, q4, q5, fun hf j => ⟨(q6 hf j).1, ?_, (q6 hf j).2.2⟩⟩
  rw [aJ_tJ, if_neg]
  · exact (q6 hf j).2.1
  · rintro ⟨rfl, rfl⟩
    exact hf (hw ha)
theorem Fm.tR (h : Fm WI WR WA S S') {b : Nat} (i : Nat) (v : Option Nat) (hw : b ∈ hL S → WA b) : Fm WI WR WA S (tR S' b i v) := fun a ha => by
  obtain ⟨q1, q2, q3, q4, q5, q6⟩ := h a ha
  refine ⟨q1, q2, q3, q4, q5, fun hf j => ⟨(q6 hf j).1, (q6 hf j).2.1, ?_⟩⟩
  rw [aR_tR, if_neg]
  · exact (q6 hf j).2.2
  · rintro ⟨rfl, rfl⟩
    exact hf (hw ha)
theorem Fm.rI (h : Fm WI WR WA S S') {b : Nat} (v : Nat → Int32) (hw : b ∈ hL S → WA b) : Fm WI WR WA S (rI S' b v) := fun a ha => by
  obtain ⟨q1, q2, q3, q4, q5, q6⟩ := h a ha
  refine ⟨q1, q2, q3, q4, q5, fun hf j => ⟨?_, (q6 hf j).2⟩⟩
  rw [aI_rI, if_neg]
  · exact (q6 hf j).1
  · rintro rfl
    exact hf (hw ha)
theorem Fm.nO (h : Fm WI WR WA S S') {b : Nat} (k : Nat) (hb : b ∉ hL S') : Fm WI WR WA S (nO S' b k) := fun a ha => by
  obtain ⟨q1, q2, q3, q4, q5, q6⟩ := h a ha
  have e : a ≠ b := fun e => hb (e ▸ q1)
  refine ⟨List.mem_append_left _ q1, ?_, q3, fun f hf => ⟨?_, ?_⟩, fun f hf => ?_, q6⟩
  · rw [hK_nO, if_neg e]; exact q2
  · rw [hI_nO, if_neg e]; exact (q4 f hf).1
  · rw [hJ_nO, if_neg e]; exact (q4 f hf).2
  · rw [hR_nO, if_neg e]; exact q5 f hf
theorem Fm.nA (h : Fm WI WR WA S S') {b : Nat} (k n : Nat) (hb : b ∉ hL S') : Fm WI WR WA S (nA S' b k n) := fun a ha => by
  obtain ⟨q1, q2, q3, q4, q5, q6⟩ := h a ha
  have e : a ≠ b := fun e => hb (e ▸ q1)
  refine ⟨List.mem_append_left _ q1, ?_, ?_, q4, q5, fun hf j => ⟨?_, ?_, ?_⟩⟩
  · rw [hK_nA, if_neg e]; exact q2
  · rw [hN_nA, if_neg e]; exact q3
  · rw [aI_nA, if_neg e]; exact (q6 hf j).1
  · rw [aJ_nA, if_neg e]; exact (q6 hf j).2.1
  · rw [aR_nA, if_neg e]; exact (q6 hf j).2.2
end FRM
/-- what stands behind a new cell -/
theorem mem_old {l : List Nat} {a q : Nat} (h : a ∈ l) : a ∈ l ++ [q] := List.mem_append_left _ h
theorem mem_new {l : List Nat} {q : Nat} : q ∈ l ++ [q] := List.mem_append_right _ (List.mem_singleton.mpr rfl)
theorem kd_nO {S : Hp} {a q k c : Nat} (hq : q ∉ hL S) (ha : a ∈ hL S) (h : hK S a = c) : hK (nO S q k) a = c := by
  rw [hK_nO, if_neg (fun e : a = q => hq (e ▸ ha))]; exact h
theorem kd_nO' {S : Hp} {q k : Nat} : hK (nO S q k) q = k := by rw [hK_nO, if_pos rfl]
theorem kd_nA {S : Hp} {a q k n c : Nat} (hq : q ∉ hL S) (ha : a ∈ hL S) (h : hK S a = c) : hK (nA S q k n) a = c := by
  rw [hK_nA, if_neg (fun e : a = q => hq (e ▸ ha))]; exact h
theorem kd_nA' {S : Hp} {q k n : Nat} : hK (nA S q k n) q = k := by rw [hK_nA, if_pos rfl]
theorem ln_nA {S : Hp} {a q k n c : Nat} (hq : q ∉ hL S) (ha : a ∈ hL S) (h : hN S a = c) : hN (nA S q k n) a = c := by
  rw [hN_nA, if_neg (fun e : a = q => hq (e ▸ ha))]; exact h
theorem ln_nA' {S : Hp} {q k n : Nat} : hN (nA S q k n) q = n := by rw [hN_nA, if_pos rfl]
theorem ne_of_nin {l : List Nat} {a q : Nat} (hq : q ∉ l) (ha : a ∈ l) : a ≠ q := fun e => hq (e ▸ ha)
