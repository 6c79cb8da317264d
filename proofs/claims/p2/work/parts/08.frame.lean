/-! Frames: from S to S', only the fields WI (whole numbers, longs), WR (references) and the rows of the arrays WA may have changed, of all that was there. -/
def Fm (WI WR : Nat → Nat → Prop) (WA : Nat → Prop) (S S' : Hp) : Prop := ∀ a, a ∈ hL S → a ∈ hL S' ∧ hK S' a = hK S a ∧ hN S' a = hN S a ∧ (∀ f, ¬ WI f a → hI S' f a = hI S f a ∧ hJ S' f a = hJ S f a) ∧ (∀ f, ¬ WR f a → hR S' f a = hR S f a) ∧ (¬ WA a → ∀ j, aI S' a j = aI S a j ∧ aJ S' a j = aJ S a j ∧ aR S' a j = aR S a j)
/-- a kind, a length: said so that omega does not look at it -/
def Kd (S : Hp) (a c : Nat) : Prop := hK S a = c
def Ln (S : Hp) (a c : Nat) : Prop := hN S a = c
section FRM
variable {WI WR VI VR : Nat → Nat → Prop} {WA VA : Nat → Prop} {S S' S2 : Hp}
theorem Fm.refl : Fm WI WR WA S S := fun a h => ⟨h, rfl, rfl, fun _ _ => ⟨rfl, rfl⟩, fun _ _ => rfl, fun _ _ => ⟨rfl, rfl, rfl⟩⟩
theorem Fm.mem (h : Fm WI WR WA S S') {a : Nat} (ha : a ∈ hL S) : a ∈ hL S' := (h a ha).1
theorem Fm.kd (h : Fm WI WR WA S S') {a c : Nat} (ha : a ∈ hL S) (hc : hK S a = c) : hK S' a = c := (h a ha).2.1.trans hc
theorem Fm.ln (h : Fm WI WR WA S S') {a c : Nat} (ha : a ∈ hL S) (hc : hN S a = c) : hN S' a = c := (h a ha).2.2.1.trans hc
theorem Fm.fi (h : Fm WI WR WA S S') {a f : Nat} {v : Int32} (ha : a ∈ hL S) (hw : ¬ WI f a) (hc : hI S f a = v) : hI S' f a = v := ((h a ha).2.2.2.1 f hw).1.trans hc
theorem Fm.fj (h : Fm WI WR WA S S') {a f : Nat} {v : Int64} (ha : a ∈ hL S) (hw : ¬ WI f a) (hc : hJ S f a = v) : hJ S' f a = v := ((h a ha).2.2.2.1 f hw).2.trans hc
theorem Fm.fr (h : Fm WI WR WA S S') {a f : Nat} {v : Option Nat} (ha : a ∈ hL S) (hw : ¬ WR f a) (hc : hR S f a = v) : hR S' f a = v := ((h a ha).2.2.2.2.1 f hw).trans hc
theorem Fm.ai (h : Fm WI WR WA S S') {a : Nat} (ha : a ∈ hL S) (hw : ¬ WA a) (j : Nat) : aI S' a j = aI S a j := ((h a ha).2.2.2.2.2 hw j).1
theorem Fm.aj (h : Fm WI WR WA S S') {a : Nat} (ha : a ∈ hL S) (hw : ¬ WA a) (j : Nat) : aJ S' a j = aJ S a j := ((h a ha).2.2.2.2.2 hw j).2.1
theorem Fm.ar (h : Fm WI WR WA S S') {a : Nat} (ha : a ∈ hL S) (hw : ¬ WA a) (j : Nat) : aR S' a j = aR S a j := ((h a ha).2.2.2.2.2 hw j).2.2
theorem Fm.then (h : Fm WI WR WA S S') (h2 : Fm VI VR VA S' S2) (h3 : ∀ a, a ∈ hL S → (∀ f, VI f a → WI f a) ∧ (∀ f, VR f a → WR f a) ∧ (VA a → WA a)) : Fm WI WR WA S S2 := fun a ha => by
  obtain ⟨q1, q2, q3, q4, q5, q6⟩ := h a ha
  obtain ⟨p1, p2, p3, p4, p5, p6⟩ := h2 a q1
  obtain ⟨w1, w2, w3⟩ := h3 a ha
  exact ⟨p1, p2.trans q2, p3.trans q3, fun f hf => ⟨(p4 f (fun q => hf (w1 f q))).1.trans (q4 f hf).1, (p4 f (fun q => hf (w1 f q))).2.trans (q4 f hf).2⟩, fun f hf => (p5 f (fun q => hf (w2 f q))).trans (q5 f hf), fun hf j => ⟨(p6 (fun q => hf (w3 q)) j).1.trans (q6 hf j).1, (p6 (fun q => hf (w3 q)) j).2.1.trans (q6 hf j).2.1, (p6 (fun q => hf (w3 q)) j).2.2.trans (q6 hf j).2.2⟩⟩
theorem Fm.weak (h : Fm WI WR WA S S') (h1 : ∀ f a, WI f a → VI f a) (h2 : ∀ f a, WR f a → VR f a) (h3 : ∀ a, WA a → VA a) : Fm VI VR VA S S' := Fm.then Fm.refl h fun a _ => ⟨fun f => h1 f a, fun f => h2 f a, h3 a⟩
theorem Fm.sI (h : Fm WI WR WA S S') {g b : Nat} (v : Int32) (hw : b ∈ hL S → WI g b) : Fm WI WR WA S (sI S' g b v) := fun a ha => by
  obtain ⟨q1, q2, q3, q4, q5, q6⟩ := h a ha
  refine ⟨q1, q2, q3, fun f hf => ⟨?_, (q4 f hf).2⟩, q5, q6⟩
  rw [hI_sI, if_neg]
  · exact (q4 f hf).1
  · rintro ⟨rfl, rfl⟩
    exact hf (hw ha)
theorem Fm.sJ (h : Fm WI WR WA S S') {g b : Nat} (v : Int64) (hw : b ∈ hL S → WI g b) : Fm WI WR WA S (sJ S' g b v) := fun a ha => by
  obtain ⟨q1, q2, q3, q4, q5, q6⟩ := h a ha
  refine ⟨q1, q2, q3, fun f hf => ⟨(q4 f hf).1, ?_⟩, q5, q6⟩
  rw [hJ_sJ, if_neg]
  · exact (q4 f hf).2
  · rintro ⟨rfl, rfl⟩
    exact hf (hw ha)
theorem Fm.sR (h : Fm WI WR WA S S') {g b : Nat} (v : Option Nat) (hw : b ∈ hL S → WR g b) : Fm WI WR WA S (sR S' g b v) := fun a ha => by
  obtain ⟨q1, q2, q3, q4, q5, q6⟩ := h a ha
  refine ⟨q1, q2, q3, q4, fun f hf => ?_, q6⟩
  rw [hR_sR, if_neg]
  · exact q5 f hf
  · rintro ⟨rfl, rfl⟩
    exact hf (hw ha)
theorem Fm.tI (h : Fm WI WR WA S S') {b : Nat} (i : Nat) (v : Int32) (hw : b ∈ hL S → WA b) : Fm WI WR WA S (tI S' b i v) := fun a ha => by
  obtain ⟨q1, q2, q3, q4, q5, q6⟩ := h a ha
  refine ⟨q1, q2, q3, q4, q5, fun hf j => ⟨?_, (q6 hf j).2⟩⟩
  rw [aI_tI, if_neg]
  · exact (q6 hf j).1
  · rintro ⟨rfl, rfl⟩
    exact hf (hw ha)
theorem Fm.tJ (h : Fm WI WR WA S S') {b : Nat} (i : Nat) (v : Int64) (hw : b ∈ hL S → WA b) : Fm WI WR WA S (tJ S' b i v) := fun a ha => by
  obtain ⟨q1, q2, q3, q4, q5, q6⟩ := h a ha
  refine ⟨q1, q2, q3, q4, q5, fun hf j => ⟨(q6 hf j).1, ?_, (q6 hf j).2.2⟩⟩
  rw [aJ_tJ, if_neg]
  · exact (q6 hf j).2.1
  · rintro ⟨rfl, rfl⟩
    exact hf (hw ha)
theorem Fm.tR (h : Fm WI WR WA S S') {b : Nat} (i : Nat) (v : Option Nat) (hw : b ∈ hL S → WA b) : Fm WI WR WA S (tR S' b i v) := fun a ha => by
  obtain ⟨q1, q2, q3, q4, q5, q6⟩ := h a ha
  refine ⟨q1, q2, q3, q4, q5, fun hf j => ⟨(q6 hf j).1, (q6 hf j).2.1, ?_⟩⟩
  rw [aR_tR, if_neg]
  · exact (q6 hf j).2.2
  · rintro ⟨rfl, rfl⟩
    exact hf (hw ha)
theorem Fm.rI (h : Fm WI WR WA S S') {b : Nat} (v : Nat → Int32) (hw : b ∈ hL S → WA b) : Fm WI WR WA S (rI S' b v) := fun a ha => by
  obtain ⟨q1, q2, q3, q4, q5, q6⟩ := h a ha
  refine ⟨q1, q2, q3, q4, q5, fun hf j => ⟨?_, (q6 hf j).2⟩⟩
  rw [aI_rI, if_neg]
  · exact (q6 hf j).1
  · rintro rfl
    exact hf (hw ha)
theorem Fm.nO (h : Fm WI WR WA S S') {b : Nat} (k : Nat) (hb : b ∉ hL S') : Fm WI WR WA S (nO S' b k) := fun a ha => by
  obtain ⟨q1, q2, q3, q4, q5, q6⟩ := h a ha
  have e : a ≠ b := fun e => hb (e ▸ q1)
  refine ⟨List.mem_append_left _ q1, ?_, q3, fun f hf => ⟨?_, ?_⟩, fun f hf => ?_, q6⟩
  · rw [hK_nO, if_neg e]; exact q2
  · rw [hI_nO, if_neg e]; exact (q4 f hf).1
  · rw [hJ_nO, if_neg e]; exact (q4 f hf).2
  · rw [hR_nO, if_neg e]; exact q5 f hf
theorem Fm.nA (h : Fm WI WR WA S S') {b : Nat} (k n : Nat) (hb : b ∉ hL S') : Fm WI WR WA S (nA S' b k n) := fun a ha => by
  obtain ⟨q1, q2, q3, q4, q5, q6⟩ := h a ha
  have e : a ≠ b := fun e => hb (e ▸ q1)
  refine ⟨List.mem_append_left _ q1, ?_, ?_, q4, q5, fun hf j => ⟨?_, ?_, ?_⟩⟩
  · rw [hK_nA, if_neg e]; exact q2
  · rw [hN_nA, if_neg e]; exact q3
  · rw [aI_nA, if_neg e]; exact (q6 hf j).1
  · rw [aJ_nA, if_neg e]; exact (q6 hf j).2.1
  · rw [aR_nA, if_neg e]; exact (q6 hf j).2.2
end FRM
/-- what stands behind a new cell -/
theorem mem_old {l : List Nat} {a q : Nat} (h : a ∈ l) : a ∈ l ++ [q] := List.mem_append_left _ h
theorem mem_new {l : List Nat} {q : Nat} : q ∈ l ++ [q] := List.mem_append_right _ (List.mem_singleton.mpr rfl)
theorem kd_nO {S : Hp} {a q k c : Nat} (hq : q ∉ hL S) (ha : a ∈ hL S) (h : hK S a = c) : hK (nO S q k) a = c := by
  rw [hK_nO, if_neg (fun e : a = q => hq (e ▸ ha))]; exact h
theorem kd_nO' {S : Hp} {q k : Nat} : hK (nO S q k) q = k := by rw [hK_nO, if_pos rfl]
theorem kd_nA {S : Hp} {a q k n c : Nat} (hq : q ∉ hL S) (ha : a ∈ hL S) (h : hK S a = c) : hK (nA S q k n) a = c := by
  rw [hK_nA, if_neg (fun e : a = q => hq (e ▸ ha))]; exact h
theorem kd_nA' {S : Hp} {q k n : Nat} : hK (nA S q k n) q = k := by rw [hK_nA, if_pos rfl]
theorem ln_nA {S : Hp} {a q k n c : Nat} (hq : q ∉ hL S) (ha : a ∈ hL S) (h : hN S a = c) : hN (nA S q k n) a = c := by
  rw [hN_nA, if_neg (fun e : a = q => hq (e ▸ ha))]; exact h
theorem ln_nA' {S : Hp} {q k n : Nat} : hN (nA S q k n) q = n := by rw [hN_nA, if_pos rfl]
theorem rd_sI {S : Hp} {g a : Nat} {v : Int32} : hI (sI S g a v) g a = v := if_pos ⟨rfl, rfl⟩
theorem rd_sIf {S : Hp} {g a x b : Nat} {v c : Int32} (h : x ≠ g) (hc : hI S x b = c) : hI (sI S g a v) x b = c := (if_neg (fun q => h q.1)).trans hc
theorem rd_sIa {S : Hp} {g a x b : Nat} {v c : Int32} (h : b ≠ a) (hc : hI S x b = c) : hI (sI S g a v) x b = c := (if_neg (fun q => h q.2)).trans hc
theorem rd_sJ {S : Hp} {g a : Nat} {v : Int64} : hJ (sJ S g a v) g a = v := if_pos ⟨rfl, rfl⟩
theorem rd_sJf {S : Hp} {g a x b : Nat} {v c : Int64} (h : x ≠ g) (hc : hJ S x b = c) : hJ (sJ S g a v) x b = c := (if_neg (fun q => h q.1)).trans hc
theorem rd_sJa {S : Hp} {g a x b : Nat} {v c : Int64} (h : b ≠ a) (hc : hJ S x b = c) : hJ (sJ S g a v) x b = c := (if_neg (fun q => h q.2)).trans hc
theorem rd_sR {S : Hp} {g a : Nat} {v : Option Nat} : hR (sR S g a v) g a = v := if_pos ⟨rfl, rfl⟩
theorem rd_sRf {S : Hp} {g a x b : Nat} {v c : Option Nat} (h : x ≠ g) (hc : hR S x b = c) : hR (sR S g a v) x b = c := (if_neg (fun q => h q.1)).trans hc
theorem rd_sRa {S : Hp} {g a x b : Nat} {v c : Option Nat} (h : b ≠ a) (hc : hR S x b = c) : hR (sR S g a v) x b = c := (if_neg (fun q => h q.2)).trans hc
theorem rd_nOI {S : Hp} {q k f a : Nat} {c : Int32} (hq : q ∉ hL S) (ha : a ∈ hL S) (h : hI S f a = c) : hI (nO S q k) f a = c := (if_neg (fun e : a = q => hq (e ▸ ha))).trans h
theorem rd_nOJ {S : Hp} {q k f a : Nat} {c : Int64} (hq : q ∉ hL S) (ha : a ∈ hL S) (h : hJ S f a = c) : hJ (nO S q k) f a = c := (if_neg (fun e : a = q => hq (e ▸ ha))).trans h
theorem rd_nOR {S : Hp} {q k f a : Nat} {c : Option Nat} (hq : q ∉ hL S) (ha : a ∈ hL S) (h : hR S f a = c) : hR (nO S q k) f a = c := (if_neg (fun e : a = q => hq (e ▸ ha))).trans h
theorem rd_nOI' {S : Hp} {q k f : Nat} : hI (nO S q k) f q = 0 := if_pos rfl
theorem rd_nOJ' {S : Hp} {q k f : Nat} : hJ (nO S q k) f q = 0 := if_pos rfl
theorem rd_nOR' {S : Hp} {q k f : Nat} : hR (nO S q k) f q = none := if_pos rfl
theorem rd_nAI {S : Hp} {q k n j a : Nat} {c : Int32} (hq : q ∉ hL S) (ha : a ∈ hL S) (h : aI S a j = c) : aI (nA S q k n) a j = c := by
  rw [aI_nA, if_neg (fun e : a = q => hq (e ▸ ha))]; exact h
theorem rd_nAR {S : Hp} {q k n j a : Nat} {c : Option Nat} (hq : q ∉ hL S) (ha : a ∈ hL S) (h : aR S a j = c) : aR (nA S q k n) a j = c := by
  rw [aR_nA, if_neg (fun e : a = q => hq (e ▸ ha))]; exact h
theorem rd_nAI' {S : Hp} {q k n j : Nat} : aI (nA S q k n) q j = 0 := by rw [aI_nA, if_pos rfl]
theorem rd_nAR' {S : Hp} {q k n j : Nat} : aR (nA S q k n) q j = none := by rw [aR_nA, if_pos rfl]
theorem rd_tIa {S : Hp} {a b j i : Nat} {v c : Int32} (h : a ≠ b) (hc : aI S a i = c) : aI (tI S b j v) a i = c := (if_neg (fun q => h q.1)).trans hc
theorem rd_tIj {S : Hp} {a j i : Nat} {v c : Int32} (h : i ≠ j) (hc : aI S a i = c) : aI (tI S a j v) a i = c := (if_neg (fun q => h q.2)).trans hc
theorem rd_rIa {S : Hp} {a b i : Nat} {f : Nat → Int32} {c : Int32} (h : a ≠ b) (hc : aI S a i = c) : aI (rI S b f) a i = c := by
  rw [aI_rI, if_neg h]; exact hc
theorem fill_step {S : Hp} {a i : Nat} {v : Int32} (h : ∀ j, j < i → aI S a j = v) (j : Nat) (hj : j < i + 1) : aI (tI S a i v) a j = v := by
  rw [aI_tI]
  by_cases e : j = i
  · rw [if_pos ⟨rfl, e⟩]
  · rw [if_neg (fun q => e q.2)]
    exact h j (by omega)
theorem inr_of {S : Hp} {a n : Nat} {i : Int32} (h : hN S a = n) (h2 : vp_in i n) : vp_in i (hN S a) := by rw [h]; exact h2
theorem len_of {S : Hp} {a n : Nat} {v : Int32} (h : hN S a = n) (h2 : Int32.ofNat n = v) : Int32.ofNat (hN S a) = v := by rw [h]; exact h2
theorem vp_lit {i : Int32} {n : Nat} (h : ¬ (i < 0 ∨ n ≤ i.toNatClampNeg)) : vp_in i n := h
theorem vp_ge {i : Int32} {n : Nat} {m : Int32} (h0 : ¬ i < 0) (h1 : ¬ m ≤ i) (hm : m = nI n := by rfl) (hn : n < 2 ^ 31 := by decide) : vp_in i n := by
  rcases pk_ix i hn with h | h | ⟨j, hj, e⟩
  · exact absurd h h0
  · exact absurd (by rw [hm]; exact h) h1
  · rw [e]
    exact vp_in_nI hj hn
theorem ne_toInt {x c : Int32} {k : Int} (h : ¬ x = c) (hk : c.toInt = k) : x.toInt ≠ k := fun e => h (Int32.toInt_inj.mp (e.trans hk.symm))
theorem j_look {x : JX} {own : String} {cc : ByteArray} {k n pc tgt : Nat} {S : Hp} {lv : List (Nat × Value)} {st : List Value} (C : CB x own cc) {a : Int32} {df off : Int} {ps : Array (Int × Int)} {len : Nat} (d : decode cc pc = .ok (.lookupswitch df ps, len)) (hp : (ps.toList.zip (ps.toList.drop 1)).all (fun (a, next) => a.1 < next.1) = true) (ho : Op.lookupswitch.offset ps.toList df a.toInt = off) (ht : (pc : Int) + off = (tgt : Int)) (K : J x k n S lv tgt st) : J x k n S lv pc (.int a :: st) := fun H locs ls hP hD hS hl => lv_lookup C.1 C.2.1 d hp ho ht (K H locs ls hP hD hS hl)
theorem i_ge {x : Int32} (h : ¬ x < 0) : 0 ≤ x := by
  rw [Int32.le_iff_toInt_le]
  rw [Int32.lt_iff_toInt_lt] at h
  exact Int.not_lt.mp h
theorem CM.cells {x : JX} {d K0 N0 k : Nat} {ret : Option FieldType} {S0 : Hp} {Q : Option Value → Hp → Prop} (M : CM x d K0 N0 ret S0 Q) (h : k ≤ K0) : k ≤ (x_R x).cells := by rw [M.1]; exact h
theorem CM.slots {x : JX} {d K0 N0 k : Nat} {ret : Option FieldType} {S0 : Hp} {Q : Option Value → Hp → Prop} (M : CM x d K0 N0 ret S0 Q) (h : k ≤ N0) : k ≤ (x_R x).slots := by rw [M.1]; exact h
theorem CM.fl {x : JX} {d K0 N0 : Nat} {ret : Option FieldType} {S0 : Hp} {Q : Option Value → Hp → Prop} (M : CM x d K0 N0 ret S0 Q) (h : 1 ≤ d) : 1 ≤ (x_R x).frames ∧ 20 ≤ (x_R x).locals := by
  rw [M.1]
  exact ⟨h, show 20 ≤ 40 * d by omega⟩
def notOi : Cond → Bool
  | .methodLinkNest _ _ y _ => !(decide (y.cls = "java/lang/Object"))
  | _ => true
set_option maxRecDepth 100000 in
theorem nst_oi_tab : NST.all notOi = true := by decide +kernel
theorem nst_oi {own : String} {idx : Nat} : ∀ host, Cond.methodLinkNest own idx Lib.objectInit host ∉ NST := fun host h => by
  have := List.all_eq_true.mp nst_oi_tab _ h
  exact Bool.noConfusion (show false = true from this)
theorem gx_Environment {x : JX} {own : String} {cc : ByteArray} (C : CB x own cc) : va_AO "PrinterHouse$Environment" (x_s x) := C.2.2.2.2.2.2.2.2.2.2.2.2.2.1
theorem gx_Reading {x : JX} {own : String} {cc : ByteArray} (C : CB x own cc) : va_AO "PrinterHouse$Reading" (x_s x) := C.2.2.2.2.2.2.2.2.2.2.2.2.2.2.1
theorem gx_Tile {x : JX} {own : String} {cc : ByteArray} (C : CB x own cc) : va_AO "PrinterHouse$Tile" (x_s x) := C.2.2.2.2.2.2.2.2.2.2.2.2.2.2.2.1
theorem gx_rows {x : JX} {own : String} {cc : ByteArray} (C : CB x own cc) : va_AOA .int (x_s x) := C.2.2.2.2.2.2.2.2.2.2.2.2.2.2.2.2.1
theorem ne_of_nin {l : List Nat} {a q : Nat} (hq : q ∉ l) (ha : a ∈ l) : a ≠ q := fun e => hq (e ▸ ha)
