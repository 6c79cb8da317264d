/-! The pool as one tuple: addresses, kinds, int / long / reference fields by field code (100 * class + slot) and address, lengths, rows of arrays. -/
abbrev Hp : Type := (List Nat) × (Nat → Nat) × (Nat → Nat → Int32) × (Nat → Nat → Int64) × (Nat → Nat → Option Nat) × (Nat → Nat) × (Nat → Nat → Int32) × (Nat → Nat → Int64) × (Nat → Nat → Option Nat)
def hL (S : Hp) : List Nat := S.1
def hK (S : Hp) : Nat → Nat := S.2.1
def hI (S : Hp) : Nat → Nat → Int32 := S.2.2.1
def hJ (S : Hp) : Nat → Nat → Int64 := S.2.2.2.1
def hR (S : Hp) : Nat → Nat → Option Nat := S.2.2.2.2.1
def hN (S : Hp) : Nat → Nat := S.2.2.2.2.2.1
def aI (S : Hp) : Nat → Nat → Int32 := S.2.2.2.2.2.2.1
def aJ (S : Hp) : Nat → Nat → Int64 := S.2.2.2.2.2.2.2.1
def aR (S : Hp) : Nat → Nat → Option Nat := S.2.2.2.2.2.2.2.2
def up2 {α : Type} (f : Nat → Nat → α) (g a : Nat) (v : α) : Nat → Nat → α := fun x b => if x = g ∧ b = a then v else f x b
theorem up2_self {α : Type} (f : Nat → Nat → α) (g a : Nat) (v : α) : up2 f g a v g a = v := if_pos ⟨rfl, rfl⟩
theorem up2_ne1 {α : Type} (f : Nat → Nat → α) {g x : Nat} (a b : Nat) (v : α) (h : x ≠ g) : up2 f g a v x b = f x b := if_neg fun q => h q.1
theorem up2_ne2 {α : Type} (f : Nat → Nat → α) {a b : Nat} (g x : Nat) (v : α) (h : b ≠ a) : up2 f g a v x b = f x b := if_neg fun q => h q.2
def sI (S : Hp) (g a : Nat) (v : Int32) : Hp := (hL S, hK S, up2 (hI S) g a v, hJ S, hR S, hN S, aI S, aJ S, aR S)
def sJ (S : Hp) (g a : Nat) (v : Int64) : Hp := (hL S, hK S, hI S, up2 (hJ S) g a v, hR S, hN S, aI S, aJ S, aR S)
def sR (S : Hp) (g a : Nat) (v : Option Nat) : Hp := (hL S, hK S, hI S, hJ S, up2 (hR S) g a v, hN S, aI S, aJ S, aR S)
def tI (S : Hp) (a j : Nat) (v : Int32) : Hp := (hL S, hK S, hI S, hJ S, hR S, hN S, up2 (aI S) a j v, aJ S, aR S)
def tJ (S : Hp) (a j : Nat) (v : Int64) : Hp := (hL S, hK S, hI S, hJ S, hR S, hN S, aI S, up2 (aJ S) a j v, aR S)
def tR (S : Hp) (a j : Nat) (v : Option Nat) : Hp := (hL S, hK S, hI S, hJ S, hR S, hN S, aI S, aJ S, up2 (aR S) a j v)
def rI (S : Hp) (a : Nat) (f : Nat → Int32) : Hp := (hL S, hK S, hI S, hJ S, hR S, hN S, va_up (aI S) a f, aJ S, aR S)
def up1 {α : Type} (f : Nat → Nat → α) (a : Nat) (v : α) : Nat → Nat → α := fun x b => if b = a then v else f x b
def nO (S : Hp) (a k : Nat) : Hp := (hL S ++ [a], va_up (hK S) a k, up1 (hI S) a 0, up1 (hJ S) a 0, up1 (hR S) a none, hN S, aI S, aJ S, aR S)
def nA (S : Hp) (a k n : Nat) : Hp := (hL S ++ [a], va_up (hK S) a k, hI S, hJ S, hR S, va_up (hN S) a n, va_up (aI S) a (fun _ => 0), va_up (aJ S) a (fun _ => 0), va_up (aR S) a (fun _ => none))
theorem hL_sI (S : Hp) (g a : Nat) (v : Int32) : hL (sI S g a v) = hL S := rfl
theorem hK_sI (S : Hp) (g a : Nat) (v : Int32) : hK (sI S g a v) = hK S := rfl
theorem hJ_sI (S : Hp) (g a : Nat) (v : Int32) : hJ (sI S g a v) = hJ S := rfl
theorem hR_sI (S : Hp) (g a : Nat) (v : Int32) : hR (sI S g a v) = hR S := rfl
theorem hN_sI (S : Hp) (g a : Nat) (v : Int32) : hN (sI S g a v) = hN S := rfl
theorem aI_sI (S : Hp) (g a : Nat) (v : Int32) : aI (sI S g a v) = aI S := rfl
theorem aJ_sI (S : Hp) (g a : Nat) (v : Int32) : aJ (sI S g a v) = aJ S := rfl
theorem aR_sI (S : Hp) (g a : Nat) (v : Int32) : aR (sI S g a v) = aR S := rfl
theorem hL_sJ (S : Hp) (g a : Nat) (v : Int64) : hL (sJ S g a v) = hL S := rfl
theorem hK_sJ (S : Hp) (g a : Nat) (v : Int64) : hK (sJ S g a v) = hK S := rfl
theorem hI_sJ (S : Hp) (g a : Nat) (v : Int64) : hI (sJ S g a v) = hI S := rfl
theorem hR_sJ (S : Hp) (g a : Nat) (v : Int64) : hR (sJ S g a v) = hR S := rfl
theorem hN_sJ (S : Hp) (g a : Nat) (v : Int64) : hN (sJ S g a v) = hN S := rfl
theorem aI_sJ (S : Hp) (g a : Nat) (v : Int64) : aI (sJ S g a v) = aI S := rfl
theorem aJ_sJ (S : Hp) (g a : Nat) (v : Int64) : aJ (sJ S g a v) = aJ S := rfl
theorem aR_sJ (S : Hp) (g a : Nat) (v : Int64) : aR (sJ S g a v) = aR S := rfl
theorem hL_sR (S : Hp) (g a : Nat) (v : Option Nat) : hL (sR S g a v) = hL S := rfl
theorem hK_sR (S : Hp) (g a : Nat) (v : Option Nat) : hK (sR S g a v) = hK S := rfl
theorem hI_sR (S : Hp) (g a : Nat) (v : Option Nat) : hI (sR S g a v) = hI S := rfl
theorem hJ_sR (S : Hp) (g a : Nat) (v : Option Nat) : hJ (sR S g a v) = hJ S := rfl
theorem hN_sR (S : Hp) (g a : Nat) (v : Option Nat) : hN (sR S g a v) = hN S := rfl
theorem aI_sR (S : Hp) (g a : Nat) (v : Option Nat) : aI (sR S g a v) = aI S := rfl
theorem aJ_sR (S : Hp) (g a : Nat) (v : Option Nat) : aJ (sR S g a v) = aJ S := rfl
theorem aR_sR (S : Hp) (g a : Nat) (v : Option Nat) : aR (sR S g a v) = aR S := rfl
theorem hL_tI (S : Hp) (a j : Nat) (v : Int32) : hL (tI S a j v) = hL S := rfl
theorem hK_tI (S : Hp) (a j : Nat) (v : Int32) : hK (tI S a j v) = hK S := rfl
theorem hI_tI (S : Hp) (a j : Nat) (v : Int32) : hI (tI S a j v) = hI S := rfl
theorem hJ_tI (S : Hp) (a j : Nat) (v : Int32) : hJ (tI S a j v) = hJ S := rfl
theorem hR_tI (S : Hp) (a j : Nat) (v : Int32) : hR (tI S a j v) = hR S := rfl
theorem hN_tI (S : Hp) (a j : Nat) (v : Int32) : hN (tI S a j v) = hN S := rfl
theorem aJ_tI (S : Hp) (a j : Nat) (v : Int32) : aJ (tI S a j v) = aJ S := rfl
theorem aR_tI (S : Hp) (a j : Nat) (v : Int32) : aR (tI S a j v) = aR S := rfl
theorem hL_tJ (S : Hp) (a j : Nat) (v : Int64) : hL (tJ S a j v) = hL S := rfl
theorem hK_tJ (S : Hp) (a j : Nat) (v : Int64) : hK (tJ S a j v) = hK S := rfl
theorem hI_tJ (S : Hp) (a j : Nat) (v : Int64) : hI (tJ S a j v) = hI S := rfl
theorem hJ_tJ (S : Hp) (a j : Nat) (v : Int64) : hJ (tJ S a j v) = hJ S := rfl
theorem hR_tJ (S : Hp) (a j : Nat) (v : Int64) : hR (tJ S a j v) = hR S := rfl
theorem hN_tJ (S : Hp) (a j : Nat) (v : Int64) : hN (tJ S a j v) = hN S := rfl
theorem aI_tJ (S : Hp) (a j : Nat) (v : Int64) : aI (tJ S a j v) = aI S := rfl
theorem aR_tJ (S : Hp) (a j : Nat) (v : Int64) : aR (tJ S a j v) = aR S := rfl
theorem hL_tR (S : Hp) (a j : Nat) (v : Option Nat) : hL (tR S a j v) = hL S := rfl
theorem hK_tR (S : Hp) (a j : Nat) (v : Option Nat) : hK (tR S a j v) = hK S := rfl
theorem hI_tR (S : Hp) (a j : Nat) (v : Option Nat) : hI (tR S a j v) = hI S := rfl
theorem hJ_tR (S : Hp) (a j : Nat) (v : Option Nat) : hJ (tR S a j v) = hJ S := rfl
theorem hR_tR (S : Hp) (a j : Nat) (v : Option Nat) : hR (tR S a j v) = hR S := rfl
theorem hN_tR (S : Hp) (a j : Nat) (v : Option Nat) : hN (tR S a j v) = hN S := rfl
theorem aI_tR (S : Hp) (a j : Nat) (v : Option Nat) : aI (tR S a j v) = aI S := rfl
theorem aJ_tR (S : Hp) (a j : Nat) (v : Option Nat) : aJ (tR S a j v) = aJ S := rfl
theorem hL_rI (S : Hp) (a : Nat) (f : Nat → Int32) : hL (rI S a f) = hL S := rfl
theorem hK_rI (S : Hp) (a : Nat) (f : Nat → Int32) : hK (rI S a f) = hK S := rfl
theorem hI_rI (S : Hp) (a : Nat) (f : Nat → Int32) : hI (rI S a f) = hI S := rfl
theorem hJ_rI (S : Hp) (a : Nat) (f : Nat → Int32) : hJ (rI S a f) = hJ S := rfl
theorem hR_rI (S : Hp) (a : Nat) (f : Nat → Int32) : hR (rI S a f) = hR S := rfl
theorem hN_rI (S : Hp) (a : Nat) (f : Nat → Int32) : hN (rI S a f) = hN S := rfl
theorem aJ_rI (S : Hp) (a : Nat) (f : Nat → Int32) : aJ (rI S a f) = aJ S := rfl
theorem aR_rI (S : Hp) (a : Nat) (f : Nat → Int32) : aR (rI S a f) = aR S := rfl
theorem hN_nO (S : Hp) (a k : Nat) : hN (nO S a k) = hN S := rfl
theorem aI_nO (S : Hp) (a k : Nat) : aI (nO S a k) = aI S := rfl
theorem aJ_nO (S : Hp) (a k : Nat) : aJ (nO S a k) = aJ S := rfl
theorem aR_nO (S : Hp) (a k : Nat) : aR (nO S a k) = aR S := rfl
theorem hI_nA (S : Hp) (a k n : Nat) : hI (nA S a k n) = hI S := rfl
theorem hJ_nA (S : Hp) (a k n : Nat) : hJ (nA S a k n) = hJ S := rfl
theorem hR_nA (S : Hp) (a k n : Nat) : hR (nA S a k n) = hR S := rfl
theorem hI_sI (S : Hp) (g a : Nat) (v : Int32) (x b : Nat) : hI (sI S g a v) x b = if x = g ∧ b = a then v else hI S x b := rfl
theorem hJ_sJ (S : Hp) (g a : Nat) (v : Int64) (x b : Nat) : hJ (sJ S g a v) x b = if x = g ∧ b = a then v else hJ S x b := rfl
theorem hR_sR (S : Hp) (g a : Nat) (v : Option Nat) (x b : Nat) : hR (sR S g a v) x b = if x = g ∧ b = a then v else hR S x b := rfl
theorem aI_tI (S : Hp) (a j : Nat) (v : Int32) (x b : Nat) : aI (tI S a j v) x b = if x = a ∧ b = j then v else aI S x b := rfl
theorem aJ_tJ (S : Hp) (a j : Nat) (v : Int64) (x b : Nat) : aJ (tJ S a j v) x b = if x = a ∧ b = j then v else aJ S x b := rfl
theorem aR_tR (S : Hp) (a j : Nat) (v : Option Nat) (x b : Nat) : aR (tR S a j v) x b = if x = a ∧ b = j then v else aR S x b := rfl
theorem aI_rI (S : Hp) (a : Nat) (f : Nat → Int32) (x b : Nat) : aI (rI S a f) x b = if x = a then f b else aI S x b := by show va_up (aI S) a f x b = _; unfold va_up; split <;> rfl
theorem hL_nO (S : Hp) (a k : Nat) : hL (nO S a k) = hL S ++ [a] := rfl
theorem hL_nA (S : Hp) (a k n : Nat) : hL (nA S a k n) = hL S ++ [a] := rfl
theorem hK_nO (S : Hp) (a k b : Nat) : hK (nO S a k) b = if b = a then k else hK S b := rfl
theorem hK_nA (S : Hp) (a k n b : Nat) : hK (nA S a k n) b = if b = a then k else hK S b := rfl
theorem hI_nO (S : Hp) (a k x b : Nat) : hI (nO S a k) x b = if b = a then 0 else hI S x b := rfl
theorem hJ_nO (S : Hp) (a k x b : Nat) : hJ (nO S a k) x b = if b = a then 0 else hJ S x b := rfl
theorem hR_nO (S : Hp) (a k x b : Nat) : hR (nO S a k) x b = if b = a then none else hR S x b := rfl
theorem hN_nA (S : Hp) (a k n b : Nat) : hN (nA S a k n) b = if b = a then n else hN S b := rfl
theorem aI_nA (S : Hp) (a k n x b : Nat) : aI (nA S a k n) x b = if x = a then 0 else aI S x b := by show va_up (aI S) a (fun _ => 0) x b = _; unfold va_up; split <;> rfl
theorem aJ_nA (S : Hp) (a k n x b : Nat) : aJ (nA S a k n) x b = if x = a then 0 else aJ S x b := by show va_up (aJ S) a (fun _ => 0) x b = _; unfold va_up; split <;> rfl
theorem aR_nA (S : Hp) (a k n x b : Nat) : aR (nA S a k n) x b = if x = a then none else aR S x b := by show va_up (aR S) a (fun _ => none) x b = _; unfold va_up; split <;> rfl
/-- the sorts of the fields, class by class: 0 whole numbers, 1 longs, 2 references, 3 booleans -/
def ftb : List (List Nat) := [[2, 2, 0, 0, 0, 3, 0, 0, 0, 0, 2, 0, 0, 0, 0], [2, 2, 2, 2, 2, 3, 0, 3, 0, 3, 3, 3, 0, 0, 0, 0, 0, 0, 0, 0, 0], [2, 2, 2, 2, 2, 2, 0, 2, 0, 3], [2, 2, 0, 0, 0, 0, 3, 2, 0, 1, 1, 1, 1, 1, 1, 1, 1, 2, 0, 0, 2], [0, 0, 0, 0, 3, 0, 0, 2], [2, 0, 0, 0, 0, 0, 3, 3, 3, 0, 0, 0, 0], [2, 0, 0, 3, 2, 2, 2, 0, 0, 0], [0, 0, 0, 0, 0, 0, 0, 0, 0, 0, 0, 0, 2], [2], [2, 2, 2, 2, 2, 2, 2, 2, 2, 2, 2, 2, 2, 2, 0, 3, 0, 2, 3], [0, 0, 3, 2], [2, 0, 2, 2, 2, 0, 2, 2, 2, 0, 0, 0], [2, 2, 2, 2, 2, 2, 2, 2, 2, 0, 2, 2, 2, 2, 2, 2, 2, 2, 2, 2, 2, 2, 0, 2, 0, 2, 2, 0, 0, 0, 3, 3, 0, 3, 2, 0, 0, 2, 2, 2, 0, 2, 0, 0, 0, 0, 2, 3, 2, 1, 2, 0, 3, 1, 3, 0, 2, 2, 2, 2, 0, 0, 3, 0, 0, 0, 0, 0, 0, 3, 2, 0, 2, 2, 2, 2, 0, 1, 1, 3]]
def fc (ci k : Nat) : Nat := ((ftb[ci]?).getD []).getD k 9
def fn (ci : Nat) : Nat := ((ftb[ci]?).getD []).length
def fv (S : Hp) (a ci k : Nat) : Value := if fc ci k = 1 then .long (hJ S (100 * ci + k) a) else if fc ci k = 2 then va_rf (hR S (100 * ci + k) a) else .int (hI S (100 * ci + k) a)
def fvl (S : Hp) (a ci : Nat) : List Value := (List.range (fn ci)).map (fv S a ci)
theorem fvl_len (S : Hp) (a ci : Nat) : (fvl S a ci).length = fn ci := by simp [fvl]
theorem fvl_get (S : Hp) (a ci : Nat) {k : Nat} (h : k < fn ci) : (fvl S a ci)[k]? = some (fv S a ci k) := by simp [fvl, h]
def pf (cy : Nat → ClassId) (S : Hp) : Nat → va_E := fun a => if hK S a < 13 then .inr (hK S a, fvl S a (hK S a)) else if hK S a = 15 then .inl (cy 15, hN S a, .inr (.inl (aJ S a))) else if hK S a < 18 then .inl (cy (hK S a), hN S a, .inl (aI S a)) else .inl (cy (hK S a), hN S a, .inr (.inr (.inr (.inr (aR S a)))))
theorem pf_obj {cy : Nat → ClassId} {S : Hp} {a ci : Nat} (h : hK S a = ci) (hc : ci < 13) : pf cy S a = .inr (ci, fvl S a ci) := by simp [pf, h, hc]
theorem pf_J {cy : Nat → ClassId} {S : Hp} {a : Nat} (h : hK S a = 15) : pf cy S a = .inl (cy 15, hN S a, .inr (.inl (aJ S a))) := by simp [pf, h]
theorem pf_I {cy : Nat → ClassId} {S : Hp} {a k : Nat} (h : hK S a = k) (h1 : ¬ k < 13) (h2 : ¬ k = 15) (h3 : k < 18) : pf cy S a = .inl (cy k, hN S a, .inl (aI S a)) := by simp [pf, h, h1, h2, h3]
theorem pf_R {cy : Nat → ClassId} {S : Hp} {a k : Nat} (h : hK S a = k) (h3 : ¬ k < 18) : pf cy S a = .inl (cy k, hN S a, .inr (.inr (.inr (.inr (aR S a))))) := by
  have h1 : ¬ k < 13 := by omega
  have h2 : ¬ k = 15 := by omega
  simp [pf, h, h1, h2, h3]
abbrev pl (cy : Nat → ClassId) (S : Hp) : va_W := va_pl (hL S) (pf cy S)
theorem pl_get {cy : Nat → ClassId} {S : Hp} {a : Nat} (h : a ∈ hL S) : ∃ k : Nat, (pl cy S)[k]? = some (a, pf cy S a) := va_pl_get (X := []) h
theorem list_upd {α : Type} (n k : Nat) (f g : Nat → α) (v : α) (hk : k < n) (h1 : g k = v) (h2 : ∀ j, j < n → j ≠ k → g j = f j) : ((List.range n).map f).set k v = (List.range n).map g := by
  refine List.ext_getElem? fun j => ?_
  rw [List.getElem?_set]
  by_cases e : k = j
  · subst e
    simp [hk, h1]
  · rw [if_neg e]
    by_cases hj : j < n
    · simp [hj, h2 j hj (fun q => e q.symm)]
    · simp [hj]
/-- what is told of an address is all that its row says -/
theorem pf_off {cy : Nat → ClassId} {S S' : Hp} {b : Nat} (h1 : hK S' b = hK S b) (h2 : hN S' b = hN S b) (h3 : ∀ f, hI S' f b = hI S f b) (h4 : ∀ f, hJ S' f b = hJ S f b) (h5 : ∀ f, hR S' f b = hR S f b) (h6 : aI S' b = aI S b) (h7 : aJ S' b = aJ S b) (h8 : aR S' b = aR S b) : pf cy S b = pf cy S' b := by
  have hf : ∀ ci k, fv S' b ci k = fv S b ci k := fun ci k => by simp only [fv, h3, h4, h5]
  have hl : ∀ ci, fvl S' b ci = fvl S b ci := fun ci => List.map_congr_left fun k _ => hf ci k
  simp only [pf, h1, h2, h6, h7, h8, hl]
theorem pf_setI {cy : Nat → ClassId} {S : Hp} {a ci k : Nat} (h : hK S a = ci) (hc : ci < 13) (hk : k < fn ci) (ht1 : fc ci k ≠ 1) (ht2 : fc ci k ≠ 2) (v : Int32) (b : Nat) : va_up (pf cy S) a (.inr (ci, (fvl S a ci).set k (.int v))) b = pf cy (sI S (100 * ci + k) a v) b := by
  by_cases e : b = a
  · subst e
    rw [va_up_self, pf_obj (by exact h) hc]
    refine congrArg (fun l => (Sum.inr (ci, l) : va_E)) (list_upd _ _ _ _ _ hk ?_ fun j _ hj => ?_)
    · simp [fv, ht1, ht2, hI_sI]
    · have : ¬ (100 * ci + j = 100 * ci + k) := by omega
      simp [fv, hI_sI, hJ_sI, hR_sI, this, hj]
  · rw [va_up_ne _ _ e]
    exact pf_off rfl rfl (fun f => by simp [hI_sI, e]) (fun f => rfl) (fun f => rfl) rfl rfl rfl
theorem pf_setJ {cy : Nat → ClassId} {S : Hp} {a ci k : Nat} (h : hK S a = ci) (hc : ci < 13) (hk : k < fn ci) (ht1 : fc ci k = 1) (v : Int64) (b : Nat) : va_up (pf cy S) a (.inr (ci, (fvl S a ci).set k (.long v))) b = pf cy (sJ S (100 * ci + k) a v) b := by
  by_cases e : b = a
  · subst e
    rw [va_up_self, pf_obj (by exact h) hc]
    refine congrArg (fun l => (Sum.inr (ci, l) : va_E)) (list_upd _ _ _ _ _ hk ?_ fun j _ hj => ?_)
    · simp [fv, ht1, hJ_sJ]
    · have : ¬ (100 * ci + j = 100 * ci + k) := by omega
      simp [fv, hI_sJ, hJ_sJ, hR_sJ, this, hj]
  · rw [va_up_ne _ _ e]
    exact pf_off rfl rfl (fun f => rfl) (fun f => by simp [hJ_sJ, e]) (fun f => rfl) rfl rfl rfl
theorem pf_setR {cy : Nat → ClassId} {S : Hp} {a ci k : Nat} (h : hK S a = ci) (hc : ci < 13) (hk : k < fn ci) (ht1 : fc ci k = 2) (v : Option Nat) (b : Nat) : va_up (pf cy S) a (.inr (ci, (fvl S a ci).set k (va_rf v))) b = pf cy (sR S (100 * ci + k) a v) b := by
  by_cases e : b = a
  · subst e
    rw [va_up_self, pf_obj (by exact h) hc]
    refine congrArg (fun l => (Sum.inr (ci, l) : va_E)) (list_upd _ _ _ _ _ hk ?_ fun j _ hj => ?_)
    · simp [fv, ht1, hR_sR]
    · have : ¬ (100 * ci + j = 100 * ci + k) := by omega
      simp [fv, hI_sR, hJ_sR, hR_sR, this, hj]
  · rw [va_up_ne _ _ e]
    exact pf_off rfl rfl (fun f => rfl) (fun f => rfl) (fun f => by simp [hR_sR, e]) rfl rfl rfl
theorem pf_tI {cy : Nat → ClassId} {S : Hp} {a k : Nat} (h : hK S a = k) (h1 : ¬ k < 13) (h2 : ¬ k = 15) (h3 : k < 18) (j : Nat) (v : Int32) (b : Nat) : va_up (pf cy S) a (.inl (cy k, hN S a, .inl (upd (aI S a) j v))) b = pf cy (tI S a j v) b := by
  by_cases e : b = a
  · subst e
    rw [va_up_self, pf_I (by exact h) h1 h2 h3]
    refine congrArg (fun f => (Sum.inl (cy k, hN S b, Sum.inl f) : va_E)) (funext fun i => ?_)
    simp [aI_tI, upd]
  · rw [va_up_ne _ _ e]
    have : aI (tI S a j v) b = aI S b := funext fun i => by simp [aI_tI, e]
    exact pf_off rfl rfl (fun _ => rfl) (fun _ => rfl) (fun _ => rfl) this rfl rfl
theorem pf_rI {cy : Nat → ClassId} {S : Hp} {a k : Nat} (h : hK S a = k) (h1 : ¬ k < 13) (h2 : ¬ k = 15) (h3 : k < 18) (f : Nat → Int32) (b : Nat) : va_up (pf cy S) a (.inl (cy k, hN S a, .inl f)) b = pf cy (rI S a f) b := by
  by_cases e : b = a
  · subst e
    rw [va_up_self, pf_I (by exact h) h1 h2 h3]
    refine congrArg (fun f => (Sum.inl (cy k, hN S b, Sum.inl f) : va_E)) (funext fun i => ?_)
    simp [aI_rI]
  · rw [va_up_ne _ _ e]
    have : aI (rI S a f) b = aI S b := funext fun i => by simp [aI_rI, e]
    exact pf_off rfl rfl (fun _ => rfl) (fun _ => rfl) (fun _ => rfl) this rfl rfl
theorem pf_tJ {cy : Nat → ClassId} {S : Hp} {a : Nat} (h : hK S a = 15) (j : Nat) (v : Int64) (b : Nat) : va_up (pf cy S) a (.inl (cy 15, hN S a, .inr (.inl (vp_updL (aJ S a) j v)))) b = pf cy (tJ S a j v) b := by
  by_cases e : b = a
  · subst e
    rw [va_up_self, pf_J (by exact h)]
    refine congrArg (fun f => (Sum.inl (cy 15, hN S b, Sum.inr (Sum.inl f)) : va_E)) (funext fun i => ?_)
    simp [aJ_tJ, vp_updL]
  · rw [va_up_ne _ _ e]
    have : aJ (tJ S a j v) b = aJ S b := funext fun i => by simp [aJ_tJ, e]
    exact pf_off rfl rfl (fun _ => rfl) (fun _ => rfl) (fun _ => rfl) rfl this rfl
theorem pf_tR {cy : Nat → ClassId} {S : Hp} {a k : Nat} (h : hK S a = k) (h3 : ¬ k < 18) (j : Nat) (v : Option Nat) (b : Nat) : va_up (pf cy S) a (.inl (cy k, hN S a, .inr (.inr (.inr (.inr (va_up (aR S a) j v)))))) b = pf cy (tR S a j v) b := by
  by_cases e : b = a
  · subst e
    rw [va_up_self, pf_R (by exact h) h3]
    refine congrArg (fun f => (Sum.inl (cy k, hN S b, Sum.inr (Sum.inr (Sum.inr (Sum.inr f)))) : va_E)) (funext fun i => ?_)
    simp [aR_tR, va_up]
  · rw [va_up_ne _ _ e]
    have : aR (tR S a j v) b = aR S b := funext fun i => by simp [aR_tR, e]
    exact pf_off rfl rfl (fun _ => rfl) (fun _ => rfl) (fun _ => rfl) rfl rfl this
def dv (ci : Nat) : List Value := (List.range (fn ci)).map fun k => if fc ci k = 1 then .long 0 else if fc ci k = 2 then .null else .int 0
theorem pf_nO {cy : Nat → ClassId} {S : Hp} {a ci : Nat} (hc : ci < 13) (b : Nat) : va_up (pf cy S) a (.inr (ci, dv ci)) b = pf cy (nO S a ci) b := by
  by_cases e : b = a
  · subst e
    rw [va_up_self, pf_obj (ci := ci) (by simp [hK_nO]) hc]
    refine congrArg (fun l => (Sum.inr (ci, l) : va_E)) (List.map_congr_left fun k _ => ?_)
    simp only [fv, hI_nO, hJ_nO, hR_nO, if_true]
    by_cases q1 : fc ci k = 1 <;> by_cases q2 : fc ci k = 2 <;> simp [q1, q2, va_rf]
  · rw [va_up_ne _ _ e]
    exact pf_off (by simp [hK_nO, e]) rfl (fun f => by simp [hI_nO, e]) (fun f => by simp [hJ_nO, e]) (fun f => by simp [hR_nO, e]) rfl rfl rfl
theorem pf_nA_off {cy : Nat → ClassId} {S : Hp} {a k n b : Nat} (e : b ≠ a) : pf cy S b = pf cy (nA S a k n) b := by
  have h1 : aI (nA S a k n) b = aI S b := funext fun i => by simp [aI_nA, e]
  have h2 : aJ (nA S a k n) b = aJ S b := funext fun i => by simp [aJ_nA, e]
  have h3 : aR (nA S a k n) b = aR S b := funext fun i => by simp [aR_nA, e]
  exact pf_off (by simp [hK_nA, e]) (by simp [hN_nA, e]) (fun _ => rfl) (fun _ => rfl) (fun _ => rfl) h1 h2 h3
theorem pf_nAI {cy : Nat → ClassId} {S : Hp} {a k n : Nat} (h1 : ¬ k < 13) (h2 : ¬ k = 15) (h3 : k < 18) (b : Nat) : va_up (pf cy S) a (.inl (cy k, n, .inl (fun _ => 0))) b = pf cy (nA S a k n) b := by
  by_cases e : b = a
  · subst e
    rw [va_up_self, pf_I (k := k) (by simp [hK_nA]) h1 h2 h3]
    have : aI (nA S b k n) b = fun _ => 0 := funext fun i => by simp [aI_nA]
    simp [hN_nA, this]
  · rw [va_up_ne _ _ e, pf_nA_off e]
theorem pf_nAJ {cy : Nat → ClassId} {S : Hp} {a n : Nat} (b : Nat) : va_up (pf cy S) a (.inl (cy 15, n, .inr (.inl (fun _ => 0)))) b = pf cy (nA S a 15 n) b := by
  by_cases e : b = a
  · subst e
    rw [va_up_self, pf_J (by simp [hK_nA])]
    have : aJ (nA S b 15 n) b = fun _ => 0 := funext fun i => by simp [aJ_nA]
    simp [hN_nA, this]
  · rw [va_up_ne _ _ e, pf_nA_off e]
theorem pf_nAR {cy : Nat → ClassId} {S : Hp} {a k n : Nat} (h3 : ¬ k < 18) (b : Nat) : va_up (pf cy S) a (.inl (cy k, n, .inr (.inr (.inr (.inr (fun _ => none)))))) b = pf cy (nA S a k n) b := by
  by_cases e : b = a
  · subst e
    rw [va_up_self, pf_R (k := k) (by simp [hK_nA]) h3]
    have : aR (nA S b k n) b = fun _ => none := funext fun i => by simp [aR_nA]
    simp [hN_nA, this]
  · rw [va_up_ne _ _ e, pf_nA_off e]
/-- a cell of the pool is written -/
theorem pl_set {cy : Nat → ClassId} {S S' : Hp} {A : Nat → Prop} {a k : Nat} {e : va_E} (hD : va_D A (pl cy S)) (h : a ∈ hL S) (hk : (pl cy S)[k]? = some (a, pf cy S a)) (hL : hL S' = hL S) (hf : ∀ b, va_up (pf cy S) a e b = pf cy S' b) : (pl cy S).set k (a, e) = pl cy S' := by
  have h1 := va_pl_set (X := []) (e := e) hD h hk
  simp only [List.nil_append] at h1
  rw [h1, pl, hL]
  exact va_pl_congr hf
/-- a cell comes to the pool -/
theorem pl_push {cy : Nat → ClassId} {S S' : Hp} {a : Nat} {e : va_E} (h : a ∉ hL S) (hL : hL S' = hL S ++ [a]) (hf : ∀ b, va_up (pf cy S) a e b = pf cy S' b) : pl cy S ++ [(a, e)] = pl cy S' := by
  rw [pl, va_pl_push h, pl, hL]
  exact va_pl_congr hf
