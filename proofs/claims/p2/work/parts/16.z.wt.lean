theorem own_ne {S : Hp} {q h : Nat} (hq : q ∉ hL S) (hh : h ∈ hL S) : q ≠ h := fun e => hq (e ▸ hh)
/-- a world by its tables -/
def Wt (kL : List Nat) (nL : List (Nat × Nat)) (pL qL : List (Nat × Nat × Nat)) (ad : Nat → Nat) (S : Hp) : Prop := (∀ i k, kL[i]? = some k → ad i ∈ hL S ∧ Kd S (ad i) k) ∧ (∀ p ∈ nL, Ln S (ad p.1) p.2) ∧ (∀ p ∈ pL, hR S p.1 (ad p.2.1) = some (ad p.2.2)) ∧ ∀ p ∈ qL, aR S (ad p.1) p.2.1 = some (ad p.2.2)
/-- a world of a list of addresses, kept by what writes to none of its owners -/
theorem Wt.fm {kL : List Nat} {nL : List (Nat × Nat)} {pL qL : List (Nat × Nat × Nat)} {ad : Nat → Nat} {S S' : Hp} {WI WR : Nat → Nat → Prop} {WA : Nat → Prop} (H : Wt kL nL pL qL ad S) (hp : ∀ p ∈ pL, p.2.1 < kL.length) (hn : ∀ p ∈ nL, p.1 < kL.length) (hq : ∀ p ∈ qL, p.1 < kL.length) (hf : Fm WI WR WA S S') (h1 : ∀ p ∈ pL, ¬ WR p.1 (ad p.2.1)) (h2 : ∀ p ∈ qL, ¬ WA (ad p.1)) : Wt kL nL pL qL ad S' := by
  have hm : ∀ i, i < kL.length → ad i ∈ hL S := fun i hi => (H.1 i _ (List.getElem?_eq_getElem hi)).1
  exact ⟨fun i k hk => ⟨hf.mem (H.1 i k hk).1, hf.kd (H.1 i k hk).1 (H.1 i k hk).2⟩, fun p h => hf.ln (hm _ (hn p h)) (H.2.1 p h), fun p h => hf.fr (hm _ (hp p h)) (h1 p h) (H.2.2.1 p h), fun p h => (hf.ar (hm _ (hq p h)) (h2 p h) _).trans (H.2.2.2 p h)⟩
/-- addresses and their kinds, side by side -/
def WK (S : Hp) : List Nat → List Nat → Prop
  | a :: l, k :: ks => (a ∈ hL S ∧ Kd S a k) ∧ WK S l ks
  | _, [] => True
  | [], _ => False
theorem WK.nil {S : Hp} {l : List Nat} : WK S l [] := by cases l <;> trivial
theorem WK.cons {S : Hp} {a k : Nat} {l ks : List Nat} (h : a ∈ hL S ∧ Kd S a k) (H : WK S l ks) : WK S (a :: l) (k :: ks) := ⟨h, H⟩
theorem WK.get {S : Hp} : ∀ {ks l : List Nat}, WK S l ks → ∀ i k, ks[i]? = some k → l.getD i 0 ∈ hL S ∧ Kd S (l.getD i 0) k
  | [], _, _, i, k, h => by simp at h
  | _ :: _, [], H, _, _, _ => H.elim
  | c :: ks, a :: l, H, 0, k, h => by
    have e : c = k := Option.some.inj h
    subst e
    exact H.1
  | c :: ks, a :: l, H, i + 1, k, h => WK.get (ks := ks) (l := l) H.2 i k h
theorem getD_in {l : List Nat} {i : Nat} (h : i < l.length) : l.getD i 0 ∈ l := by
  rw [List.getD_eq_getElem?_getD, List.getElem?_eq_getElem h]
  exact List.getElem_mem h
