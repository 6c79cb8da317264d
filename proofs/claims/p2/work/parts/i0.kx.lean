/-! What going through bytes leaves as it is. -/
def kxF (d : Nat) (ov : Bool) (f i : Nat) : Bool := kwF d ov f i || (i == 125 + d && !(f == 500 || f == 502))
def kxM (f i : Nat) : Bool := mkF f i || (i == 133 && f == 1227)
def KX (d : Nat) (ov : Bool) (c m c' m' : Mm) : Prop := (Fr (kxF d ov) (kwA d ov) c c') ∧ (Fr kxM mkA m m') ∧ (∀ j, j < 192 * d → gA m' 135 j = gA m 135 j) ∧ (ov = true → ∀ j, 768 ≤ j → gA m' 135 j = gA m 135 j) ∧ (∀ j, j < 1500 * d → gA m' 156 j = gA m 156 j) ∧ (0 < d → gI m' 1252 133 = gI m 1252 133 ∨ gI m' 1252 133 = 0)
def OX (d : Nat) (ov : Bool) (c m c' m' : Mm) : Prop := (RR d ov c' m' ∨ MU d ov c' m') ∧ KX d ov c m c' m' ∧ (ov = true → gA m' 134 0 = gA m 134 0 ∧ gA m' 134 1 = gA m 134 1)
section I0
variable {c c' c0 c1 c2 c3 m m' m0 m1 m2 m3 T T' M' : Mm} {d w b A o M o' n p r q a i s f k u h rb t v : Nat} {F : Nat → Nat} {ov ov' ng sg z : Bool} {g L : Nat → Int32} {Gc Gm : Gty} {PF QF : Nat → Nat → Bool} {PA QA : Nat → Bool}
theorem KX.refl : KX d ov c m c m := ⟨Fr.refl, Fr.refl, fun _ _ => rfl, fun _ _ _ => rfl, fun _ _ => rfl, fun _ => Or.inl rfl⟩
theorem KX.trans (h : KX d ov c m c1 m1) (h2 : KX d ov c1 m1 c2 m2) : KX d ov c m c2 m2 := ⟨h.1.trans h2.1, h.2.1.trans h2.2.1, fun j hj => (h2.2.2.1 j hj).trans (h.2.2.1 j hj), fun e j hj => (h2.2.2.2.1 e j hj).trans (h.2.2.2.1 e j hj), fun j hj => (h2.2.2.2.2.1 j hj).trans (h.2.2.2.2.1 j hj), fun z => by
  rcases h2.2.2.2.2.2 z with e | e
  · rcases h.2.2.2.2.2 z with e2 | e2
    · exact Or.inl (e.trans e2)
    · exact Or.inr (e.trans e2)
  · exact Or.inr e⟩
theorem KW.kx (h : KW d ov c m c' m') : KX d ov c m c' m' := ⟨h.1.weak (fun f i e => (Bool.or_eq_false_iff.mp e).1) (fun _ e => e), h.2.1.weak (fun f i e => (Bool.or_eq_false_iff.mp e).1) (fun _ e => e), h.2.2.1, h.2.2.2.1, h.2.2.2.2.1, fun _ => h.2.2.2.2.2.1⟩
theorem OW.ox (h : OW d ov c m c' m') : OX d ov c m c' m' := ⟨h.1, h.2.1.kx, h.2.2⟩
theorem OX.pre (k : KX d ov c m c1 m1) (p : ov = true → gA m1 134 0 = gA m 134 0 ∧ gA m1 134 1 = gA m 134 1) (h : OX d ov c1 m1 c' m') : OX d ov c m c' m' := ⟨h.1, k.trans h.2.1, fun z => ⟨(h.2.2 z).1.trans (p z).1, (h.2.2 z).2.trans (p z).2⟩⟩
/-- reading alone -/
def rdF (d : Nat) (f i : Nat) : Bool := (i == 23 && f == 916) || (i == 125 + d && !(f == 500 || f == 502))
def rdM (f i : Nat) : Bool := i == 133 && (f == 1227 || f == 1232 || f == 1233 || f == 1251 || f == 1253 || f == 1254)
theorem KX.rd (fc : Fr (rdF d) noA c c') (fm : Fr rdM noA m m') : KX d ov c m c' m' := by
  have e135 : gA m' 135 = gA m 135 := fm.a rfl
  have e156 : gA m' 156 = gA m 156 := fm.a rfl
  refine ⟨fc.weak (fun f i e => ?_) (fun _ _ => rfl), fm.weak (fun f i e => ?_) (fun _ _ => rfl), fun j _ => by rw [e135], fun _ j _ => by rw [e135], fun j _ => by rw [e156], fun _ => Or.inl (fm.i rfl)⟩
  · unfold kxF at e
    rw [Bool.or_eq_false_iff] at e
    obtain ⟨e1, e2⟩ := e
    unfold kwF at e1
    rw [Bool.or_eq_false_iff] at e1
    unfold rdF
    rw [e2, Bool.or_false]
    cases y : (i == 23 && f == 916)
    · rfl
    · have := e1.1
      unfold skF at this
      rw [y] at this
      simp at this
  · unfold kxM at e
    rw [Bool.or_eq_false_iff] at e
    obtain ⟨e1, e2⟩ := e
    cases y : rdM f i
    · rfl
    · unfold rdM at y
      have : i = 133 ∧ (f = 1227 ∨ f = 1232 ∨ f = 1233 ∨ f = 1251 ∨ f = 1253 ∨ f = 1254) := by simpa [or_assoc] using y
      obtain ⟨rfl, rfl | rfl | rfl | rfl | rfl | rfl⟩ := this
      · exact absurd e2 (by decide)
      all_goals exact absurd e1 (by decide)
/-- the reference's mark that a sequence ends -/
theorem KX.b0 (f3 : Fr (fun f i => i == 133 && f == 1252) noA m m') (e : 0 < d → gI m' 1252 133 = 0) : KX d ov c m c m' := by
  have e135 : gA m' 135 = gA m 135 := f3.a rfl
  have e156 : gA m' 156 = gA m 156 := f3.a rfl
  refine ⟨Fr.refl, f3.weak (fun f i z => ?_) (fun _ _ => rfl), fun j _ => by rw [e135], fun _ j _ => by rw [e135], fun j _ => by rw [e156], fun z => Or.inr (e z)⟩
  cases y : (i == 133 && f == 1252)
  · rfl
  · have : i = 133 ∧ f = 1252 := by simpa using y
    obtain ⟨rfl, rfl⟩ := this
    exact absurd z (by decide)
theorem kx_o {f : Nat} (hd : d ≤ 3) (hf : f = 500 ∨ f = 502) : kxF d ov f (125 + d) = false := by
  unfold kxF kwF skF
  rcases hf with rfl | rfl <;> (simp; omega)
theorem SRC.kx (h : SRC c m d A o M o' n F) (hd : d ≤ 3) (k : KX d ov c m c' m') : SRC c' m' d A o M o' n F :=
  h.fr k.1 k.2.1 ⟨kx_o hd (Or.inl rfl), kx_o hd (Or.inr rfl)⟩ ⟨by unfold kwA skA; simp; omega, fun z => by unfold kwA skA; simp; omega⟩ ⟨rfl, rfl⟩ rfl k.2.2.2.2.1
theorem kw_rd {f : Nat} (hd : d ≤ 3) : kwF d ov f (125 + d) = false := by
  unfold kwF skF
  simp; omega
theorem KW.ri (h : KW d ov c m c' m') (hd : d ≤ 3) (f : Nat) : gI c' f (125 + d) = gI c f (125 + d) := h.1.i (kw_rd hd)
theorem PO.kw (h : PO c m d o o' p) (hd : d ≤ 3) (k : KW d ov c m c' m') : PO c' m' d o o' p := ⟨(k.ri hd _).trans h.1, k.2.2.2.2.2.2.trans h.2⟩
theorem gc_rd {f i : Nat} (hd : d ≤ 3) (e : gcF f i = false) : rdF d f i = false := by
  unfold gcF at e
  unfold rdF
  rw [Bool.or_eq_false_iff] at e
  rw [e.1, Bool.false_or]
  cases y : (i == 125 + d)
  · rfl
  · have : i = 125 + d := by simpa using y
    subst this
    have := e.2
    simp at this
    omega
theorem rd_gc {f i : Nat} (hd : d ≤ 3) (e : gcF f i = false) : rdF d f i = false := gc_rd hd e
theorem rdM_gm {f i : Nat} (e : gmG f i = false) : rdM f i = false := by
  cases y : rdM f i
  · rfl
  · unfold rdM at y
    have : i = 133 ∧ (f = 1227 ∨ f = 1232 ∨ f = 1233 ∨ f = 1251 ∨ f = 1253 ∨ f = 1254) := by simpa [or_assoc] using y
    obtain ⟨rfl, rfl | rfl | rfl | rfl | rfl | rfl⟩ := this <;> exact absurd e (by decide)
/-- what reading changes, seen as the relation wants it -/
theorem RR.red {q : Nat} (h : RR d ov c m) (fc : Fr (rdF d) noA c c') (fm : Fr (fun f i => rdM f i && !(f == 1233)) noA m m') (g1 : gI c' 916 23 = nI q) (g2 : gI m' 1232 133 = nI q) (hq : q ≤ 60000) : RR d ov c' m' := by
  have hd := h.d3
  refine h.gone (fc.weak (fun f i e => gc_rd hd e) (fun _ e => e)) (fm.weak (fun f i e => ?_) (fun _ e => e)) g1 g2 hq
  cases y : (rdM f i && !(f == 1233))
  · rfl
  · rw [Bool.and_eq_true] at y
    unfold rdM at y
    have : (i = 133 ∧ (f = 1227 ∨ f = 1232 ∨ f = 1233 ∨ f = 1251 ∨ f = 1253 ∨ f = 1254)) ∧ ¬ f = 1233 := by simpa [or_assoc] using y
    obtain ⟨⟨rfl, rfl | rfl | rfl | rfl | rfl | rfl⟩, hne⟩ := this
    · exact absurd e (by decide)
    · exact absurd e (by decide)
    · exact absurd rfl hne
    all_goals exact absurd e (by decide)
theorem RR.ovr {q : Nat} (h : RR d ov c m) (fc : Fr (rdF d) noA c c') (fm : Fr rdM noA m m') (g1 : gI c' 916 23 = nI q) (hq : 60000 < q) (hq2 : q < 2147483648) (g2 : gI m' 1233 133 = 1) : MU d ov c' m' :=
  h.over (fc.weak (fun f i e => gc_rd h.d3 e) (fun _ e => e)) (fm.weak (fun _ _ e => rdM_gm e) (fun _ e => e)) g1 hq hq2 g2
end I0
