/-! What may have changed: fields by PF, rows by PA. -/
def Fr (PF : Nat → Nat → Bool) (PA : Nat → Bool) (c c' : Mm) : Prop := (∀ f i, PF f i = false → gI c' f i = gI c f i ∧ gJ c' f i = gJ c f i ∧ gR c' f i = gR c f i) ∧ (∀ a, PA a = false → gA c' a = gA c a ∧ gB c' a = gB c a)
section FRM9
variable {PF QF : Nat → Nat → Bool} {PA QA : Nat → Bool} {c c' c2 : Mm}
theorem Fr.refl : Fr PF PA c c := ⟨fun _ _ _ => ⟨rfl, rfl, rfl⟩, fun _ _ => ⟨rfl, rfl⟩⟩
theorem Fr.i (h : Fr PF PA c c') {f i : Nat} (e : PF f i = false) : gI c' f i = gI c f i := (h.1 f i e).1
theorem Fr.j (h : Fr PF PA c c') {f i : Nat} (e : PF f i = false) : gJ c' f i = gJ c f i := (h.1 f i e).2.1
theorem Fr.r (h : Fr PF PA c c') {f i : Nat} (e : PF f i = false) : gR c' f i = gR c f i := (h.1 f i e).2.2
theorem Fr.a (h : Fr PF PA c c') {a : Nat} (e : PA a = false) : gA c' a = gA c a := (h.2 a e).1
theorem Fr.b (h : Fr PF PA c c') {a : Nat} (e : PA a = false) : gB c' a = gB c a := (h.2 a e).2
theorem Fr.trans (h : Fr PF PA c c') (h2 : Fr PF PA c' c2) : Fr PF PA c c2 := ⟨fun f i e => ⟨(h2.i e).trans (h.i e), (h2.j e).trans (h.j e), (h2.r e).trans (h.r e)⟩, fun a e => ⟨(h2.a e).trans (h.a e), (h2.b e).trans (h.b e)⟩⟩
theorem Fr.weak (h : Fr PF PA c c') (h1 : ∀ f i, QF f i = false → PF f i = false) (h2 : ∀ a, QA a = false → PA a = false) : Fr QF QA c c' := ⟨fun f i e => h.1 f i (h1 f i e), fun a e => h.2 a (h2 a e)⟩
theorem Fr.uI (h : Fr PF PA c c') {f i : Nat} (v : Int32) (e : PF f i = true) : Fr PF PA c (uI c' f i v) := ⟨fun g j q => ⟨by rw [gI_uI, if_neg (fun z => by rw [z.1, z.2, e] at q; cases q)]; exact h.i q, h.j q, h.r q⟩, fun a q => ⟨h.a q, h.b q⟩⟩
theorem Fr.uJ (h : Fr PF PA c c') {f i : Nat} (v : Int64) (e : PF f i = true) : Fr PF PA c (uJ c' f i v) := ⟨fun g j q => ⟨h.i q, by rw [gJ_uJ, if_neg (fun z => by rw [z.1, z.2, e] at q; cases q)]; exact h.j q, h.r q⟩, fun a q => ⟨h.a q, h.b q⟩⟩
theorem Fr.uR (h : Fr PF PA c c') {f i : Nat} (v : Option Nat) (e : PF f i = true) : Fr PF PA c (uR c' f i v) := ⟨fun g j q => ⟨h.i q, h.j q, by rw [gR_uR, if_neg (fun z => by rw [z.1, z.2, e] at q; cases q)]; exact h.r q⟩, fun a q => ⟨h.a q, h.b q⟩⟩
theorem Fr.uA (h : Fr PF PA c c') {a : Nat} (j : Nat) (v : Int32) (e : PA a = true) : Fr PF PA c (uA c' a j v) := ⟨fun g j q => ⟨h.i q, h.j q, h.r q⟩, fun b q => ⟨by rw [← h.a q]; exact funext fun z => by rw [gA_uA, if_neg (fun z => by rw [z.1, e] at q; cases q)], h.b q⟩⟩
theorem Fr.uB (h : Fr PF PA c c') {a : Nat} (j : Nat) (v : Int64) (e : PA a = true) : Fr PF PA c (uB c' a j v) := ⟨fun g j q => ⟨h.i q, h.j q, h.r q⟩, fun b q => ⟨h.a q, by rw [← h.b q]; exact funext fun z => by rw [gB_uB, if_neg (fun z => by rw [z.1, e] at q; cases q)]⟩⟩
theorem Fr.vA (h : Fr PF PA c c') {a : Nat} (g : Nat → Int32) (e : PA a = true) : Fr PF PA c (vA c' a g) := ⟨fun g j q => ⟨h.i q, h.j q, h.r q⟩, fun b q => ⟨by rw [← h.a q]; exact funext fun z => by rw [gA_vA, if_neg (fun z => by rw [z, e] at q; cases q)], h.b q⟩⟩
theorem Fr.vB (h : Fr PF PA c c') {a : Nat} (g : Nat → Int64) (e : PA a = true) : Fr PF PA c (vB c' a g) := ⟨fun g j q => ⟨h.i q, h.j q, h.r q⟩, fun b q => ⟨h.a q, by rw [← h.b q]; exact funext fun z => by rw [gB_vB, if_neg (fun z => by rw [z, e] at q; cases q)]⟩⟩
end FRM9
/-! the output's bytes on both sides -/
def cOutF (f i : Nat) : Bool := i == 5 && (f == 601 || f == 603)
def cOutA (a : Nat) : Bool := a == 6
def mOutF (f i : Nat) : Bool := i == 133 && (f == 1242 || f == 1233)
def mOutA (a : Nat) : Bool := a == 161
def WR (z s : Nat) (y : Bool) (c m : Mm) : Prop := gI c 601 5 = nI s ∧ gI m 1242 133 = nI s ∧ s ≤ 60000 ∧ (∀ j, j < s → gA c 6 j = gA m 161 j) ∧ gI c 603 5 = cI y ∧ gI m 1233 133 = cI y ∧ z ≤ s
theorem WR.fr {z : Nat} {s : Nat} {y : Bool} {c c' m m' : Mm} {PF QF : Nat → Nat → Bool} {PA QA : Nat → Bool} (h : WR z s y c m) (h1 : Fr PF PA c c') (h2 : Fr QF QA m m') (e1 : PF 601 5 = false) (e2 : PF 603 5 = false) (e3 : PA 6 = false) (e4 : QF 1242 133 = false) (e5 : QF 1233 133 = false) (e6 : QA 161 = false) : WR z s y c' m' := by
  obtain ⟨a1, a2, a3, a4, a5, a6, a7⟩ := h
  exact ⟨(h1.i e1).trans a1, (h2.i e4).trans a2, a3, by rw [h1.a e3, h2.a e6]; exact a4, (h1.i e2).trans a5, (h2.i e5).trans a6, a7⟩
theorem WR.z {z z' s : Nat} {y : Bool} {c m : Mm} (h : WR z s y c m) (hz : z' ≤ s) : WR z' s y c m := ⟨h.1, h.2.1, h.2.2.1, h.2.2.2.1, h.2.2.2.2.1, h.2.2.2.2.2.1, hz⟩
theorem P2_byteS {z : Nat} {s : Nat} {y : Bool} {c m : Mm} {a b : Int32} (h : WR z s y c m) (hab : a.toInt8 = b.toInt8) : P2 (f_X6_putByte a c) (f_X12_outByte b m) (fun _ c' _ m' => (∃ s' y', WR z s' y' c' m' ∧ (y' = false → y = false ∧ s' = s + 1) ∧ (s < 60000 → y' = y ∧ s' = s + 1)) ∧ Fr cOutF cOutA c c' ∧ Fr mOutF mOutA m m') := by
  obtain ⟨h1, h2, h3, h4, h5, h6, h7⟩ := h
  unfold f_X6_putByte f_X12_outByte
  rw [h1, h2, if_neg (nI_pos (by omega))]
  rcases Nat.lt_or_ge s 60000 with hs | hs
  · rw [show (60000 : Int32) = nI 60000 from rfl, if_neg (nI_ge hs (by omega)), if_neg (fun e => by rw [nI_eq (by omega) (by omega)] at e; omega), ix_in (j := s) (nI_pos (by omega)) (nI_clamp (by omega)) hs, ix_in (j := s) (nI_pos (by omega)) (nI_clamp (by omega)) (by omega)]
    refine P2_ret ⟨⟨s + 1, y, ⟨?_, ?_, by omega, fun j hj => ?_, h5, h6, by omega⟩, fun e => ⟨e, rfl⟩, fun _ => ⟨rfl, rfl⟩⟩, (Fr.refl.uA _ _ rfl).uI _ rfl, (Fr.refl.uA _ _ rfl).uI _ rfl⟩
    · rw [gI_uI, if_pos ⟨rfl, rfl⟩, gI_uA, h1]; exact nI_add s 1
    · rw [gI_uI, if_pos ⟨rfl, rfl⟩, gI_uA, h2]; exact nI_add s 1
    · rw [gA_uI, gA_uI, gA_uA, gA_uA, hab]
      by_cases e : j = s
      · rw [if_pos ⟨rfl, e⟩, if_pos ⟨rfl, e⟩]
      · rw [if_neg (fun z => e z.2), if_neg (fun z => e z.2)]; exact h4 j (by omega)
  · have e : s = 60000 := by omega
    subst e
    rw [if_pos (by decide), if_pos (by decide)]
    refine P2_ret ⟨⟨60000, true, ⟨h1, h2, by omega, h4, ?_, ?_, h7⟩, (fun e => by cases e), fun e => absurd e (by omega)⟩, Fr.refl.uI _ rfl, Fr.refl.uI _ rfl⟩
    · rw [gI_uI, if_pos ⟨rfl, rfl⟩]; rfl
    · rw [gI_uI, if_pos ⟨rfl, rfl⟩]; rfl
theorem P2_byte {z : Nat} {s : Nat} {y : Bool} {c m : Mm} {a b : Int32} (h : WR z s y c m) (hab : a.toInt8 = b.toInt8) : P2 (f_X6_putByte a c) (f_X12_outByte b m) (fun _ c' _ m' => (∃ s' y', WR z s' y' c' m') ∧ Fr cOutF cOutA c c' ∧ Fr mOutF mOutA m m') := by
  refine P2_mono (P2_byteS h hab) ?_
  rintro _ c' _ m' ⟨⟨s', y', h1, _⟩, h2⟩
  exact ⟨⟨s', y', h1⟩, h2⟩
