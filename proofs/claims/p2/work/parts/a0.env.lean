/-! Streams: what the class's environment has beside the reference's row e. -/
def envT : List (Nat × Nat × Nat) := [(700, 1, 0), (701, 1, 1), (702, 1, 2), (703, 1, 3), (704, 1, 4), (705, 1, 5), (708, 1, 6), (709, 1, 7), (710, 1, 188), (711, 1, 146), (706, 1, 189), (707, 1, 190), (105, 0, 28), (106, 0, 8), (107, 0, 9), (108, 0, 10), (109, 0, 11), (110, 0, 49), (111, 0, 50), (112, 0, 51), (113, 0, 52), (114, 0, 140), (115, 0, 141), (116, 0, 142), (117, 0, 143), (118, 0, 144), (119, 0, 145), (120, 0, 187), (400, 3, 53), (401, 3, 54), (404, 3, 57), (405, 3, 58)]
def plnT : List (Nat × Nat × Nat) := [(700, 1, 0), (701, 1, 1), (702, 1, 2), (703, 1, 3), (704, 1, 4), (705, 1, 5), (708, 1, 6), (709, 1, 7), (710, 1, 188), (706, 1, 189), (707, 1, 190), (105, 0, 28), (106, 0, 8), (107, 0, 9), (108, 0, 10), (109, 0, 11), (110, 0, 49), (111, 0, 50), (112, 0, 51), (113, 0, 52), (114, 0, 140), (115, 0, 141), (116, 0, 142), (117, 0, 143), (118, 0, 144), (119, 0, 145), (120, 0, 187), (400, 3, 53), (401, 3, 54), (405, 3, 58)]
def loT : List Int := [0, 0, 0, 0, 0, 0, 0, 0, 1, 0, 0, 0, -2000000, -2000000, -2000000, -2000000, -2000000, -2000000, -2000000, -1, -2000000, -2000000, -2000000, -2000000, -2000000, -2000000, -2000000, -1, 0, 0, -32767, -2147483648, -2147483648, -2147483648, -2147483648, -2147483648, -2147483648, -2147483648, -2147483648, -2147483648, -2147483648, -2147483648, -2147483648, -2147483648, -2147483648, -2147483648, -2147483648, -2147483648, -2147483648, 0, 0, 0, 0, 1, 0, -1, -1, 0, 0, -2147483648, -2147483648, -2147483648, -2147483648, -2147483648, -2147483648, -2147483648, -2147483648, -2147483648, -2147483648, -2147483648, -2147483648, -2147483648, -2147483648, -2147483648, -2147483648, -2147483648, -2147483648, -2147483648, -2147483648, -2147483648, -2147483648, -2147483648, -2147483648, -2147483648, -2147483648, -2147483648, -2147483648, -2147483648, -2147483648, -2147483648, -2147483648, -2147483648, -2147483648, -2147483648, -2147483648, -2147483648, -2147483648, -2147483648, -2147483648, -2147483648, -2147483648, -2147483648, -2147483648, -2147483648, -2147483648, -2147483648, -2147483648, -2147483648, -2147483648, -2147483648, -2147483648, -2147483648, -2147483648, -2147483648, -2147483648, -2147483648, -2147483648, -2147483648, -2147483648, -2147483648, -2147483648, -2147483648, -2147483648, -2147483648, -2147483648, -2147483648, -2147483648, -2147483648, -2147483648, -2147483648, -2147483648, -2147483648, -2147483648, -2147483648, -2147483648, -2147483648, -2147483648, -2147483648, -2147483648, -2147483648, 0, 0, 0, 0, -32767, 0, 0, 0, 0, 0, 0, 0, 0, 0, 0, 0, 0, 0, 0, 0, 0, 0, 0, 0, 0, 0, 0, 0, 0, 0, 0, 0, 0, 0, 0, 0, 0, 0, 0, 0, 0, 0, 0, 0, 0, 0, 0, -1, 0, 0, 0, -2147483648]
def hiT : List Int := [3, 1, 76800, 76800, 76800, 76800, 32000, 32000, 4, 1, 3, 1, 2000000, 2000000, 2000000, 2000000, 2000000, 2000000, 2000000, 16, 2000000, 2000000, 2000000, 2000000, 2000000, 2000000, 2000000, 16, 1, 4, 32767, 2147483647, 2147483647, 2147483647, 2147483647, 2147483647, 2147483647, 2147483647, 2147483647, 2147483647, 2147483647, 2147483647, 2147483647, 2147483647, 2147483647, 2147483647, 2147483647, 2147483647, 2147483647, 1, 1, 800, 800, 4, 3, 32767, 32767, 1, 800, 2147483647, 2147483647, 2147483647, 2147483647, 2147483647, 2147483647, 2147483647, 2147483647, 2147483647, 2147483647, 2147483647, 2147483647, 2147483647, 2147483647, 2147483647, 2147483647, 2147483647, 2147483647, 2147483647, 2147483647, 2147483647, 2147483647, 2147483647, 2147483647, 2147483647, 2147483647, 2147483647, 2147483647, 2147483647, 2147483647, 2147483647, 2147483647, 2147483647, 2147483647, 2147483647, 2147483647, 2147483647, 2147483647, 2147483647, 2147483647, 2147483647, 2147483647, 2147483647, 2147483647, 2147483647, 2147483647, 2147483647, 2147483647, 2147483647, 2147483647, 2147483647, 2147483647, 2147483647, 2147483647, 2147483647, 2147483647, 2147483647, 2147483647, 2147483647, 2147483647, 2147483647, 2147483647, 2147483647, 2147483647, 2147483647, 2147483647, 2147483647, 2147483647, 2147483647, 2147483647, 2147483647, 2147483647, 2147483647, 2147483647, 2147483647, 2147483647, 2147483647, 2147483647, 2147483647, 2147483647, 2147483647, 32767, 32767, 15, 255, 32767, 15, 20, 76800, 76800, 76800, 76800, 76800, 76800, 76800, 76800, 76800, 76800, 76800, 76800, 76800, 76800, 76800, 76800, 76800, 76800, 76800, 76800, 76800, 76800, 76800, 76800, 76800, 76800, 76800, 76800, 76800, 76800, 76800, 76800, 76800, 76800, 76800, 76800, 76800, 76800, 76800, 76800, 15, 32000, 76800, 76800, 2147483647]
def lo (k : Nat) : Int := loT.getD k 0
def hi (k : Nat) : Int := hiT.getD k 0
def rz (v : Int32) : Int32 := if v = -1 then 0 else v
/-- a font's numbers: the class's place beside the reference's -/
def wpi (k : Nat) : Nat := if k = 7 then 7 else (k + 6) % 7
def lbt (x : Int64) (i : Nat) : Bool := x.toBitVec.getLsbD i
def shV (a b : Int) : Int := (#[0, 8, 2, 10, 12, 4, 14, 6, 3, 11, 1, 9, 15, 7, 13, 5] : Array Int).getD (4 * b + a).toNat 0
/-- a dot of the reference's pattern L (sort, number, wide, high, rows) -/
def pd (L : Nat → Int32) (a b : Int) : Bool :=
  if L 0 = 0 then true
  else if L 0 = 1 then false
  else if L 0 = 2 then decide (100 * shV (a % 4) (b % 4) < 16 * (L 1).toInt)
  else if L 0 = 3 then (if L 1 = 1 then decide (b % 8 = 0) else if L 1 = 2 then decide (a % 8 = 0) else if L 1 = 3 then decide ((a + b) % 8 = 0) else if L 1 = 4 then decide ((a - b) % 8 = 0) else if L 1 = 5 then (decide (a % 8 = 0) || decide (b % 8 = 0)) else (decide ((a + b) % 8 = 0) || decide ((a - b) % 8 = 0)))
  else bt (L (4 + (b % (L 3).toInt).toNat)) ((L 2).toInt - 1 - a % (L 2).toInt).toNat
def TR (c : Mm) (t : Nat) (L : Nat → Int32) : Prop := (L 0 = 0 ∨ L 0 = 1 ∨ L 0 = 2 ∨ L 0 = 3 ∨ L 0 = 4) ∧ ∃ w h : Nat, 1 ≤ w ∧ w ≤ 16 ∧ 1 ≤ h ∧ h ≤ 16 ∧ gI c 1000 t = nI w ∧ gI c 1001 t = nI h ∧ gI c 1002 t = cI (decide (L 0 = 1)) ∧ (L 0 = 4 → L 2 = nI w ∧ L 3 = nI h) ∧ ∀ (a b : Int) (k : Nat), k < 48 → a % w = (k : Int) % w → lbt (gB c (t + 1) (b % h).toNat) (63 - k) = pd L a b
def pgW (f : Int32) : Nat := if f = 0 then 200 else if f = 1 then 320 else if f = 2 then 480 else 640
def pgH (f : Int32) : Nat := if f = 0 then 240 else if f = 1 then 400 else if f = 2 then 640 else 800
def lgW (g : Nat → Int32) : Nat := if g 1 = 0 then pgW (g 0) else pgH (g 0)
def lgH (g : Nat → Int32) : Nat := if g 1 = 0 then pgH (g 0) else pgW (g 0)
def EVq (c : Mm) (E : Nat) (g : Nat → Int32) : Prop := (∀ q, q ∈ envT → gI c q.1 (E + q.2.1) = g q.2.2) ∧ (gI c 402 (E + 3) = rz (g 55)) ∧ (gI c 403 (E + 3) = rz (g 56)) ∧ (g 57 = 1 → ¬ g 56 = -1 → gI c 406 (E + 3) = g 59) ∧ (∀ j : Nat, j < 40 → (j : Int) < 2 * (g 146).toInt → gA c (E + 2) j = g (147 + j)) ∧ (∀ i, i < 640 → bt (gA c (E + 4) (i / 32)) (31 - i % 32) = bt (g (60 + i / 8)) (7 - i % 8)) ∧ (TR c (E + 5) (fun k => g (29 + k))) ∧ (∀ k, k < 8 → gA c (E + 7) k = g (12 + wpi k)) ∧ (∀ k, k < 8 → gA c (E + 8) k = g (20 + wpi k))
theorem EVq.i {c : Mm} {E : Nat} {g : Nat → Int32} (h : EVq c E g) : ∀ q, q ∈ envT → gI c q.1 (E + q.2.1) = g q.2.2 := h.1
theorem EVq.w {c : Mm} {E : Nat} {g : Nat → Int32} (h : EVq c E g) : gI c 402 (E + 3) = rz (g 55) := h.2.1
theorem EVq.h {c : Mm} {E : Nat} {g : Nat → Int32} (h : EVq c E g) : gI c 403 (E + 3) = rz (g 56) := h.2.2.1
theorem EVq.r {c : Mm} {E : Nat} {g : Nat → Int32} (h : EVq c E g) : g 57 = 1 → ¬ g 56 = -1 → gI c 406 (E + 3) = g 59 := h.2.2.2.1
theorem EVq.p {c : Mm} {E : Nat} {g : Nat → Int32} (h : EVq c E g) : ∀ j : Nat, j < 40 → (j : Int) < 2 * (g 146).toInt → gA c (E + 2) j = g (147 + j) := h.2.2.2.2.1
theorem EVq.b {c : Mm} {E : Nat} {g : Nat → Int32} (h : EVq c E g) : ∀ i, i < 640 → bt (gA c (E + 4) (i / 32)) (31 - i % 32) = bt (g (60 + i / 8)) (7 - i % 8) := h.2.2.2.2.2.1
theorem EVq.t {c : Mm} {E : Nat} {g : Nat → Int32} (h : EVq c E g) : TR c (E + 5) (fun k => g (29 + k)) := h.2.2.2.2.2.2.1
theorem EVq.f {c : Mm} {E : Nat} {g : Nat → Int32} (h : EVq c E g) : ∀ k, k < 8 → gA c (E + 7) k = g (12 + wpi k) := h.2.2.2.2.2.2.2.1
theorem EVq.s {c : Mm} {E : Nat} {g : Nat → Int32} (h : EVq c E g) : ∀ k, k < 8 → gA c (E + 8) k = g (20 + wpi k) := h.2.2.2.2.2.2.2.2
theorem EVq_mk {c : Mm} {E : Nat} {g : Nat → Int32} (i : ∀ q, q ∈ envT → gI c q.1 (E + q.2.1) = g q.2.2) (w : gI c 402 (E + 3) = rz (g 55)) (h : gI c 403 (E + 3) = rz (g 56)) (r : g 57 = 1 → ¬ g 56 = -1 → gI c 406 (E + 3) = g 59) (p : ∀ j : Nat, j < 40 → (j : Int) < 2 * (g 146).toInt → gA c (E + 2) j = g (147 + j)) (b : ∀ i, i < 640 → bt (gA c (E + 4) (i / 32)) (31 - i % 32) = bt (g (60 + i / 8)) (7 - i % 8)) (t : TR c (E + 5) (fun k => g (29 + k))) (f : ∀ k, k < 8 → gA c (E + 7) k = g (12 + wpi k)) (s : ∀ k, k < 8 → gA c (E + 8) k = g (20 + wpi k)) : EVq c E g := ⟨i, w, h, r, p, b, t, f, s⟩
def EB (g : Nat → Int32) : Prop := (∀ k, k < 192 → lo k ≤ (g k).toInt ∧ (g k).toInt ≤ hi k) ∧ (¬ g 55 = 0 ∧ ¬ g 56 = 0) ∧ (g 57 = 1 → ¬ g 56 = -1 → 0 ≤ (g 59).toInt ∧ (g 59).toInt ≤ (g 56).toInt) ∧ ((g 189).toInt ≤ 96 * (lgW g : Int))
theorem EB.r {g : Nat → Int32} (h : EB g) : ∀ k, k < 192 → lo k ≤ (g k).toInt ∧ (g k).toInt ≤ hi k := h.1
theorem EB.z {g : Nat → Int32} (h : EB g) : ¬ g 55 = 0 ∧ ¬ g 56 = 0 := h.2.1
theorem EB.o {g : Nat → Int32} (h : EB g) : g 57 = 1 → ¬ g 56 = -1 → 0 ≤ (g 59).toInt ∧ (g 59).toInt ≤ (g 56).toInt := h.2.2.1
theorem EB.x {g : Nat → Int32} (h : EB g) : (g 189).toInt ≤ 96 * (lgW g : Int) := h.2.2.2
theorem EB_mk {g : Nat → Int32} (r : ∀ k, k < 192 → lo k ≤ (g k).toInt ∧ (g k).toInt ≤ hi k) (z : ¬ g 55 = 0 ∧ ¬ g 56 = 0) (o : g 57 = 1 → ¬ g 56 = -1 → 0 ≤ (g 59).toInt ∧ (g 59).toInt ≤ (g 56).toInt) (x : (g 189).toInt ≤ 96 * (lgW g : Int)) : EB g := ⟨r, z, o, x⟩
section A0
variable {c c' m m' : Mm} {E : Nat} {g : Nat → Int32} {PF QF : Nat → Nat → Bool} {PA QA : Nat → Bool}
theorem TR.fr {t : Nat} {L : Nat → Int32} (h : TR c t L) (e1 : gI c' 1000 t = gI c 1000 t) (e2 : gI c' 1001 t = gI c 1001 t) (e3 : gI c' 1002 t = gI c 1002 t) (e4 : gB c' (t + 1) = gB c (t + 1)) : TR c' t L := by
  obtain ⟨a0, w, h, a1, a2, a3, a4, a5, a6, a7, a8, a9⟩ := h
  exact ⟨a0, w, h, a1, a2, a3, a4, by rw [e1, a5], by rw [e2, a6], by rw [e3, a7], a8, by rw [e4]; exact a9⟩
theorem TR.congr {t : Nat} {L L' : Nat → Int32} (h : TR c t L) (e : ∀ k, k < 20 → L' k = L k) : TR c t L' := by
  obtain ⟨a0, w, h, a1, a2, a3, a4, a5, a6, a7, a8, a9⟩ := h
  refine ⟨by rw [e 0 (by omega)]; exact a0, w, h, a1, a2, a3, a4, a5, a6, by rw [e 0 (by omega)]; exact a7, by rw [e 0 (by omega), e 2 (by omega), e 3 (by omega)]; exact a8, fun a b k hk hak => ?_⟩
  rw [a9 a b k hk hak]
  unfold pd
  rw [e 0 (by omega), e 1 (by omega), e 2 (by omega), e 3 (by omega)]
  rcases a0 with z | z | z | z | z
  · rw [z]; rfl
  · rw [z]; rfl
  · rw [z]; rfl
  · rw [z]; rfl
  · obtain ⟨b1, b2⟩ := a8 z
    have : (b % (L 3).toInt).toNat < 16 := by
      rw [b2, nI_toInt (by omega)]
      have := Int.emod_lt_of_pos b (show (0 : Int) < (h : Int) by omega)
      have := Int.emod_nonneg b (show (h : Int) ≠ 0 by omega)
      omega
    rw [e _ (by omega)]
theorem env_o : ∀ q, q ∈ envT → q.2.1 ≤ 8 := by decide +kernel
theorem EVq.fr (h : EVq c E g) (f : Fr PF PA c c') (e1 : ∀ f i, E ≤ i → i ≤ E + 8 → PF f i = false) (e2 : ∀ a, E ≤ a → a ≤ E + 8 → PA a = false) : EVq c' E g :=
  EVq_mk (fun q hq => (f.i (e1 _ _ (by omega) (by have := env_o q hq; omega))).trans (h.i q hq)) ((f.i (e1 _ _ (by omega) (by omega))).trans h.w) ((f.i (e1 _ _ (by omega) (by omega))).trans h.h)
    (fun a b => (f.i (e1 _ _ (by omega) (by omega))).trans (h.r a b)) (by rw [f.a (e2 _ (by omega) (by omega))]; exact h.p) (by rw [f.a (e2 _ (by omega) (by omega))]; exact h.b)
    (h.t.fr (f.i (e1 _ _ (by omega) (by omega))) (f.i (e1 _ _ (by omega) (by omega))) (f.i (e1 _ _ (by omega) (by omega))) (f.b (e2 _ (by omega) (by omega))))
    (by rw [f.a (e2 _ (by omega) (by omega))]; exact h.f) (by rw [f.a (e2 _ (by omega) (by omega))]; exact h.s)
theorem EVq.congr {g' : Nat → Int32} (h : EVq c E g) (e : ∀ k, k < 192 → g' k = g k) : EVq c E g' := by
  have ho : ∀ q, q ∈ envT → q.2.2 < 192 := by decide +kernel
  have hw : ∀ k, k < 8 → wpi k < 8 := by decide +kernel
  refine EVq_mk (fun q hq => by rw [e _ (ho q hq)]; exact h.i q hq) (by rw [e _ (by omega)]; exact h.w) (by rw [e _ (by omega)]; exact h.h) (by rw [e _ (by omega), e _ (by omega), e _ (by omega)]; exact h.r) (fun j hj => by rw [e 146 (by omega), e _ (by omega)]; exact h.p j hj) (fun i hi => by rw [e _ (by omega)]; exact h.b i hi) (h.t.congr (fun k hk => e _ (by omega))) (fun k hk => by rw [e _ (by have := hw k hk; omega)]; exact h.f k hk) (fun k hk => by rw [e _ (by have := hw k hk; omega)]; exact h.s k hk)
theorem lgW_eq {g g' : Nat → Int32} (e0 : g' 0 = g 0) (e1 : g' 1 = g 1) : lgW g' = lgW g := by unfold lgW; rw [e0, e1]
theorem lgH_eq {g g' : Nat → Int32} (e0 : g' 0 = g 0) (e1 : g' 1 = g 1) : lgH g' = lgH g := by unfold lgH; rw [e0, e1]
theorem EB.congr {g' : Nat → Int32} (h : EB g) (e : ∀ k, k < 192 → g' k = g k) : EB g' :=
  EB_mk (fun k hk => by rw [e k hk]; exact h.r k hk) (by rw [e _ (by omega), e _ (by omega)]; exact h.z) (by rw [e _ (by omega), e _ (by omega), e _ (by omega)]; exact h.o) (by rw [e _ (by omega), lgW_eq (e 0 (by omega)) (e 1 (by omega))]; exact h.x)
/-- a place of a row is written -/
def wr (g : Nat → Int32) (k : Nat) (v : Int32) : Nat → Int32 := fun j => if j = k then v else g j
theorem wr_s (k : Nat) (v : Int32) : wr g k v k = v := if_pos rfl
theorem wr_o {k j : Nat} (v : Int32) (h : j ≠ k) : wr g k v j = g j := if_neg h
theorem gA_wr (T : Mm) (a k : Nat) (v : Int32) : gA (uA T a k v) a = wr (gA T a) k v := funext fun j => by
  rw [gA_uA]; unfold wr
  by_cases e : j = k
  · rw [if_pos ⟨rfl, e⟩, if_pos e]
  · rw [if_neg (fun z => e z.2), if_neg e]
theorem gA_wo (T : Mm) {a b : Nat} (k : Nat) (v : Int32) (h : b ≠ a) : gA (uA T a k v) b = gA T b := funext fun j => by
  rw [gA_uA, if_neg (fun z => h z.1)]
theorem pln_i : ∀ p, p ∈ plnT → ∀ q, q ∈ envT → ((q.1 = p.1 ∧ q.2.1 = p.2.1) ↔ q.2.2 = p.2.2) := by decide +kernel
theorem pln_k : ∀ p, p ∈ plnT → (p.1 ≠ 402 ∧ p.1 ≠ 403 ∧ p.1 ≠ 406 ∧ p.1 < 1000) ∧ (p.2.2 < 12 ∨ 28 ≤ p.2.2) ∧ (p.2.2 < 29 ∨ 49 ≤ p.2.2) ∧ (p.2.2 < 55 ∨ 57 < p.2.2) ∧ (p.2.2 < 59 ∨ 140 ≤ p.2.2) ∧ (p.2.2 < 146 ∨ 187 ≤ p.2.2) := by decide +kernel
theorem EVq.setI (h : EVq c E g) {f o k : Nat} (hm : (f, o, k) ∈ plnT) (v : Int32) : EVq (uI c f (E + o) v) E (wr g k v) := by
  have pk := pln_k _ hm
  dsimp only at pk
  obtain ⟨⟨k1, k2, k3, k4⟩, k5, k6, k7, k8, k9⟩ := pk
  have hw : ∀ k, k < 8 → wpi k < 8 := by decide +kernel
  refine EVq_mk (fun q hq => ?_) ?_ ?_ ?_ ?_ ?_ ?_ ?_ ?_
  · have e9 := pln_i _ hm q hq
    dsimp only at e9
    rw [gI_uI]
    by_cases e : q.2.2 = k
    · have z := e9.mpr e
      rw [if_pos ⟨z.1, by rw [z.2]⟩, e, wr_s]
    · rw [if_neg (fun z => e (e9.mp ⟨z.1, by have := z.2; omega⟩)), wr_o _ e]; exact h.i q hq
  · rw [gI_uI, if_neg (fun z => k1 z.1.symm), wr_o _ (by omega)]; exact h.w
  · rw [gI_uI, if_neg (fun z => k2 z.1.symm), wr_o _ (by omega)]; exact h.h
  · rw [gI_uI, if_neg (fun z => k3 z.1.symm), wr_o _ (by omega), wr_o _ (by omega), wr_o _ (by omega)]; exact h.r
  · intro j hj hj2
    rw [wr_o _ (by omega)] at hj2
    rw [wr_o _ (by omega)]; exact h.p j hj hj2
  · intro j hj
    rw [wr_o _ (by omega)]; exact h.b j hj
  · exact TR.congr (TR.fr h.t (by rw [gI_uI, if_neg (fun z => by omega)]) (by rw [gI_uI, if_neg (fun z => by omega)]) (by rw [gI_uI, if_neg (fun z => by omega)]) rfl) (fun j hj => wr_o _ (by omega))
  · intro j hj
    rw [wr_o _ (by have := hw j hj; omega)]; exact h.f j hj
  · intro j hj
    rw [wr_o _ (by have := hw j hj; omega)]; exact h.s j hj
theorem EB.set (h : EB g) {k : Nat} (hk : k ≠ 55 ∧ k ≠ 56 ∧ k ≠ 57 ∧ k ≠ 59 ∧ k ≠ 0 ∧ k ≠ 1 ∧ k ≠ 189) (v : Int32) (h1 : lo k ≤ v.toInt) (h2 : v.toInt ≤ hi k) : EB (wr g k v) := by
  refine EB_mk (fun j hj => ?_) ?_ ?_ ?_
  · by_cases e : j = k
    · rw [e, wr_s]; exact ⟨h1, h2⟩
    · rw [wr_o _ e]; exact h.r j hj
  · rw [wr_o _ (Ne.symm hk.1), wr_o _ (Ne.symm hk.2.1)]; exact h.z
  · rw [wr_o _ (Ne.symm hk.2.2.1), wr_o _ (Ne.symm hk.2.1), wr_o _ (Ne.symm hk.2.2.2.1)]; exact h.o
  · rw [wr_o _ (Ne.symm hk.2.2.2.2.2.2), lgW_eq (wr_o _ (Ne.symm hk.2.2.2.2.1)) (wr_o _ (Ne.symm hk.2.2.2.2.2.1))]; exact h.x
theorem EB.setX (h : EB g) (v : Int32) (h1 : 0 ≤ v.toInt) (h2 : v.toInt ≤ 96 * (lgW g : Int)) : EB (wr g 189 v) := by
  have hW : lgW g ≤ 800 := by unfold lgW pgW pgH; split <;> split <;> (try split) <;> (try split) <;> omega
  refine EB_mk (fun j hj => ?_) ?_ ?_ ?_
  · by_cases e : j = 189
    · rw [e, wr_s]; exact ⟨h1, by show v.toInt ≤ 76800; omega⟩
    · rw [wr_o _ e]; exact h.r j hj
  · rw [wr_o _ (by decide), wr_o _ (by decide)]; exact h.z
  · rw [wr_o _ (by decide), wr_o _ (by decide), wr_o _ (by decide)]; exact h.o
  · rw [wr_s, lgW_eq (wr_o _ (by decide)) (wr_o _ (by decide))]; exact h2
theorem iz_lh {v : Int32} {a b : Int} (h : a ≤ v.toInt ∧ v.toInt ≤ b) : ∃ z : Int, v = iz z ∧ a ≤ z ∧ z ≤ b := ⟨v.toInt, iz_of v, h.1, h.2⟩
theorem nI_lh1 {v : Int32} {b : Nat} (h : 1 ≤ v.toInt ∧ v.toInt ≤ (b : Int)) : ∃ n : Nat, v = nI n ∧ 1 ≤ n ∧ n ≤ b := ⟨v.toInt.toNat, by rw [nI_iz, show ((v.toInt.toNat : Nat) : Int) = v.toInt by omega]; exact iz_of v, by omega, by omega⟩
theorem nI_lh {v : Int32} {b : Nat} (h : 0 ≤ v.toInt ∧ v.toInt ≤ (b : Int)) : ∃ n : Nat, v = nI n ∧ n ≤ b := ⟨v.toInt.toNat, by rw [nI_iz, show ((v.toInt.toNat : Nat) : Int) = v.toInt by omega]; exact iz_of v, by omega⟩
theorem EB.k0 (h : EB g) : ∃ n : Nat, g 0 = nI n ∧ n ≤ 3 := nI_lh (h.r 0 (by decide))
theorem EB.k1 (h : EB g) : ∃ n : Nat, g 1 = nI n ∧ n ≤ 1 := nI_lh (h.r 1 (by decide))
theorem EB.k2 (h : EB g) : ∃ n : Nat, g 2 = nI n ∧ n ≤ 76800 := nI_lh (h.r 2 (by decide))
theorem EB.k3 (h : EB g) : ∃ n : Nat, g 3 = nI n ∧ n ≤ 76800 := nI_lh (h.r 3 (by decide))
theorem EB.k4 (h : EB g) : ∃ n : Nat, g 4 = nI n ∧ n ≤ 76800 := nI_lh (h.r 4 (by decide))
theorem EB.k5 (h : EB g) : ∃ n : Nat, g 5 = nI n ∧ n ≤ 76800 := nI_lh (h.r 5 (by decide))
theorem EB.k6 (h : EB g) : ∃ n : Nat, g 6 = nI n ∧ n ≤ 32000 := nI_lh (h.r 6 (by decide))
theorem EB.k7 (h : EB g) : ∃ n : Nat, g 7 = nI n ∧ n ≤ 32000 := nI_lh (h.r 7 (by decide))
theorem EB.k8 (h : EB g) : ∃ n : Nat, g 8 = nI n ∧ 1 ≤ n ∧ n ≤ 4 := nI_lh1 (h.r 8 (by decide))
theorem EB.k9 (h : EB g) : ∃ n : Nat, g 9 = nI n ∧ n ≤ 1 := nI_lh (h.r 9 (by decide))
theorem EB.k10 (h : EB g) : ∃ n : Nat, g 10 = nI n ∧ n ≤ 3 := nI_lh (h.r 10 (by decide))
theorem EB.k11 (h : EB g) : ∃ n : Nat, g 11 = nI n ∧ n ≤ 1 := nI_lh (h.r 11 (by decide))
theorem EB.k19 (h : EB g) : ∃ z : Int, g 19 = iz z ∧ -1 ≤ z ∧ z ≤ 16 := iz_lh (h.r 19 (by decide))
theorem EB.k27 (h : EB g) : ∃ z : Int, g 27 = iz z ∧ -1 ≤ z ∧ z ≤ 16 := iz_lh (h.r 27 (by decide))
theorem EB.k28 (h : EB g) : ∃ n : Nat, g 28 = nI n ∧ n ≤ 1 := nI_lh (h.r 28 (by decide))
theorem EB.k29 (h : EB g) : ∃ n : Nat, g 29 = nI n ∧ n ≤ 4 := nI_lh (h.r 29 (by decide))
theorem EB.k30 (h : EB g) : ∃ z : Int, g 30 = iz z ∧ -32767 ≤ z ∧ z ≤ 32767 := iz_lh (h.r 30 (by decide))
theorem EB.k49 (h : EB g) : ∃ n : Nat, g 49 = nI n ∧ n ≤ 1 := nI_lh (h.r 49 (by decide))
theorem EB.k50 (h : EB g) : ∃ n : Nat, g 50 = nI n ∧ n ≤ 1 := nI_lh (h.r 50 (by decide))
theorem EB.k51 (h : EB g) : ∃ n : Nat, g 51 = nI n ∧ n ≤ 800 := nI_lh (h.r 51 (by decide))
theorem EB.k52 (h : EB g) : ∃ n : Nat, g 52 = nI n ∧ n ≤ 800 := nI_lh (h.r 52 (by decide))
theorem EB.k53 (h : EB g) : ∃ n : Nat, g 53 = nI n ∧ 1 ≤ n ∧ n ≤ 4 := nI_lh1 (h.r 53 (by decide))
theorem EB.k54 (h : EB g) : ∃ n : Nat, g 54 = nI n ∧ n ≤ 3 := nI_lh (h.r 54 (by decide))
theorem EB.k55 (h : EB g) : ∃ z : Int, g 55 = iz z ∧ -1 ≤ z ∧ z ≤ 32767 := iz_lh (h.r 55 (by decide))
theorem EB.k56 (h : EB g) : ∃ z : Int, g 56 = iz z ∧ -1 ≤ z ∧ z ≤ 32767 := iz_lh (h.r 56 (by decide))
theorem EB.k57 (h : EB g) : ∃ n : Nat, g 57 = nI n ∧ n ≤ 1 := nI_lh (h.r 57 (by decide))
theorem EB.k58 (h : EB g) : ∃ n : Nat, g 58 = nI n ∧ n ≤ 800 := nI_lh (h.r 58 (by decide))
theorem EB.k140 (h : EB g) : ∃ n : Nat, g 140 = nI n ∧ n ≤ 32767 := nI_lh (h.r 140 (by decide))
theorem EB.k141 (h : EB g) : ∃ n : Nat, g 141 = nI n ∧ n ≤ 32767 := nI_lh (h.r 141 (by decide))
theorem EB.k142 (h : EB g) : ∃ n : Nat, g 142 = nI n ∧ n ≤ 15 := nI_lh (h.r 142 (by decide))
theorem EB.k143 (h : EB g) : ∃ n : Nat, g 143 = nI n ∧ n ≤ 255 := nI_lh (h.r 143 (by decide))
theorem EB.k144 (h : EB g) : ∃ z : Int, g 144 = iz z ∧ -32767 ≤ z ∧ z ≤ 32767 := iz_lh (h.r 144 (by decide))
theorem EB.k145 (h : EB g) : ∃ n : Nat, g 145 = nI n ∧ n ≤ 15 := nI_lh (h.r 145 (by decide))
theorem EB.k146 (h : EB g) : ∃ n : Nat, g 146 = nI n ∧ n ≤ 20 := nI_lh (h.r 146 (by decide))
theorem EB.k187 (h : EB g) : ∃ z : Int, g 187 = iz z ∧ -1 ≤ z ∧ z ≤ 15 := iz_lh (h.r 187 (by decide))
theorem EB.k188 (h : EB g) : ∃ n : Nat, g 188 = nI n ∧ n ≤ 32000 := nI_lh (h.r 188 (by decide))
theorem EB.k189 (h : EB g) : ∃ n : Nat, g 189 = nI n ∧ n ≤ 76800 := nI_lh (h.r 189 (by decide))
theorem EB.k190 (h : EB g) : ∃ n : Nat, g 190 = nI n ∧ n ≤ 76800 := nI_lh (h.r 190 (by decide))
theorem EB.wA (h : EB g) {k : Nat} (hk : k < 7) : ∃ z : Int, g (12 + k) = iz z ∧ -2000000 ≤ z ∧ z ≤ 2000000 := iz_lh (by have := h.r (12 + k) (by omega); rcases k with _ | _ | _ | _ | _ | _ | _ | k <;> first | exact this | omega)
theorem EB.wB (h : EB g) {k : Nat} (hk : k < 7) : ∃ z : Int, g (20 + k) = iz z ∧ -2000000 ≤ z ∧ z ≤ 2000000 := iz_lh (by have := h.r (20 + k) (by omega); rcases k with _ | _ | _ | _ | _ | _ | _ | k <;> first | exact this | omega)
theorem EB.kp (h : EB g) {k : Nat} (hk : k < 40) : ∃ n : Nat, g (147 + k) = nI n ∧ n ≤ 76800 := nI_lh (by have := h.r (147 + k) (by omega); have e : ∀ k, k < 40 → lo (147 + k) = 0 ∧ hi (147 + k) = 76800 := by decide +kernel
                                                                                                          rw [(e k hk).1, (e k hk).2] at this; exact this)
end A0
