/-! The memory by numbers: fields by field code and the object's number, rows by the array's number. -/
abbrev Mm : Type := (Nat → Nat → Int32) × (Nat → Nat → Int64) × (Nat → Nat → Option Nat) × (Nat → Nat → Int32) × (Nat → Nat → Int64)
def gI (T : Mm) : Nat → Nat → Int32 := T.1
def gJ (T : Mm) : Nat → Nat → Int64 := T.2.1
def gR (T : Mm) : Nat → Nat → Option Nat := T.2.2.1
def gA (T : Mm) : Nat → Nat → Int32 := T.2.2.2.1
def gB (T : Mm) : Nat → Nat → Int64 := T.2.2.2.2
def uI (T : Mm) (f i : Nat) (v : Int32) : Mm := (up2 (gI T) f i v, gJ T, gR T, gA T, gB T)
def uJ (T : Mm) (f i : Nat) (v : Int64) : Mm := (gI T, up2 (gJ T) f i v, gR T, gA T, gB T)
def uR (T : Mm) (f i : Nat) (v : Option Nat) : Mm := (gI T, gJ T, up2 (gR T) f i v, gA T, gB T)
def uA (T : Mm) (a j : Nat) (v : Int32) : Mm := (gI T, gJ T, gR T, up2 (gA T) a j v, gB T)
def uB (T : Mm) (a j : Nat) (v : Int64) : Mm := (gI T, gJ T, gR T, gA T, up2 (gB T) a j v)
def vA (T : Mm) (a : Nat) (g : Nat → Int32) : Mm := (gI T, gJ T, gR T, va_up (gA T) a g, gB T)
def vB (T : Mm) (a : Nat) (g : Nat → Int64) : Mm := (gI T, gJ T, gR T, gA T, va_up (gB T) a g)
theorem gI_uI (T : Mm) (f i : Nat) (v : Int32) (g j : Nat) : gI (uI T f i v) g j = if g = f ∧ j = i then v else gI T g j := rfl
theorem gJ_uJ (T : Mm) (f i : Nat) (v : Int64) (g j : Nat) : gJ (uJ T f i v) g j = if g = f ∧ j = i then v else gJ T g j := rfl
theorem gR_uR (T : Mm) (f i : Nat) (v : Option Nat) (g j : Nat) : gR (uR T f i v) g j = if g = f ∧ j = i then v else gR T g j := rfl
theorem gA_uA (T : Mm) (a i : Nat) (v : Int32) (b j : Nat) : gA (uA T a i v) b j = if b = a ∧ j = i then v else gA T b j := rfl
theorem gB_uB (T : Mm) (a i : Nat) (v : Int64) (b j : Nat) : gB (uB T a i v) b j = if b = a ∧ j = i then v else gB T b j := rfl
theorem gA_vA (T : Mm) (a : Nat) (g : Nat → Int32) (b j : Nat) : gA (vA T a g) b j = if b = a then g j else gA T b j := by show va_up (gA T) a g b j = _; unfold va_up; split <;> rfl
theorem gB_vB (T : Mm) (a : Nat) (g : Nat → Int64) (b j : Nat) : gB (vB T a g) b j = if b = a then g j else gB T b j := by show va_up (gB T) a g b j = _; unfold va_up; split <;> rfl
theorem gJ_uI (T : Mm) (f i : Nat) (v : Int32) : gJ (uI T f i v) = gJ T := rfl
theorem gR_uI (T : Mm) (f i : Nat) (v : Int32) : gR (uI T f i v) = gR T := rfl
theorem gA_uI (T : Mm) (f i : Nat) (v : Int32) : gA (uI T f i v) = gA T := rfl
theorem gB_uI (T : Mm) (f i : Nat) (v : Int32) : gB (uI T f i v) = gB T := rfl
theorem gI_uJ (T : Mm) (f i : Nat) (v : Int64) : gI (uJ T f i v) = gI T := rfl
theorem gR_uJ (T : Mm) (f i : Nat) (v : Int64) : gR (uJ T f i v) = gR T := rfl
theorem gA_uJ (T : Mm) (f i : Nat) (v : Int64) : gA (uJ T f i v) = gA T := rfl
theorem gB_uJ (T : Mm) (f i : Nat) (v : Int64) : gB (uJ T f i v) = gB T := rfl
theorem gI_uR (T : Mm) (f i : Nat) (v : Option Nat) : gI (uR T f i v) = gI T := rfl
theorem gJ_uR (T : Mm) (f i : Nat) (v : Option Nat) : gJ (uR T f i v) = gJ T := rfl
theorem gA_uR (T : Mm) (f i : Nat) (v : Option Nat) : gA (uR T f i v) = gA T := rfl
theorem gB_uR (T : Mm) (f i : Nat) (v : Option Nat) : gB (uR T f i v) = gB T := rfl
theorem gI_uA (T : Mm) (f i : Nat) (v : Int32) : gI (uA T f i v) = gI T := rfl
theorem gJ_uA (T : Mm) (f i : Nat) (v : Int32) : gJ (uA T f i v) = gJ T := rfl
theorem gR_uA (T : Mm) (f i : Nat) (v : Int32) : gR (uA T f i v) = gR T := rfl
theorem gB_uA (T : Mm) (f i : Nat) (v : Int32) : gB (uA T f i v) = gB T := rfl
theorem gI_uB (T : Mm) (f i : Nat) (v : Int64) : gI (uB T f i v) = gI T := rfl
theorem gJ_uB (T : Mm) (f i : Nat) (v : Int64) : gJ (uB T f i v) = gJ T := rfl
theorem gR_uB (T : Mm) (f i : Nat) (v : Int64) : gR (uB T f i v) = gR T := rfl
theorem gA_uB (T : Mm) (f i : Nat) (v : Int64) : gA (uB T f i v) = gA T := rfl
theorem gI_vA (T : Mm) (f : Nat) (v : Nat → Int32) : gI (vA T f v) = gI T := rfl
theorem gJ_vA (T : Mm) (f : Nat) (v : Nat → Int32) : gJ (vA T f v) = gJ T := rfl
theorem gR_vA (T : Mm) (f : Nat) (v : Nat → Int32) : gR (vA T f v) = gR T := rfl
theorem gB_vA (T : Mm) (f : Nat) (v : Nat → Int32) : gB (vA T f v) = gB T := rfl
theorem gI_vB (T : Mm) (f : Nat) (v : Nat → Int64) : gI (vB T f v) = gI T := rfl
theorem gJ_vB (T : Mm) (f : Nat) (v : Nat → Int64) : gJ (vB T f v) = gJ T := rfl
theorem gR_vB (T : Mm) (f : Nat) (v : Nat → Int64) : gR (vB T f v) = gR T := rfl
theorem gA_vB (T : Mm) (f : Nat) (v : Nat → Int64) : gA (vB T f v) = gA T := rfl
/-! kinds of the objects of a side (true: the class; false: the reference), lengths -/
def kS (s : Bool) (i : Nat) : Nat := if (decide (i < 133)) = s then wkL.getD i 99 else 99
def lnL : List Nat := [0, 8000, 12000, 6, 7, 0, 60000, 12, 12, 13, 16000, 16000, 16000, 16000, 16000, 16000, 16000, 16000, 16000, 16000, 16000, 16000, 16000, 0, 0, 20000, 25, 0, 0, 16, 119, 4352, 400, 2470, 15808, 8, 0, 16, 16, 0, 16, 0, 16, 24000, 16, 0, 0, 40, 0, 20, 0, 16, 8, 8, 0, 0, 40, 0, 20, 0, 16, 8, 8, 3, 4, 12, 0, 16, 0, 16, 0, 16, 0, 16, 0, 16, 0, 16, 0, 16, 0, 16, 0, 16, 0, 16, 0, 16, 0, 16, 0, 16, 0, 16, 0, 16, 0, 16, 0, 0, 40, 0, 20, 0, 16, 8, 8, 0, 0, 40, 0, 20, 0, 16, 8, 8, 0, 0, 40, 0, 20, 0, 16, 8, 8, 0, 0, 0, 0, 0, 12, 12000, 16384, 0, 192, 960, 17, 17, 119, 4096, 400, 2000, 12800, 16, 16, 16, 16, 256, 16, 16, 16, 24000, 12000, 7, 6, 8000, 6000, 64000, 768000, 12, 12, 60008, 12, 20, 17, 148, 148, 640, 640, 12, 400, 400, 40, 40]
def LN (i : Nat) : Nat := lnL.getD i 0
set_option maxRecDepth 10000 in
theorem wkL_len : wkL.length = 174 := by decide +kernel
theorem kS_lt {s : Bool} {i k : Nat} (h : kS s i = k) (hk : k ≠ 99) : i < 174 := by
  refine Classical.byContradiction fun q => hk ?_
  have : wkL.getD i 99 = 99 := by rw [List.getD_eq_getElem?_getD, List.getElem?_eq_none (by rw [wkL_len]; omega)]; rfl
  rw [← h]; unfold kS; rw [this]; split <;> rfl
theorem kS_get {s : Bool} {i k : Nat} (h : kS s i = k) (hk : k ≠ 99) : wkL[i]? = some k := by
  have hi := kS_lt h hk
  rw [← wkL_len] at hi
  unfold kS at h
  split at h
  · rw [List.getD_eq_getElem?_getD, List.getElem?_eq_getElem hi] at h
    rw [List.getElem?_eq_getElem hi, ← h]; rfl
  · exact absurd h.symm hk
theorem kS_side {s : Bool} {i j k l : Nat} (h : kS s i = k) (hk : k ≠ 99) (h2 : kS (!s) j = l) (hl : l ≠ 99) : i ≠ j := by
  rintro rfl
  unfold kS at h h2
  by_cases q : decide (i < 133) = s
  · rw [if_neg (by rw [q]; cases s <;> decide)] at h2; exact hl h2.symm
  · rw [if_neg q] at h; exact hk h.symm
theorem ln_in : ∀ i, i < 174 → 13 ≤ wkL.getD i 99 → (i, LN i) ∈ wnL := by decide +kernel
/-- byte rows hold bytes -/
def byt (v : Int32) : Prop := fits .byte (.int v) = true
def Vl (ad : Nat → Nat) (s : Bool) (S : Hp) (T : Mm) : Prop := ∀ i, kS s i ≠ 99 → (∀ f, hI S f (ad i) = gI T f i) ∧ (∀ f, hJ S f (ad i) = gJ T f i) ∧ (∀ f j, gR T f i = some j → hR S f (ad i) = some (ad j)) ∧ (∀ j, aI S (ad i) j = gA T i j) ∧ (∀ j, aJ S (ad i) j = gB T i j) ∧ (kS s i = 13 → ∀ j, byt (gA T i j))
def Rep (ad : Nat → Nat) (s : Bool) (S : Hp) (T U : Mm) : Prop := Wd ad S ∧ Vl ad s S T ∧ Vl ad (!s) S U
theorem Rep.swap {ad : Nat → Nat} {s : Bool} {S : Hp} {T U : Mm} (h : Rep ad s S T U) : Rep ad (!s) S U T := ⟨h.1, h.2.2, by rw [Bool.not_not]; exact h.2.1⟩
section RP
variable {ad : Nat → Nat} {s : Bool} {S : Hp} {T U : Mm}
theorem Rep.mem (h : Rep ad s S T U) {i k : Nat} (hk : kS s i = k) (hn : k ≠ 99) : ad i ∈ hL S := (h.1.1 i k (kS_get hk hn)).1
theorem Rep.kd (h : Rep ad s S T U) {i k : Nat} (hk : kS s i = k) (hn : k ≠ 99) : hK S (ad i) = k := (h.1.1 i k (kS_get hk hn)).2
theorem kS_wk {i k : Nat} (hk : kS s i = k) (hn : k ≠ 99) : wkL.getD i 99 = k := by rw [List.getD_eq_getElem?_getD, kS_get hk hn]; rfl
theorem Rep.ln (h : Rep ad s S T U) {i k : Nat} (hk : kS s i = k) (hn : k ≠ 99) (h13 : 13 ≤ k) : hN S (ad i) = LN i := h.1.2.1 _ (ln_in i (kS_lt hk hn) (by rw [kS_wk hk hn]; exact h13))
theorem Rep.inj (h : Rep ad s S T U) {i j k l : Nat} {s' : Bool} (hk : kS s i = k) (hn : k ≠ 99) (hl : kS s' j = l) (hm : l ≠ 99) : ad j = ad i ↔ j = i := ⟨fun e => h.1.2.2.2.2 j i (kS_lt hl hm) (kS_lt hk hn) e, fun e => by rw [e]⟩
theorem Rep.ne (h : Rep ad s S T U) {i j k l : Nat} (hk : kS s i = k) (hn : k ≠ 99) (hl : kS (!s) j = l) (hm : l ≠ 99) : ¬ ad j = ad i := fun e => (kS_side hk hn hl hm) ((h.inj hk hn hl hm).mp e).symm
theorem Rep.uI (h : Rep ad s S T U) {i k : Nat} (hk : kS s i = k) (hn : k ≠ 99) (f : Nat) (v : Int32) : Rep ad s (sI S f (ad i) v) (uI T f i v) U := by
  refine ⟨Wd.sI h.1, fun j hj => ?_, fun j hj => ?_⟩
  · obtain ⟨a1, a2, a3, a4, a5, a6⟩ := h.2.1 j hj
    have e9 := h.inj (j := j) hk hn rfl hj
    refine ⟨fun g => by rw [hI_sI, gI_uI]; simp only [e9, a1], a2, a3, a4, a5, a6⟩
  · obtain ⟨a1, a2, a3, a4, a5, a6⟩ := h.2.2 j hj
    have e9 := h.ne (j := j) hk hn rfl hj
    refine ⟨fun g => by rw [hI_sI, if_neg (fun q => e9 q.2)]; exact a1 g, a2, a3, a4, a5, a6⟩
theorem Rep.uJ (h : Rep ad s S T U) {i k : Nat} (hk : kS s i = k) (hn : k ≠ 99) (f : Nat) (v : Int64) : Rep ad s (sJ S f (ad i) v) (uJ T f i v) U := by
  refine ⟨Wd.sJ h.1, fun j hj => ?_, fun j hj => ?_⟩
  · obtain ⟨a1, a2, a3, a4, a5, a6⟩ := h.2.1 j hj
    have e9 := h.inj (j := j) hk hn rfl hj
    refine ⟨a1, fun g => by rw [hJ_sJ, gJ_uJ]; simp only [e9, a2], a3, a4, a5, a6⟩
  · obtain ⟨a1, a2, a3, a4, a5, a6⟩ := h.2.2 j hj
    have e9 := h.ne (j := j) hk hn rfl hj
    refine ⟨a1, fun g => by rw [hJ_sJ, if_neg (fun q => e9 q.2)]; exact a2 g, a3, a4, a5, a6⟩
theorem uR_aux {f g j i m n : Nat} (e9 : ad j = ad i ↔ j = i) (a3 : gR T g j = some n → hR S g (ad j) = some (ad n)) (hg : gR (uR T f i (some m)) g j = some n) : hR (sR S f (ad i) (some (ad m))) g (ad j) = some (ad n) := by
  rw [gR_uR] at hg
  rw [hR_sR]
  by_cases c : g = f ∧ j = i
  · rw [if_pos c] at hg; cases hg; rw [if_pos ⟨c.1, e9.mpr c.2⟩]
  · rw [if_neg c] at hg; rw [if_neg (fun q => c ⟨q.1, e9.mp q.2⟩)]; exact a3 hg
theorem Rep.uR (h : Rep ad s S T U) {i k : Nat} (hk : kS s i = k) (hn : k ≠ 99) {f m : Nat} (hf : f = 913 ∨ f = 10 ∨ f = 500 ∨ f = 301 ∨ f = 1226) : Rep ad s (sR S f (ad i) (some (ad m))) (uR T f i (some m)) U := by
  refine ⟨Wd.sR h.1 hf, fun j hj => ?_, fun j hj => ?_⟩
  · obtain ⟨a1, a2, a3, a4, a5, a6⟩ := h.2.1 j hj
    have e9 := h.inj (j := j) hk hn rfl hj
    refine ⟨a1, a2, fun g n hg => uR_aux e9 (a3 g n) hg, a4, a5, a6⟩
  · obtain ⟨a1, a2, a3, a4, a5, a6⟩ := h.2.2 j hj
    have e9 := h.ne (j := j) hk hn rfl hj
    refine ⟨a1, a2, fun g n hg => by rw [hR_sR, if_neg (fun q => e9 q.2)]; exact a3 g n hg, a4, a5, a6⟩
theorem Rep.uA (h : Rep ad s S T U) {i k : Nat} (hk : kS s i = k) (hn : k ≠ 99) (m : Nat) (v : Int32) (hb : k = 13 → byt v) : Rep ad s (tI S (ad i) m v) (uA T i m v) U := by
  refine ⟨Wd.tI h.1, fun j hj => ?_, fun j hj => ?_⟩
  · obtain ⟨a1, a2, a3, a4, a5, a6⟩ := h.2.1 j hj
    have e9 := h.inj (j := j) hk hn rfl hj
    refine ⟨a1, a2, a3, fun g => by rw [aI_tI, gA_uA]; simp only [e9, a4], a5, fun c g => by
                                rw [gA_uA]; split
                                · rename_i e8; exact hb (by rw [← hk, ← e8.1]; exact c)
                                · exact a6 c g⟩
  · obtain ⟨a1, a2, a3, a4, a5, a6⟩ := h.2.2 j hj
    have e9 := h.ne (j := j) hk hn rfl hj
    refine ⟨a1, a2, a3, fun g => by rw [aI_tI, if_neg (fun q => e9 q.1)]; exact a4 g, a5, a6⟩
theorem Rep.uB (h : Rep ad s S T U) {i k : Nat} (hk : kS s i = k) (hn : k ≠ 99) (m : Nat) (v : Int64) : Rep ad s (tJ S (ad i) m v) (uB T i m v) U := by
  refine ⟨Wd.tJ h.1, fun j hj => ?_, fun j hj => ?_⟩
  · obtain ⟨a1, a2, a3, a4, a5, a6⟩ := h.2.1 j hj
    have e9 := h.inj (j := j) hk hn rfl hj
    refine ⟨a1, a2, a3, a4, fun g => by rw [aJ_tJ, gB_uB]; simp only [e9, a5], a6⟩
  · obtain ⟨a1, a2, a3, a4, a5, a6⟩ := h.2.2 j hj
    have e9 := h.ne (j := j) hk hn rfl hj
    refine ⟨a1, a2, a3, a4, fun g => by rw [aJ_tJ, if_neg (fun q => e9 q.1)]; exact a5 g, a6⟩
theorem Rep.vA (h : Rep ad s S T U) {i k : Nat} (hk : kS s i = k) (hn : k ≠ 99) (g : Nat → Int32) (hb : k = 13 → ∀ j, byt (g j)) : Rep ad s (rI S (ad i) g) (vA T i g) U := by
  refine ⟨Wd.rI h.1, fun j hj => ?_, fun j hj => ?_⟩
  · obtain ⟨a1, a2, a3, a4, a5, a6⟩ := h.2.1 j hj
    have e9 := h.inj (j := j) hk hn rfl hj
    refine ⟨a1, a2, a3, fun m => by rw [aI_rI, gA_vA]; simp only [e9, a4], a5, fun c m => by
                                rw [gA_vA]; split
                                · rename_i e8; exact hb (by rw [← hk, ← e8]; exact c) m
                                · exact a6 c m⟩
  · obtain ⟨a1, a2, a3, a4, a5, a6⟩ := h.2.2 j hj
    have e9 := h.ne (j := j) hk hn rfl hj
    refine ⟨a1, a2, a3, fun m => by rw [aI_rI, if_neg e9]; exact a4 m, a5, a6⟩
/-- a row of longs is written whole -/
def rJ (S : Hp) (a : Nat) (f : Nat → Int64) : Hp := (hL S, hK S, hI S, hJ S, hR S, hN S, aI S, va_up (aJ S) a f, aR S)
theorem aJ_rJ (S : Hp) (a : Nat) (f : Nat → Int64) (x b : Nat) : aJ (rJ S a f) x b = if x = a then f b else aJ S x b := by show va_up (aJ S) a f x b = _; unfold va_up; split <;> rfl
theorem pf_rJ {cy : Nat → ClassId} {S : Hp} {a : Nat} (h : hK S a = 15) (f : Nat → Int64) (b : Nat) : va_up (pf cy S) a (.inl (cy 15, hN S a, .inr (.inl f))) b = pf cy (rJ S a f) b := by
  by_cases e : b = a
  · subst e
    rw [va_up_self, pf_J (by exact h)]
    refine congrArg (fun f => (Sum.inl (cy 15, hN S b, Sum.inr (Sum.inl f)) : va_E)) (funext fun i => ?_)
    simp [aJ_rJ]
  · rw [va_up_ne _ _ e]
    have : aJ (rJ S a f) b = aJ S b := funext fun i => by simp [aJ_rJ, e]
    exact pf_off rfl rfl (fun _ => rfl) (fun _ => rfl) (fun _ => rfl) rfl this rfl
theorem Wd.rJ {a : Nat} {v : Nat → Int64} (W : Wd ad S) : Wd ad (rJ S a v) := W
theorem Rep.vB (h : Rep ad s S T U) {i k : Nat} (hk : kS s i = k) (hn : k ≠ 99) (g : Nat → Int64) : Rep ad s (rJ S (ad i) g) (vB T i g) U := by
  refine ⟨Wd.rJ h.1, fun j hj => ?_, fun j hj => ?_⟩
  · obtain ⟨a1, a2, a3, a4, a5, a6⟩ := h.2.1 j hj
    have e9 := h.inj (j := j) hk hn rfl hj
    refine ⟨a1, a2, a3, a4, fun m => by rw [aJ_rJ, gB_vB]; simp only [e9, a5], a6⟩
  · obtain ⟨a1, a2, a3, a4, a5, a6⟩ := h.2.2 j hj
    have e9 := h.ne (j := j) hk hn rfl hj
    refine ⟨a1, a2, a3, a4, fun m => by rw [aJ_rJ, if_neg e9]; exact a5 m, a6⟩
theorem Rep.vi (h : Rep ad s S T U) {i k : Nat} (hk : kS s i = k) (hn : k ≠ 99) (f : Nat) : hI S f (ad i) = gI T f i := (h.2.1 i (by rw [hk]; exact hn)).1 f
theorem Rep.vj (h : Rep ad s S T U) {i k : Nat} (hk : kS s i = k) (hn : k ≠ 99) (f : Nat) : hJ S f (ad i) = gJ T f i := (h.2.1 i (by rw [hk]; exact hn)).2.1 f
theorem Rep.vr (h : Rep ad s S T U) {i k f j : Nat} (hk : kS s i = k) (hn : k ≠ 99) (hf : gR T f i = some j) : hR S f (ad i) = some (ad j) := (h.2.1 i (by rw [hk]; exact hn)).2.2.1 f j hf
theorem Rep.va (h : Rep ad s S T U) {i k : Nat} (hk : kS s i = k) (hn : k ≠ 99) (j : Nat) : aI S (ad i) j = gA T i j := (h.2.1 i (by rw [hk]; exact hn)).2.2.2.1 j
theorem Rep.vb (h : Rep ad s S T U) {i k : Nat} (hk : kS s i = k) (hn : k ≠ 99) (j : Nat) : aJ S (ad i) j = gB T i j := (h.2.1 i (by rw [hk]; exact hn)).2.2.2.2.1 j
theorem Rep.by (h : Rep ad s S T U) {i : Nat} (hk : kS s i = 13) (j : Nat) : byt (gA T i j) := (h.2.1 i (by rw [hk]; decide)).2.2.2.2.2 hk j
end RP
/-! pointers that stay -/
theorem all_lt {n : Nat} {p : Nat → Bool} (h : (List.range n).all p = true) {i : Nat} (hi : i < n) : p i = true := List.all_eq_true.mp h i (List.mem_range.mpr hi)
theorem pt_0_ (i : Nat) (hi : i < 174) (hk : kS true i = 0) : (0, i, 25) ∈ wpL ∧ kS true 25 = 14 ∧ LN 25 = 20000 := by
  have h := all_lt (p := fun i => !(kS true i == 0) || (wpL.contains (0, i, 25) && kS true 25 == 14 && LN 25 == 20000)) (by decide +kernel) hi
  simp [hk] at h
  simpa [and_assoc] using h
theorem pt_0 {i : Nat} (h : kS true i = 0) {ad : Nat → Nat} {S : Hp} (W : Wd ad S) : hR S 0 (ad i) = some (ad 25) := W.2.2.1 _ (pt_0_ i (kS_lt h (by decide)) h).1
theorem pk_0 {i : Nat} (h : kS true i = 0) : kS true 25 = 14 := (pt_0_ i (kS_lt h (by decide)) h).2.1
theorem pl_0 {i : Nat} (h : kS true i = 0) : LN 25 = 20000 := (pt_0_ i (kS_lt h (by decide)) h).2.2
theorem pt_1_ (i : Nat) (hi : i < 174) (hk : kS true i = 0) : (1, i, 26) ∈ wpL ∧ kS true 26 = 14 ∧ LN 26 = 25 := by
  have h := all_lt (p := fun i => !(kS true i == 0) || (wpL.contains (1, i, 26) && kS true 26 == 14 && LN 26 == 25)) (by decide +kernel) hi
  simp [hk] at h
  simpa [and_assoc] using h
theorem pt_1 {i : Nat} (h : kS true i = 0) {ad : Nat → Nat} {S : Hp} (W : Wd ad S) : hR S 1 (ad i) = some (ad 26) := W.2.2.1 _ (pt_1_ i (kS_lt h (by decide)) h).1
theorem pk_1 {i : Nat} (h : kS true i = 0) : kS true 26 = 14 := (pt_1_ i (kS_lt h (by decide)) h).2.1
theorem pl_1 {i : Nat} (h : kS true i = 0) : LN 26 = 25 := (pt_1_ i (kS_lt h (by decide)) h).2.2
theorem pt_100_ (i : Nat) (hi : i < 174) (hk : kS true i = 1) : (100, i, (i + 1)) ∈ wpL ∧ kS true (i + 1) = 7 := by
  have h := all_lt (p := fun i => !(kS true i == 1) || (wpL.contains (100, i, (i + 1)) && kS true (i + 1) == 7)) (by decide +kernel) hi
  simp [hk] at h
  simpa [and_assoc] using h
theorem pt_100 {i : Nat} (h : kS true i = 1) {ad : Nat → Nat} {S : Hp} (W : Wd ad S) : hR S 100 (ad i) = some (ad (i + 1)) := W.2.2.1 _ (pt_100_ i (kS_lt h (by decide)) h).1
theorem pk_100 {i : Nat} (h : kS true i = 1) : kS true (i + 1) = 7 := (pt_100_ i (kS_lt h (by decide)) h).2
theorem pt_101_ (i : Nat) (hi : i < 174) (hk : kS true i = 1) : (101, i, (i + 3)) ∈ wpL ∧ kS true (i + 3) = 4 := by
  have h := all_lt (p := fun i => !(kS true i == 1) || (wpL.contains (101, i, (i + 3)) && kS true (i + 3) == 4)) (by decide +kernel) hi
  simp [hk] at h
  simpa [and_assoc] using h
theorem pt_101 {i : Nat} (h : kS true i = 1) {ad : Nat → Nat} {S : Hp} (W : Wd ad S) : hR S 101 (ad i) = some (ad (i + 3)) := W.2.2.1 _ (pt_101_ i (kS_lt h (by decide)) h).1
theorem pk_101 {i : Nat} (h : kS true i = 1) : kS true (i + 3) = 4 := (pt_101_ i (kS_lt h (by decide)) h).2
theorem pt_102_ (i : Nat) (hi : i < 174) (hk : kS true i = 1) : (102, i, (i + 5)) ∈ wpL ∧ kS true (i + 5) = 10 := by
  have h := all_lt (p := fun i => !(kS true i == 1) || (wpL.contains (102, i, (i + 5)) && kS true (i + 5) == 10)) (by decide +kernel) hi
  simp [hk] at h
  simpa [and_assoc] using h
theorem pt_102 {i : Nat} (h : kS true i = 1) {ad : Nat → Nat} {S : Hp} (W : Wd ad S) : hR S 102 (ad i) = some (ad (i + 5)) := W.2.2.1 _ (pt_102_ i (kS_lt h (by decide)) h).1
theorem pk_102 {i : Nat} (h : kS true i = 1) : kS true (i + 5) = 10 := (pt_102_ i (kS_lt h (by decide)) h).2
theorem pt_103_ (i : Nat) (hi : i < 174) (hk : kS true i = 1) : (103, i, (i + 7)) ∈ wpL ∧ kS true (i + 7) = 14 ∧ LN (i + 7) = 8 := by
  have h := all_lt (p := fun i => !(kS true i == 1) || (wpL.contains (103, i, (i + 7)) && kS true (i + 7) == 14 && LN (i + 7) == 8)) (by decide +kernel) hi
  simp [hk] at h
  simpa [and_assoc] using h
theorem pt_103 {i : Nat} (h : kS true i = 1) {ad : Nat → Nat} {S : Hp} (W : Wd ad S) : hR S 103 (ad i) = some (ad (i + 7)) := W.2.2.1 _ (pt_103_ i (kS_lt h (by decide)) h).1
theorem pk_103 {i : Nat} (h : kS true i = 1) : kS true (i + 7) = 14 := (pt_103_ i (kS_lt h (by decide)) h).2.1
theorem pl_103 {i : Nat} (h : kS true i = 1) : LN (i + 7) = 8 := (pt_103_ i (kS_lt h (by decide)) h).2.2
theorem pt_104_ (i : Nat) (hi : i < 174) (hk : kS true i = 1) : (104, i, (i + 8)) ∈ wpL ∧ kS true (i + 8) = 14 ∧ LN (i + 8) = 8 := by
  have h := all_lt (p := fun i => !(kS true i == 1) || (wpL.contains (104, i, (i + 8)) && kS true (i + 8) == 14 && LN (i + 8) == 8)) (by decide +kernel) hi
  simp [hk] at h
  simpa [and_assoc] using h
theorem pt_104 {i : Nat} (h : kS true i = 1) {ad : Nat → Nat} {S : Hp} (W : Wd ad S) : hR S 104 (ad i) = some (ad (i + 8)) := W.2.2.1 _ (pt_104_ i (kS_lt h (by decide)) h).1
theorem pk_104 {i : Nat} (h : kS true i = 1) : kS true (i + 8) = 14 := (pt_104_ i (kS_lt h (by decide)) h).2.1
theorem pl_104 {i : Nat} (h : kS true i = 1) : LN (i + 8) = 8 := (pt_104_ i (kS_lt h (by decide)) h).2.2
theorem pt_200_ (i : Nat) (hi : i < 174) (hk : kS true i = 2) : (200, i, 28) ∈ wpL ∧ kS true 28 = 8 := by
  have h := all_lt (p := fun i => !(kS true i == 2) || (wpL.contains (200, i, 28) && kS true 28 == 8)) (by decide +kernel) hi
  simp [hk] at h
  simpa [and_assoc] using h
theorem pt_200 {i : Nat} (h : kS true i = 2) {ad : Nat → Nat} {S : Hp} (W : Wd ad S) : hR S 200 (ad i) = some (ad 28) := W.2.2.1 _ (pt_200_ i (kS_lt h (by decide)) h).1
theorem pk_200 {i : Nat} (h : kS true i = 2) : kS true 28 = 8 := (pt_200_ i (kS_lt h (by decide)) h).2
theorem pt_201_ (i : Nat) (hi : i < 174) (hk : kS true i = 2) : (201, i, 30) ∈ wpL ∧ kS true 30 = 14 ∧ LN 30 = 119 := by
  have h := all_lt (p := fun i => !(kS true i == 2) || (wpL.contains (201, i, 30) && kS true 30 == 14 && LN 30 == 119)) (by decide +kernel) hi
  simp [hk] at h
  simpa [and_assoc] using h
theorem pt_201 {i : Nat} (h : kS true i = 2) {ad : Nat → Nat} {S : Hp} (W : Wd ad S) : hR S 201 (ad i) = some (ad 30) := W.2.2.1 _ (pt_201_ i (kS_lt h (by decide)) h).1
theorem pk_201 {i : Nat} (h : kS true i = 2) : kS true 30 = 14 := (pt_201_ i (kS_lt h (by decide)) h).2.1
theorem pl_201 {i : Nat} (h : kS true i = 2) : LN 30 = 119 := (pt_201_ i (kS_lt h (by decide)) h).2.2
theorem pt_202_ (i : Nat) (hi : i < 174) (hk : kS true i = 2) : (202, i, 31) ∈ wpL ∧ kS true 31 = 14 ∧ LN 31 = 4352 := by
  have h := all_lt (p := fun i => !(kS true i == 2) || (wpL.contains (202, i, 31) && kS true 31 == 14 && LN 31 == 4352)) (by decide +kernel) hi
  simp [hk] at h
  simpa [and_assoc] using h
theorem pt_202 {i : Nat} (h : kS true i = 2) {ad : Nat → Nat} {S : Hp} (W : Wd ad S) : hR S 202 (ad i) = some (ad 31) := W.2.2.1 _ (pt_202_ i (kS_lt h (by decide)) h).1
theorem pk_202 {i : Nat} (h : kS true i = 2) : kS true 31 = 14 := (pt_202_ i (kS_lt h (by decide)) h).2.1
theorem pl_202 {i : Nat} (h : kS true i = 2) : LN 31 = 4352 := (pt_202_ i (kS_lt h (by decide)) h).2.2
theorem pt_203_ (i : Nat) (hi : i < 174) (hk : kS true i = 2) : (203, i, 32) ∈ wpL ∧ kS true 32 = 17 ∧ LN 32 = 400 := by
  have h := all_lt (p := fun i => !(kS true i == 2) || (wpL.contains (203, i, 32) && kS true 32 == 17 && LN 32 == 400)) (by decide +kernel) hi
  simp [hk] at h
  simpa [and_assoc] using h
theorem pt_203 {i : Nat} (h : kS true i = 2) {ad : Nat → Nat} {S : Hp} (W : Wd ad S) : hR S 203 (ad i) = some (ad 32) := W.2.2.1 _ (pt_203_ i (kS_lt h (by decide)) h).1
theorem pk_203 {i : Nat} (h : kS true i = 2) : kS true 32 = 17 := (pt_203_ i (kS_lt h (by decide)) h).2.1
theorem pl_203 {i : Nat} (h : kS true i = 2) : LN 32 = 400 := (pt_203_ i (kS_lt h (by decide)) h).2.2
theorem pt_204_ (i : Nat) (hi : i < 174) (hk : kS true i = 2) : (204, i, 33) ∈ wpL ∧ kS true 33 = 14 ∧ LN 33 = 2470 := by
  have h := all_lt (p := fun i => !(kS true i == 2) || (wpL.contains (204, i, 33) && kS true 33 == 14 && LN 33 == 2470)) (by decide +kernel) hi
  simp [hk] at h
  simpa [and_assoc] using h
theorem pt_204 {i : Nat} (h : kS true i = 2) {ad : Nat → Nat} {S : Hp} (W : Wd ad S) : hR S 204 (ad i) = some (ad 33) := W.2.2.1 _ (pt_204_ i (kS_lt h (by decide)) h).1
theorem pk_204 {i : Nat} (h : kS true i = 2) : kS true 33 = 14 := (pt_204_ i (kS_lt h (by decide)) h).2.1
theorem pl_204 {i : Nat} (h : kS true i = 2) : LN 33 = 2470 := (pt_204_ i (kS_lt h (by decide)) h).2.2
theorem pt_205_ (i : Nat) (hi : i < 174) (hk : kS true i = 2) : (205, i, 34) ∈ wpL ∧ kS true 34 = 14 ∧ LN 34 = 15808 := by
  have h := all_lt (p := fun i => !(kS true i == 2) || (wpL.contains (205, i, 34) && kS true 34 == 14 && LN 34 == 15808)) (by decide +kernel) hi
  simp [hk] at h
  simpa [and_assoc] using h
theorem pt_205 {i : Nat} (h : kS true i = 2) {ad : Nat → Nat} {S : Hp} (W : Wd ad S) : hR S 205 (ad i) = some (ad 34) := W.2.2.1 _ (pt_205_ i (kS_lt h (by decide)) h).1
theorem pk_205 {i : Nat} (h : kS true i = 2) : kS true 34 = 14 := (pt_205_ i (kS_lt h (by decide)) h).2.1
theorem pl_205 {i : Nat} (h : kS true i = 2) : LN 34 = 15808 := (pt_205_ i (kS_lt h (by decide)) h).2.2
theorem pt_207_ (i : Nat) (hi : i < 174) (hk : kS true i = 2) : (207, i, 35) ∈ wpL ∧ kS true 35 = 14 ∧ LN 35 = 8 := by
  have h := all_lt (p := fun i => !(kS true i == 2) || (wpL.contains (207, i, 35) && kS true 35 == 14 && LN 35 == 8)) (by decide +kernel) hi
  simp [hk] at h
  simpa [and_assoc] using h
theorem pt_207 {i : Nat} (h : kS true i = 2) {ad : Nat → Nat} {S : Hp} (W : Wd ad S) : hR S 207 (ad i) = some (ad 35) := W.2.2.1 _ (pt_207_ i (kS_lt h (by decide)) h).1
theorem pk_207 {i : Nat} (h : kS true i = 2) : kS true 35 = 14 := (pt_207_ i (kS_lt h (by decide)) h).2.1
theorem pl_207 {i : Nat} (h : kS true i = 2) : LN 35 = 8 := (pt_207_ i (kS_lt h (by decide)) h).2.2
theorem pt_300_ (i : Nat) (hi : i < 174) (hk : kS true i = 3) : (300, i, 5) ∈ wpL ∧ kS true 5 = 6 := by
  have h := all_lt (p := fun i => !(kS true i == 3) || (wpL.contains (300, i, 5) && kS true 5 == 6)) (by decide +kernel) hi
  simp [hk] at h
  simpa [and_assoc] using h
theorem pt_300 {i : Nat} (h : kS true i = 3) {ad : Nat → Nat} {S : Hp} (W : Wd ad S) : hR S 300 (ad i) = some (ad 5) := W.2.2.1 _ (pt_300_ i (kS_lt h (by decide)) h).1
theorem pk_300 {i : Nat} (h : kS true i = 3) : kS true 5 = 6 := (pt_300_ i (kS_lt h (by decide)) h).2
theorem pt_307_ (i : Nat) (hi : i < 174) (hk : kS true i = 3) : (307, i, 130) ∈ wpL ∧ kS true 130 = 15 ∧ LN 130 = 12 := by
  have h := all_lt (p := fun i => !(kS true i == 3) || (wpL.contains (307, i, 130) && kS true 130 == 15 && LN 130 == 12)) (by decide +kernel) hi
  simp [hk] at h
  simpa [and_assoc] using h
theorem pt_307 {i : Nat} (h : kS true i = 3) {ad : Nat → Nat} {S : Hp} (W : Wd ad S) : hR S 307 (ad i) = some (ad 130) := W.2.2.1 _ (pt_307_ i (kS_lt h (by decide)) h).1
theorem pk_307 {i : Nat} (h : kS true i = 3) : kS true 130 = 15 := (pt_307_ i (kS_lt h (by decide)) h).2.1
theorem pl_307 {i : Nat} (h : kS true i = 3) : LN 130 = 12 := (pt_307_ i (kS_lt h (by decide)) h).2.2
theorem pt_317_ (i : Nat) (hi : i < 174) (hk : kS true i = 3) : (317, i, 131) ∈ wpL ∧ kS true 131 = 13 ∧ LN 131 = 12000 := by
  have h := all_lt (p := fun i => !(kS true i == 3) || (wpL.contains (317, i, 131) && kS true 131 == 13 && LN 131 == 12000)) (by decide +kernel) hi
  simp [hk] at h
  simpa [and_assoc] using h
theorem pt_317 {i : Nat} (h : kS true i = 3) {ad : Nat → Nat} {S : Hp} (W : Wd ad S) : hR S 317 (ad i) = some (ad 131) := W.2.2.1 _ (pt_317_ i (kS_lt h (by decide)) h).1
theorem pk_317 {i : Nat} (h : kS true i = 3) : kS true 131 = 13 := (pt_317_ i (kS_lt h (by decide)) h).2.1
theorem pl_317 {i : Nat} (h : kS true i = 3) : LN 131 = 12000 := (pt_317_ i (kS_lt h (by decide)) h).2.2
theorem pt_320_ (i : Nat) (hi : i < 174) (hk : kS true i = 3) : (320, i, 132) ∈ wpL ∧ kS true 132 = 16 ∧ LN 132 = 16384 := by
  have h := all_lt (p := fun i => !(kS true i == 3) || (wpL.contains (320, i, 132) && kS true 132 == 16 && LN 132 == 16384)) (by decide +kernel) hi
  simp [hk] at h
  simpa [and_assoc] using h
theorem pt_320 {i : Nat} (h : kS true i = 3) {ad : Nat → Nat} {S : Hp} (W : Wd ad S) : hR S 320 (ad i) = some (ad 132) := W.2.2.1 _ (pt_320_ i (kS_lt h (by decide)) h).1
theorem pk_320 {i : Nat} (h : kS true i = 3) : kS true 132 = 16 := (pt_320_ i (kS_lt h (by decide)) h).2.1
theorem pl_320 {i : Nat} (h : kS true i = 3) : LN 132 = 16384 := (pt_320_ i (kS_lt h (by decide)) h).2.2
theorem pt_407_ (i : Nat) (hi : i < 174) (hk : kS true i = 4) : (407, i, (i + 1)) ∈ wpL ∧ kS true (i + 1) = 14 ∧ LN (i + 1) = 20 := by
  have h := all_lt (p := fun i => !(kS true i == 4) || (wpL.contains (407, i, (i + 1)) && kS true (i + 1) == 14 && LN (i + 1) == 20)) (by decide +kernel) hi
  simp [hk] at h
  simpa [and_assoc] using h
theorem pt_407 {i : Nat} (h : kS true i = 4) {ad : Nat → Nat} {S : Hp} (W : Wd ad S) : hR S 407 (ad i) = some (ad (i + 1)) := W.2.2.1 _ (pt_407_ i (kS_lt h (by decide)) h).1
theorem pk_407 {i : Nat} (h : kS true i = 4) : kS true (i + 1) = 14 := (pt_407_ i (kS_lt h (by decide)) h).2.1
theorem pl_407 {i : Nat} (h : kS true i = 4) : LN (i + 1) = 20 := (pt_407_ i (kS_lt h (by decide)) h).2.2
theorem pt_600_ (i : Nat) (hi : i < 174) (hk : kS true i = 6) : (600, i, 6) ∈ wpL ∧ kS true 6 = 13 ∧ LN 6 = 60000 := by
  have h := all_lt (p := fun i => !(kS true i == 6) || (wpL.contains (600, i, 6) && kS true 6 == 13 && LN 6 == 60000)) (by decide +kernel) hi
  simp [hk] at h
  simpa [and_assoc] using h
theorem pt_600 {i : Nat} (h : kS true i = 6) {ad : Nat → Nat} {S : Hp} (W : Wd ad S) : hR S 600 (ad i) = some (ad 6) := W.2.2.1 _ (pt_600_ i (kS_lt h (by decide)) h).1
theorem pk_600 {i : Nat} (h : kS true i = 6) : kS true 6 = 13 := (pt_600_ i (kS_lt h (by decide)) h).2.1
theorem pl_600 {i : Nat} (h : kS true i = 6) : LN 6 = 60000 := (pt_600_ i (kS_lt h (by decide)) h).2.2
theorem pt_604_ (i : Nat) (hi : i < 174) (hk : kS true i = 6) : (604, i, 7) ∈ wpL ∧ kS true 7 = 14 ∧ LN 7 = 12 := by
  have h := all_lt (p := fun i => !(kS true i == 6) || (wpL.contains (604, i, 7) && kS true 7 == 14 && LN 7 == 12)) (by decide +kernel) hi
  simp [hk] at h
  simpa [and_assoc] using h
theorem pt_604 {i : Nat} (h : kS true i = 6) {ad : Nat → Nat} {S : Hp} (W : Wd ad S) : hR S 604 (ad i) = some (ad 7) := W.2.2.1 _ (pt_604_ i (kS_lt h (by decide)) h).1
theorem pk_604 {i : Nat} (h : kS true i = 6) : kS true 7 = 14 := (pt_604_ i (kS_lt h (by decide)) h).2.1
theorem pl_604 {i : Nat} (h : kS true i = 6) : LN 7 = 12 := (pt_604_ i (kS_lt h (by decide)) h).2.2
theorem pt_605_ (i : Nat) (hi : i < 174) (hk : kS true i = 6) : (605, i, 8) ∈ wpL ∧ kS true 8 = 14 ∧ LN 8 = 12 := by
  have h := all_lt (p := fun i => !(kS true i == 6) || (wpL.contains (605, i, 8) && kS true 8 == 14 && LN 8 == 12)) (by decide +kernel) hi
  simp [hk] at h
  simpa [and_assoc] using h
theorem pt_605 {i : Nat} (h : kS true i = 6) {ad : Nat → Nat} {S : Hp} (W : Wd ad S) : hR S 605 (ad i) = some (ad 8) := W.2.2.1 _ (pt_605_ i (kS_lt h (by decide)) h).1
theorem pk_605 {i : Nat} (h : kS true i = 6) : kS true 8 = 14 := (pt_605_ i (kS_lt h (by decide)) h).2.1
theorem pl_605 {i : Nat} (h : kS true i = 6) : LN 8 = 12 := (pt_605_ i (kS_lt h (by decide)) h).2.2
theorem pt_606_ (i : Nat) (hi : i < 174) (hk : kS true i = 6) : (606, i, 9) ∈ wpL ∧ kS true 9 = 21 ∧ LN 9 = 13 := by
  have h := all_lt (p := fun i => !(kS true i == 6) || (wpL.contains (606, i, 9) && kS true 9 == 21 && LN 9 == 13)) (by decide +kernel) hi
  simp [hk] at h
  simpa [and_assoc] using h
theorem pt_606 {i : Nat} (h : kS true i = 6) {ad : Nat → Nat} {S : Hp} (W : Wd ad S) : hR S 606 (ad i) = some (ad 9) := W.2.2.1 _ (pt_606_ i (kS_lt h (by decide)) h).1
theorem pk_606 {i : Nat} (h : kS true i = 6) : kS true 9 = 21 := (pt_606_ i (kS_lt h (by decide)) h).2.1
theorem pl_606 {i : Nat} (h : kS true i = 6) : LN 9 = 13 := (pt_606_ i (kS_lt h (by decide)) h).2.2
theorem pt_712_ (i : Nat) (hi : i < 174) (hk : kS true i = 7) : (712, i, (i + 1)) ∈ wpL ∧ kS true (i + 1) = 14 ∧ LN (i + 1) = 40 := by
  have h := all_lt (p := fun i => !(kS true i == 7) || (wpL.contains (712, i, (i + 1)) && kS true (i + 1) == 14 && LN (i + 1) == 40)) (by decide +kernel) hi
  simp [hk] at h
  simpa [and_assoc] using h
theorem pt_712 {i : Nat} (h : kS true i = 7) {ad : Nat → Nat} {S : Hp} (W : Wd ad S) : hR S 712 (ad i) = some (ad (i + 1)) := W.2.2.1 _ (pt_712_ i (kS_lt h (by decide)) h).1
theorem pk_712 {i : Nat} (h : kS true i = 7) : kS true (i + 1) = 14 := (pt_712_ i (kS_lt h (by decide)) h).2.1
theorem pl_712 {i : Nat} (h : kS true i = 7) : LN (i + 1) = 40 := (pt_712_ i (kS_lt h (by decide)) h).2.2
theorem pt_800_ (i : Nat) (hi : i < 174) (hk : kS true i = 8) : (800, i, (i + 1)) ∈ wpL ∧ kS true (i + 1) = 14 ∧ LN (i + 1) = 16 := by
  have h := all_lt (p := fun i => !(kS true i == 8) || (wpL.contains (800, i, (i + 1)) && kS true (i + 1) == 14 && LN (i + 1) == 16)) (by decide +kernel) hi
  simp [hk] at h
  simpa [and_assoc] using h
theorem pt_800 {i : Nat} (h : kS true i = 8) {ad : Nat → Nat} {S : Hp} (W : Wd ad S) : hR S 800 (ad i) = some (ad (i + 1)) := W.2.2.1 _ (pt_800_ i (kS_lt h (by decide)) h).1
theorem pk_800 {i : Nat} (h : kS true i = 8) : kS true (i + 1) = 14 := (pt_800_ i (kS_lt h (by decide)) h).2.1
theorem pl_800 {i : Nat} (h : kS true i = 8) : LN (i + 1) = 16 := (pt_800_ i (kS_lt h (by decide)) h).2.2
theorem pt_900_ (i : Nat) (hi : i < 174) (hk : kS true i = 9) : (900, i, 5) ∈ wpL ∧ kS true 5 = 6 := by
  have h := all_lt (p := fun i => !(kS true i == 9) || (wpL.contains (900, i, 5) && kS true 5 == 6)) (by decide +kernel) hi
  simp [hk] at h
  simpa [and_assoc] using h
theorem pt_900 {i : Nat} (h : kS true i = 9) {ad : Nat → Nat} {S : Hp} (W : Wd ad S) : hR S 900 (ad i) = some (ad 5) := W.2.2.1 _ (pt_900_ i (kS_lt h (by decide)) h).1
theorem pk_900 {i : Nat} (h : kS true i = 9) : kS true 5 = 6 := (pt_900_ i (kS_lt h (by decide)) h).2
theorem pt_901_ (i : Nat) (hi : i < 174) (hk : kS true i = 9) : (901, i, 24) ∈ wpL ∧ kS true 24 = 0 := by
  have h := all_lt (p := fun i => !(kS true i == 9) || (wpL.contains (901, i, 24) && kS true 24 == 0)) (by decide +kernel) hi
  simp [hk] at h
  simpa [and_assoc] using h
theorem pt_901 {i : Nat} (h : kS true i = 9) {ad : Nat → Nat} {S : Hp} (W : Wd ad S) : hR S 901 (ad i) = some (ad 24) := W.2.2.1 _ (pt_901_ i (kS_lt h (by decide)) h).1
theorem pk_901 {i : Nat} (h : kS true i = 9) : kS true 24 = 0 := (pt_901_ i (kS_lt h (by decide)) h).2
theorem pt_902_ (i : Nat) (hi : i < 174) (hk : kS true i = 9) : (902, i, 27) ∈ wpL ∧ kS true 27 = 2 := by
  have h := all_lt (p := fun i => !(kS true i == 9) || (wpL.contains (902, i, 27) && kS true 27 == 2)) (by decide +kernel) hi
  simp [hk] at h
  simpa [and_assoc] using h
theorem pt_902 {i : Nat} (h : kS true i = 9) {ad : Nat → Nat} {S : Hp} (W : Wd ad S) : hR S 902 (ad i) = some (ad 27) := W.2.2.1 _ (pt_902_ i (kS_lt h (by decide)) h).1
theorem pk_902 {i : Nat} (h : kS true i = 9) : kS true 27 = 2 := (pt_902_ i (kS_lt h (by decide)) h).2
theorem pt_903_ (i : Nat) (hi : i < 174) (hk : kS true i = 9) : (903, i, 36) ∈ wpL ∧ kS true 36 = 8 := by
  have h := all_lt (p := fun i => !(kS true i == 9) || (wpL.contains (903, i, 36) && kS true 36 == 8)) (by decide +kernel) hi
  simp [hk] at h
  simpa [and_assoc] using h
theorem pt_903 {i : Nat} (h : kS true i = 9) {ad : Nat → Nat} {S : Hp} (W : Wd ad S) : hR S 903 (ad i) = some (ad 36) := W.2.2.1 _ (pt_903_ i (kS_lt h (by decide)) h).1
theorem pk_903 {i : Nat} (h : kS true i = 9) : kS true 36 = 8 := (pt_903_ i (kS_lt h (by decide)) h).2
theorem pt_904_ (i : Nat) (hi : i < 174) (hk : kS true i = 9) : (904, i, 38) ∈ wpL ∧ kS true 38 = 20 ∧ LN 38 = 16 := by
  have h := all_lt (p := fun i => !(kS true i == 9) || (wpL.contains (904, i, 38) && kS true 38 == 20 && LN 38 == 16)) (by decide +kernel) hi
  simp [hk] at h
  simpa [and_assoc] using h
theorem pt_904 {i : Nat} (h : kS true i = 9) {ad : Nat → Nat} {S : Hp} (W : Wd ad S) : hR S 904 (ad i) = some (ad 38) := W.2.2.1 _ (pt_904_ i (kS_lt h (by decide)) h).1
theorem pk_904 {i : Nat} (h : kS true i = 9) : kS true 38 = 20 := (pt_904_ i (kS_lt h (by decide)) h).2.1
theorem pl_904 {i : Nat} (h : kS true i = 9) : LN 38 = 16 := (pt_904_ i (kS_lt h (by decide)) h).2.2
theorem pt_905_ (i : Nat) (hi : i < 174) (hk : kS true i = 9) : (905, i, 39) ∈ wpL ∧ kS true 39 = 10 := by
  have h := all_lt (p := fun i => !(kS true i == 9) || (wpL.contains (905, i, 39) && kS true 39 == 10)) (by decide +kernel) hi
  simp [hk] at h
  simpa [and_assoc] using h
theorem pt_905 {i : Nat} (h : kS true i = 9) {ad : Nat → Nat} {S : Hp} (W : Wd ad S) : hR S 905 (ad i) = some (ad 39) := W.2.2.1 _ (pt_905_ i (kS_lt h (by decide)) h).1
theorem pk_905 {i : Nat} (h : kS true i = 9) : kS true 39 = 10 := (pt_905_ i (kS_lt h (by decide)) h).2
theorem pt_906_ (i : Nat) (hi : i < 174) (hk : kS true i = 9) : (906, i, 41) ∈ wpL ∧ kS true 41 = 8 := by
  have h := all_lt (p := fun i => !(kS true i == 9) || (wpL.contains (906, i, 41) && kS true 41 == 8)) (by decide +kernel) hi
  simp [hk] at h
  simpa [and_assoc] using h
theorem pt_906 {i : Nat} (h : kS true i = 9) {ad : Nat → Nat} {S : Hp} (W : Wd ad S) : hR S 906 (ad i) = some (ad 41) := W.2.2.1 _ (pt_906_ i (kS_lt h (by decide)) h).1
theorem pk_906 {i : Nat} (h : kS true i = 9) : kS true 41 = 8 := (pt_906_ i (kS_lt h (by decide)) h).2
theorem pt_907_ (i : Nat) (hi : i < 174) (hk : kS true i = 9) : (907, i, 43) ∈ wpL ∧ kS true 43 = 13 ∧ LN 43 = 24000 := by
  have h := all_lt (p := fun i => !(kS true i == 9) || (wpL.contains (907, i, 43) && kS true 43 == 13 && LN 43 == 24000)) (by decide +kernel) hi
  simp [hk] at h
  simpa [and_assoc] using h
theorem pt_907 {i : Nat} (h : kS true i = 9) {ad : Nat → Nat} {S : Hp} (W : Wd ad S) : hR S 907 (ad i) = some (ad 43) := W.2.2.1 _ (pt_907_ i (kS_lt h (by decide)) h).1
theorem pk_907 {i : Nat} (h : kS true i = 9) : kS true 43 = 13 := (pt_907_ i (kS_lt h (by decide)) h).2.1
theorem pl_907 {i : Nat} (h : kS true i = 9) : LN 43 = 24000 := (pt_907_ i (kS_lt h (by decide)) h).2.2
theorem pt_908_ (i : Nat) (hi : i < 174) (hk : kS true i = 9) : (908, i, 44) ∈ wpL ∧ kS true 44 = 14 ∧ LN 44 = 16 := by
  have h := all_lt (p := fun i => !(kS true i == 9) || (wpL.contains (908, i, 44) && kS true 44 == 14 && LN 44 == 16)) (by decide +kernel) hi
  simp [hk] at h
  simpa [and_assoc] using h
theorem pt_908 {i : Nat} (h : kS true i = 9) {ad : Nat → Nat} {S : Hp} (W : Wd ad S) : hR S 908 (ad i) = some (ad 44) := W.2.2.1 _ (pt_908_ i (kS_lt h (by decide)) h).1
theorem pk_908 {i : Nat} (h : kS true i = 9) : kS true 44 = 14 := (pt_908_ i (kS_lt h (by decide)) h).2.1
theorem pl_908 {i : Nat} (h : kS true i = 9) : LN 44 = 16 := (pt_908_ i (kS_lt h (by decide)) h).2.2
theorem pt_909_ (i : Nat) (hi : i < 174) (hk : kS true i = 9) : (909, i, 45) ∈ wpL ∧ kS true 45 = 1 := by
  have h := all_lt (p := fun i => !(kS true i == 9) || (wpL.contains (909, i, 45) && kS true 45 == 1)) (by decide +kernel) hi
  simp [hk] at h
  simpa [and_assoc] using h
theorem pt_909 {i : Nat} (h : kS true i = 9) {ad : Nat → Nat} {S : Hp} (W : Wd ad S) : hR S 909 (ad i) = some (ad 45) := W.2.2.1 _ (pt_909_ i (kS_lt h (by decide)) h).1
theorem pk_909 {i : Nat} (h : kS true i = 9) : kS true 45 = 1 := (pt_909_ i (kS_lt h (by decide)) h).2
theorem pt_910_ (i : Nat) (hi : i < 174) (hk : kS true i = 9) : (910, i, 54) ∈ wpL ∧ kS true 54 = 1 := by
  have h := all_lt (p := fun i => !(kS true i == 9) || (wpL.contains (910, i, 54) && kS true 54 == 1)) (by decide +kernel) hi
  simp [hk] at h
  simpa [and_assoc] using h
theorem pt_910 {i : Nat} (h : kS true i = 9) {ad : Nat → Nat} {S : Hp} (W : Wd ad S) : hR S 910 (ad i) = some (ad 54) := W.2.2.1 _ (pt_910_ i (kS_lt h (by decide)) h).1
theorem pk_910 {i : Nat} (h : kS true i = 9) : kS true 54 = 1 := (pt_910_ i (kS_lt h (by decide)) h).2
theorem pt_911_ (i : Nat) (hi : i < 174) (hk : kS true i = 9) : (911, i, 63) ∈ wpL ∧ kS true 63 = 18 ∧ LN 63 = 3 := by
  have h := all_lt (p := fun i => !(kS true i == 9) || (wpL.contains (911, i, 63) && kS true 63 == 18 && LN 63 == 3)) (by decide +kernel) hi
  simp [hk] at h
  simpa [and_assoc] using h
theorem pt_911 {i : Nat} (h : kS true i = 9) {ad : Nat → Nat} {S : Hp} (W : Wd ad S) : hR S 911 (ad i) = some (ad 63) := W.2.2.1 _ (pt_911_ i (kS_lt h (by decide)) h).1
theorem pk_911 {i : Nat} (h : kS true i = 9) : kS true 63 = 18 := (pt_911_ i (kS_lt h (by decide)) h).2.1
theorem pl_911 {i : Nat} (h : kS true i = 9) : LN 63 = 3 := (pt_911_ i (kS_lt h (by decide)) h).2.2
theorem pt_912_ (i : Nat) (hi : i < 174) (hk : kS true i = 9) : (912, i, 64) ∈ wpL ∧ kS true 64 = 19 ∧ LN 64 = 4 := by
  have h := all_lt (p := fun i => !(kS true i == 9) || (wpL.contains (912, i, 64) && kS true 64 == 19 && LN 64 == 4)) (by decide +kernel) hi
  simp [hk] at h
  simpa [and_assoc] using h
theorem pt_912 {i : Nat} (h : kS true i = 9) {ad : Nat → Nat} {S : Hp} (W : Wd ad S) : hR S 912 (ad i) = some (ad 64) := W.2.2.1 _ (pt_912_ i (kS_lt h (by decide)) h).1
theorem pk_912 {i : Nat} (h : kS true i = 9) : kS true 64 = 19 := (pt_912_ i (kS_lt h (by decide)) h).2.1
theorem pl_912 {i : Nat} (h : kS true i = 9) : LN 64 = 4 := (pt_912_ i (kS_lt h (by decide)) h).2.2
theorem pt_917_ (i : Nat) (hi : i < 174) (hk : kS true i = 9) : (917, i, 65) ∈ wpL ∧ kS true 65 = 14 ∧ LN 65 = 12 := by
  have h := all_lt (p := fun i => !(kS true i == 9) || (wpL.contains (917, i, 65) && kS true 65 == 14 && LN 65 == 12)) (by decide +kernel) hi
  simp [hk] at h
  simpa [and_assoc] using h
theorem pt_917 {i : Nat} (h : kS true i = 9) {ad : Nat → Nat} {S : Hp} (W : Wd ad S) : hR S 917 (ad i) = some (ad 65) := W.2.2.1 _ (pt_917_ i (kS_lt h (by decide)) h).1
theorem pk_917 {i : Nat} (h : kS true i = 9) : kS true 65 = 14 := (pt_917_ i (kS_lt h (by decide)) h).2.1
theorem pl_917 {i : Nat} (h : kS true i = 9) : LN 65 = 12 := (pt_917_ i (kS_lt h (by decide)) h).2.2
theorem pt_1003_ (i : Nat) (hi : i < 174) (hk : kS true i = 10) : (1003, i, (i + 1)) ∈ wpL ∧ kS true (i + 1) = 15 ∧ LN (i + 1) = 16 := by
  have h := all_lt (p := fun i => !(kS true i == 10) || (wpL.contains (1003, i, (i + 1)) && kS true (i + 1) == 15 && LN (i + 1) == 16)) (by decide +kernel) hi
  simp [hk] at h
  simpa [and_assoc] using h
theorem pt_1003 {i : Nat} (h : kS true i = 10) {ad : Nat → Nat} {S : Hp} (W : Wd ad S) : hR S 1003 (ad i) = some (ad (i + 1)) := W.2.2.1 _ (pt_1003_ i (kS_lt h (by decide)) h).1
theorem pk_1003 {i : Nat} (h : kS true i = 10) : kS true (i + 1) = 15 := (pt_1003_ i (kS_lt h (by decide)) h).2.1
theorem pl_1003 {i : Nat} (h : kS true i = 10) : LN (i + 1) = 16 := (pt_1003_ i (kS_lt h (by decide)) h).2.2
theorem pt_1100_ (i : Nat) (hi : i < 174) (hk : kS true i = 11) : (1100, i, 1) ∈ wpL ∧ kS true 1 = 13 ∧ LN 1 = 8000 := by
  have h := all_lt (p := fun i => !(kS true i == 11) || (wpL.contains (1100, i, 1) && kS true 1 == 13 && LN 1 == 8000)) (by decide +kernel) hi
  simp [hk] at h
  simpa [and_assoc] using h
theorem pt_1100 {i : Nat} (h : kS true i = 11) {ad : Nat → Nat} {S : Hp} (W : Wd ad S) : hR S 1100 (ad i) = some (ad 1) := W.2.2.1 _ (pt_1100_ i (kS_lt h (by decide)) h).1
theorem pk_1100 {i : Nat} (h : kS true i = 11) : kS true 1 = 13 := (pt_1100_ i (kS_lt h (by decide)) h).2.1
theorem pl_1100 {i : Nat} (h : kS true i = 11) : LN 1 = 8000 := (pt_1100_ i (kS_lt h (by decide)) h).2.2
theorem pt_1102_ (i : Nat) (hi : i < 174) (hk : kS true i = 11) : (1102, i, 2) ∈ wpL ∧ kS true 2 = 13 ∧ LN 2 = 12000 := by
  have h := all_lt (p := fun i => !(kS true i == 11) || (wpL.contains (1102, i, 2) && kS true 2 == 13 && LN 2 == 12000)) (by decide +kernel) hi
  simp [hk] at h
  simpa [and_assoc] using h
theorem pt_1102 {i : Nat} (h : kS true i = 11) {ad : Nat → Nat} {S : Hp} (W : Wd ad S) : hR S 1102 (ad i) = some (ad 2) := W.2.2.1 _ (pt_1102_ i (kS_lt h (by decide)) h).1
theorem pk_1102 {i : Nat} (h : kS true i = 11) : kS true 2 = 13 := (pt_1102_ i (kS_lt h (by decide)) h).2.1
theorem pl_1102 {i : Nat} (h : kS true i = 11) : LN 2 = 12000 := (pt_1102_ i (kS_lt h (by decide)) h).2.2
theorem pt_1103_ (i : Nat) (hi : i < 174) (hk : kS true i = 11) : (1103, i, 3) ∈ wpL ∧ kS true 3 = 14 ∧ LN 3 = 6 := by
  have h := all_lt (p := fun i => !(kS true i == 11) || (wpL.contains (1103, i, 3) && kS true 3 == 14 && LN 3 == 6)) (by decide +kernel) hi
  simp [hk] at h
  simpa [and_assoc] using h
theorem pt_1103 {i : Nat} (h : kS true i = 11) {ad : Nat → Nat} {S : Hp} (W : Wd ad S) : hR S 1103 (ad i) = some (ad 3) := W.2.2.1 _ (pt_1103_ i (kS_lt h (by decide)) h).1
theorem pk_1103 {i : Nat} (h : kS true i = 11) : kS true 3 = 14 := (pt_1103_ i (kS_lt h (by decide)) h).2.1
theorem pl_1103 {i : Nat} (h : kS true i = 11) : LN 3 = 6 := (pt_1103_ i (kS_lt h (by decide)) h).2.2
theorem pt_1104_ (i : Nat) (hi : i < 174) (hk : kS true i = 11) : (1104, i, 4) ∈ wpL ∧ kS true 4 = 14 ∧ LN 4 = 7 := by
  have h := all_lt (p := fun i => !(kS true i == 11) || (wpL.contains (1104, i, 4) && kS true 4 == 14 && LN 4 == 7)) (by decide +kernel) hi
  simp [hk] at h
  simpa [and_assoc] using h
theorem pt_1104 {i : Nat} (h : kS true i = 11) {ad : Nat → Nat} {S : Hp} (W : Wd ad S) : hR S 1104 (ad i) = some (ad 4) := W.2.2.1 _ (pt_1104_ i (kS_lt h (by decide)) h).1
theorem pk_1104 {i : Nat} (h : kS true i = 11) : kS true 4 = 14 := (pt_1104_ i (kS_lt h (by decide)) h).2.1
theorem pl_1104 {i : Nat} (h : kS true i = 11) : LN 4 = 7 := (pt_1104_ i (kS_lt h (by decide)) h).2.2
theorem pt_1106_ (i : Nat) (hi : i < 174) (hk : kS true i = 11) : (1106, i, 5) ∈ wpL ∧ kS true 5 = 6 := by
  have h := all_lt (p := fun i => !(kS true i == 11) || (wpL.contains (1106, i, 5) && kS true 5 == 6)) (by decide +kernel) hi
  simp [hk] at h
  simpa [and_assoc] using h
theorem pt_1106 {i : Nat} (h : kS true i = 11) {ad : Nat → Nat} {S : Hp} (W : Wd ad S) : hR S 1106 (ad i) = some (ad 5) := W.2.2.1 _ (pt_1106_ i (kS_lt h (by decide)) h).1
theorem pk_1106 {i : Nat} (h : kS true i = 11) : kS true 5 = 6 := (pt_1106_ i (kS_lt h (by decide)) h).2
theorem pt_1107_ (i : Nat) (hi : i < 174) (hk : kS true i = 11) : (1107, i, 23) ∈ wpL ∧ kS true 23 = 9 := by
  have h := all_lt (p := fun i => !(kS true i == 11) || (wpL.contains (1107, i, 23) && kS true 23 == 9)) (by decide +kernel) hi
  simp [hk] at h
  simpa [and_assoc] using h
theorem pt_1107 {i : Nat} (h : kS true i = 11) {ad : Nat → Nat} {S : Hp} (W : Wd ad S) : hR S 1107 (ad i) = some (ad 23) := W.2.2.1 _ (pt_1107_ i (kS_lt h (by decide)) h).1
theorem pk_1107 {i : Nat} (h : kS true i = 11) : kS true 23 = 9 := (pt_1107_ i (kS_lt h (by decide)) h).2
theorem pt_1108_ (i : Nat) (hi : i < 174) (hk : kS true i = 11) : (1108, i, 129) ∈ wpL ∧ kS true 129 = 3 := by
  have h := all_lt (p := fun i => !(kS true i == 11) || (wpL.contains (1108, i, 129) && kS true 129 == 3)) (by decide +kernel) hi
  simp [hk] at h
  simpa [and_assoc] using h
theorem pt_1108 {i : Nat} (h : kS true i = 11) {ad : Nat → Nat} {S : Hp} (W : Wd ad S) : hR S 1108 (ad i) = some (ad 129) := W.2.2.1 _ (pt_1108_ i (kS_lt h (by decide)) h).1
theorem pk_1108 {i : Nat} (h : kS true i = 11) : kS true 129 = 3 := (pt_1108_ i (kS_lt h (by decide)) h).2
theorem pt_1200_ (i : Nat) (hi : i < 174) (hk : kS false i = 12) : (1200, i, 134) ∈ wpL ∧ kS false 134 = 14 ∧ LN 134 = 192 := by
  have h := all_lt (p := fun i => !(kS false i == 12) || (wpL.contains (1200, i, 134) && kS false 134 == 14 && LN 134 == 192)) (by decide +kernel) hi
  simp [hk] at h
  simpa [and_assoc] using h
theorem pt_1200 {i : Nat} (h : kS false i = 12) {ad : Nat → Nat} {S : Hp} (W : Wd ad S) : hR S 1200 (ad i) = some (ad 134) := W.2.2.1 _ (pt_1200_ i (kS_lt h (by decide)) h).1
theorem pk_1200 {i : Nat} (h : kS false i = 12) : kS false 134 = 14 := (pt_1200_ i (kS_lt h (by decide)) h).2.1
theorem pl_1200 {i : Nat} (h : kS false i = 12) : LN 134 = 192 := (pt_1200_ i (kS_lt h (by decide)) h).2.2
theorem pt_1201_ (i : Nat) (hi : i < 174) (hk : kS false i = 12) : (1201, i, 135) ∈ wpL ∧ kS false 135 = 14 ∧ LN 135 = 960 := by
  have h := all_lt (p := fun i => !(kS false i == 12) || (wpL.contains (1201, i, 135) && kS false 135 == 14 && LN 135 == 960)) (by decide +kernel) hi
  simp [hk] at h
  simpa [and_assoc] using h
theorem pt_1201 {i : Nat} (h : kS false i = 12) {ad : Nat → Nat} {S : Hp} (W : Wd ad S) : hR S 1201 (ad i) = some (ad 135) := W.2.2.1 _ (pt_1201_ i (kS_lt h (by decide)) h).1
theorem pk_1201 {i : Nat} (h : kS false i = 12) : kS false 135 = 14 := (pt_1201_ i (kS_lt h (by decide)) h).2.1
theorem pl_1201 {i : Nat} (h : kS false i = 12) : LN 135 = 960 := (pt_1201_ i (kS_lt h (by decide)) h).2.2
theorem pt_1202_ (i : Nat) (hi : i < 174) (hk : kS false i = 12) : (1202, i, 136) ∈ wpL ∧ kS false 136 = 17 ∧ LN 136 = 17 := by
  have h := all_lt (p := fun i => !(kS false i == 12) || (wpL.contains (1202, i, 136) && kS false 136 == 17 && LN 136 == 17)) (by decide +kernel) hi
  simp [hk] at h
  simpa [and_assoc] using h
theorem pt_1202 {i : Nat} (h : kS false i = 12) {ad : Nat → Nat} {S : Hp} (W : Wd ad S) : hR S 1202 (ad i) = some (ad 136) := W.2.2.1 _ (pt_1202_ i (kS_lt h (by decide)) h).1
theorem pk_1202 {i : Nat} (h : kS false i = 12) : kS false 136 = 17 := (pt_1202_ i (kS_lt h (by decide)) h).2.1
theorem pl_1202 {i : Nat} (h : kS false i = 12) : LN 136 = 17 := (pt_1202_ i (kS_lt h (by decide)) h).2.2
theorem pt_1203_ (i : Nat) (hi : i < 174) (hk : kS false i = 12) : (1203, i, 137) ∈ wpL ∧ kS false 137 = 17 ∧ LN 137 = 17 := by
  have h := all_lt (p := fun i => !(kS false i == 12) || (wpL.contains (1203, i, 137) && kS false 137 == 17 && LN 137 == 17)) (by decide +kernel) hi
  simp [hk] at h
  simpa [and_assoc] using h
theorem pt_1203 {i : Nat} (h : kS false i = 12) {ad : Nat → Nat} {S : Hp} (W : Wd ad S) : hR S 1203 (ad i) = some (ad 137) := W.2.2.1 _ (pt_1203_ i (kS_lt h (by decide)) h).1
theorem pk_1203 {i : Nat} (h : kS false i = 12) : kS false 137 = 17 := (pt_1203_ i (kS_lt h (by decide)) h).2.1
theorem pl_1203 {i : Nat} (h : kS false i = 12) : LN 137 = 17 := (pt_1203_ i (kS_lt h (by decide)) h).2.2
theorem pt_1204_ (i : Nat) (hi : i < 174) (hk : kS false i = 12) : (1204, i, 138) ∈ wpL ∧ kS false 138 = 14 ∧ LN 138 = 119 := by
  have h := all_lt (p := fun i => !(kS false i == 12) || (wpL.contains (1204, i, 138) && kS false 138 == 14 && LN 138 == 119)) (by decide +kernel) hi
  simp [hk] at h
  simpa [and_assoc] using h
theorem pt_1204 {i : Nat} (h : kS false i = 12) {ad : Nat → Nat} {S : Hp} (W : Wd ad S) : hR S 1204 (ad i) = some (ad 138) := W.2.2.1 _ (pt_1204_ i (kS_lt h (by decide)) h).1
theorem pk_1204 {i : Nat} (h : kS false i = 12) : kS false 138 = 14 := (pt_1204_ i (kS_lt h (by decide)) h).2.1
theorem pl_1204 {i : Nat} (h : kS false i = 12) : LN 138 = 119 := (pt_1204_ i (kS_lt h (by decide)) h).2.2
theorem pt_1205_ (i : Nat) (hi : i < 174) (hk : kS false i = 12) : (1205, i, 139) ∈ wpL ∧ kS false 139 = 14 ∧ LN 139 = 4096 := by
  have h := all_lt (p := fun i => !(kS false i == 12) || (wpL.contains (1205, i, 139) && kS false 139 == 14 && LN 139 == 4096)) (by decide +kernel) hi
  simp [hk] at h
  simpa [and_assoc] using h
theorem pt_1205 {i : Nat} (h : kS false i = 12) {ad : Nat → Nat} {S : Hp} (W : Wd ad S) : hR S 1205 (ad i) = some (ad 139) := W.2.2.1 _ (pt_1205_ i (kS_lt h (by decide)) h).1
theorem pk_1205 {i : Nat} (h : kS false i = 12) : kS false 139 = 14 := (pt_1205_ i (kS_lt h (by decide)) h).2.1
theorem pl_1205 {i : Nat} (h : kS false i = 12) : LN 139 = 4096 := (pt_1205_ i (kS_lt h (by decide)) h).2.2
theorem pt_1206_ (i : Nat) (hi : i < 174) (hk : kS false i = 12) : (1206, i, 140) ∈ wpL ∧ kS false 140 = 17 ∧ LN 140 = 400 := by
  have h := all_lt (p := fun i => !(kS false i == 12) || (wpL.contains (1206, i, 140) && kS false 140 == 17 && LN 140 == 400)) (by decide +kernel) hi
  simp [hk] at h
  simpa [and_assoc] using h
theorem pt_1206 {i : Nat} (h : kS false i = 12) {ad : Nat → Nat} {S : Hp} (W : Wd ad S) : hR S 1206 (ad i) = some (ad 140) := W.2.2.1 _ (pt_1206_ i (kS_lt h (by decide)) h).1
theorem pk_1206 {i : Nat} (h : kS false i = 12) : kS false 140 = 17 := (pt_1206_ i (kS_lt h (by decide)) h).2.1
theorem pl_1206 {i : Nat} (h : kS false i = 12) : LN 140 = 400 := (pt_1206_ i (kS_lt h (by decide)) h).2.2
theorem pt_1207_ (i : Nat) (hi : i < 174) (hk : kS false i = 12) : (1207, i, 141) ∈ wpL ∧ kS false 141 = 14 ∧ LN 141 = 2000 := by
  have h := all_lt (p := fun i => !(kS false i == 12) || (wpL.contains (1207, i, 141) && kS false 141 == 14 && LN 141 == 2000)) (by decide +kernel) hi
  simp [hk] at h
  simpa [and_assoc] using h
theorem pt_1207 {i : Nat} (h : kS false i = 12) {ad : Nat → Nat} {S : Hp} (W : Wd ad S) : hR S 1207 (ad i) = some (ad 141) := W.2.2.1 _ (pt_1207_ i (kS_lt h (by decide)) h).1
theorem pk_1207 {i : Nat} (h : kS false i = 12) : kS false 141 = 14 := (pt_1207_ i (kS_lt h (by decide)) h).2.1
theorem pl_1207 {i : Nat} (h : kS false i = 12) : LN 141 = 2000 := (pt_1207_ i (kS_lt h (by decide)) h).2.2
theorem pt_1208_ (i : Nat) (hi : i < 174) (hk : kS false i = 12) : (1208, i, 142) ∈ wpL ∧ kS false 142 = 14 ∧ LN 142 = 12800 := by
  have h := all_lt (p := fun i => !(kS false i == 12) || (wpL.contains (1208, i, 142) && kS false 142 == 14 && LN 142 == 12800)) (by decide +kernel) hi
  simp [hk] at h
  simpa [and_assoc] using h
theorem pt_1208 {i : Nat} (h : kS false i = 12) {ad : Nat → Nat} {S : Hp} (W : Wd ad S) : hR S 1208 (ad i) = some (ad 142) := W.2.2.1 _ (pt_1208_ i (kS_lt h (by decide)) h).1
theorem pk_1208 {i : Nat} (h : kS false i = 12) : kS false 142 = 14 := (pt_1208_ i (kS_lt h (by decide)) h).2.1
theorem pl_1208 {i : Nat} (h : kS false i = 12) : LN 142 = 12800 := (pt_1208_ i (kS_lt h (by decide)) h).2.2
theorem pt_1210_ (i : Nat) (hi : i < 174) (hk : kS false i = 12) : (1210, i, 143) ∈ wpL ∧ kS false 143 = 17 ∧ LN 143 = 16 := by
  have h := all_lt (p := fun i => !(kS false i == 12) || (wpL.contains (1210, i, 143) && kS false 143 == 17 && LN 143 == 16)) (by decide +kernel) hi
  simp [hk] at h
  simpa [and_assoc] using h
theorem pt_1210 {i : Nat} (h : kS false i = 12) {ad : Nat → Nat} {S : Hp} (W : Wd ad S) : hR S 1210 (ad i) = some (ad 143) := W.2.2.1 _ (pt_1210_ i (kS_lt h (by decide)) h).1
theorem pk_1210 {i : Nat} (h : kS false i = 12) : kS false 143 = 17 := (pt_1210_ i (kS_lt h (by decide)) h).2.1
theorem pl_1210 {i : Nat} (h : kS false i = 12) : LN 143 = 16 := (pt_1210_ i (kS_lt h (by decide)) h).2.2
theorem pt_1211_ (i : Nat) (hi : i < 174) (hk : kS false i = 12) : (1211, i, 144) ∈ wpL ∧ kS false 144 = 17 ∧ LN 144 = 16 := by
  have h := all_lt (p := fun i => !(kS false i == 12) || (wpL.contains (1211, i, 144) && kS false 144 == 17 && LN 144 == 16)) (by decide +kernel) hi
  simp [hk] at h
  simpa [and_assoc] using h
theorem pt_1211 {i : Nat} (h : kS false i = 12) {ad : Nat → Nat} {S : Hp} (W : Wd ad S) : hR S 1211 (ad i) = some (ad 144) := W.2.2.1 _ (pt_1211_ i (kS_lt h (by decide)) h).1
theorem pk_1211 {i : Nat} (h : kS false i = 12) : kS false 144 = 17 := (pt_1211_ i (kS_lt h (by decide)) h).2.1
theorem pl_1211 {i : Nat} (h : kS false i = 12) : LN 144 = 16 := (pt_1211_ i (kS_lt h (by decide)) h).2.2
theorem pt_1212_ (i : Nat) (hi : i < 174) (hk : kS false i = 12) : (1212, i, 145) ∈ wpL ∧ kS false 145 = 14 ∧ LN 145 = 16 := by
  have h := all_lt (p := fun i => !(kS false i == 12) || (wpL.contains (1212, i, 145) && kS false 145 == 14 && LN 145 == 16)) (by decide +kernel) hi
  simp [hk] at h
  simpa [and_assoc] using h
theorem pt_1212 {i : Nat} (h : kS false i = 12) {ad : Nat → Nat} {S : Hp} (W : Wd ad S) : hR S 1212 (ad i) = some (ad 145) := W.2.2.1 _ (pt_1212_ i (kS_lt h (by decide)) h).1
theorem pk_1212 {i : Nat} (h : kS false i = 12) : kS false 145 = 14 := (pt_1212_ i (kS_lt h (by decide)) h).2.1
theorem pl_1212 {i : Nat} (h : kS false i = 12) : LN 145 = 16 := (pt_1212_ i (kS_lt h (by decide)) h).2.2
theorem pt_1213_ (i : Nat) (hi : i < 174) (hk : kS false i = 12) : (1213, i, 146) ∈ wpL ∧ kS false 146 = 14 ∧ LN 146 = 16 := by
  have h := all_lt (p := fun i => !(kS false i == 12) || (wpL.contains (1213, i, 146) && kS false 146 == 14 && LN 146 == 16)) (by decide +kernel) hi
  simp [hk] at h
  simpa [and_assoc] using h
theorem pt_1213 {i : Nat} (h : kS false i = 12) {ad : Nat → Nat} {S : Hp} (W : Wd ad S) : hR S 1213 (ad i) = some (ad 146) := W.2.2.1 _ (pt_1213_ i (kS_lt h (by decide)) h).1
theorem pk_1213 {i : Nat} (h : kS false i = 12) : kS false 146 = 14 := (pt_1213_ i (kS_lt h (by decide)) h).2.1
theorem pl_1213 {i : Nat} (h : kS false i = 12) : LN 146 = 16 := (pt_1213_ i (kS_lt h (by decide)) h).2.2
theorem pt_1214_ (i : Nat) (hi : i < 174) (hk : kS false i = 12) : (1214, i, 147) ∈ wpL ∧ kS false 147 = 14 ∧ LN 147 = 256 := by
  have h := all_lt (p := fun i => !(kS false i == 12) || (wpL.contains (1214, i, 147) && kS false 147 == 14 && LN 147 == 256)) (by decide +kernel) hi
  simp [hk] at h
  simpa [and_assoc] using h
theorem pt_1214 {i : Nat} (h : kS false i = 12) {ad : Nat → Nat} {S : Hp} (W : Wd ad S) : hR S 1214 (ad i) = some (ad 147) := W.2.2.1 _ (pt_1214_ i (kS_lt h (by decide)) h).1
theorem pk_1214 {i : Nat} (h : kS false i = 12) : kS false 147 = 14 := (pt_1214_ i (kS_lt h (by decide)) h).2.1
theorem pl_1214 {i : Nat} (h : kS false i = 12) : LN 147 = 256 := (pt_1214_ i (kS_lt h (by decide)) h).2.2
theorem pt_1215_ (i : Nat) (hi : i < 174) (hk : kS false i = 12) : (1215, i, 148) ∈ wpL ∧ kS false 148 = 17 ∧ LN 148 = 16 := by
  have h := all_lt (p := fun i => !(kS false i == 12) || (wpL.contains (1215, i, 148) && kS false 148 == 17 && LN 148 == 16)) (by decide +kernel) hi
  simp [hk] at h
  simpa [and_assoc] using h
theorem pt_1215 {i : Nat} (h : kS false i = 12) {ad : Nat → Nat} {S : Hp} (W : Wd ad S) : hR S 1215 (ad i) = some (ad 148) := W.2.2.1 _ (pt_1215_ i (kS_lt h (by decide)) h).1
theorem pk_1215 {i : Nat} (h : kS false i = 12) : kS false 148 = 17 := (pt_1215_ i (kS_lt h (by decide)) h).2.1
theorem pl_1215 {i : Nat} (h : kS false i = 12) : LN 148 = 16 := (pt_1215_ i (kS_lt h (by decide)) h).2.2
theorem pt_1216_ (i : Nat) (hi : i < 174) (hk : kS false i = 12) : (1216, i, 149) ∈ wpL ∧ kS false 149 = 17 ∧ LN 149 = 16 := by
  have h := all_lt (p := fun i => !(kS false i == 12) || (wpL.contains (1216, i, 149) && kS false 149 == 17 && LN 149 == 16)) (by decide +kernel) hi
  simp [hk] at h
  simpa [and_assoc] using h
theorem pt_1216 {i : Nat} (h : kS false i = 12) {ad : Nat → Nat} {S : Hp} (W : Wd ad S) : hR S 1216 (ad i) = some (ad 149) := W.2.2.1 _ (pt_1216_ i (kS_lt h (by decide)) h).1
theorem pk_1216 {i : Nat} (h : kS false i = 12) : kS false 149 = 17 := (pt_1216_ i (kS_lt h (by decide)) h).2.1
theorem pl_1216 {i : Nat} (h : kS false i = 12) : LN 149 = 16 := (pt_1216_ i (kS_lt h (by decide)) h).2.2
theorem pt_1217_ (i : Nat) (hi : i < 174) (hk : kS false i = 12) : (1217, i, 150) ∈ wpL ∧ kS false 150 = 14 ∧ LN 150 = 16 := by
  have h := all_lt (p := fun i => !(kS false i == 12) || (wpL.contains (1217, i, 150) && kS false 150 == 14 && LN 150 == 16)) (by decide +kernel) hi
  simp [hk] at h
  simpa [and_assoc] using h
theorem pt_1217 {i : Nat} (h : kS false i = 12) {ad : Nat → Nat} {S : Hp} (W : Wd ad S) : hR S 1217 (ad i) = some (ad 150) := W.2.2.1 _ (pt_1217_ i (kS_lt h (by decide)) h).1
theorem pk_1217 {i : Nat} (h : kS false i = 12) : kS false 150 = 14 := (pt_1217_ i (kS_lt h (by decide)) h).2.1
theorem pl_1217 {i : Nat} (h : kS false i = 12) : LN 150 = 16 := (pt_1217_ i (kS_lt h (by decide)) h).2.2
theorem pt_1218_ (i : Nat) (hi : i < 174) (hk : kS false i = 12) : (1218, i, 151) ∈ wpL ∧ kS false 151 = 13 ∧ LN 151 = 24000 := by
  have h := all_lt (p := fun i => !(kS false i == 12) || (wpL.contains (1218, i, 151) && kS false 151 == 13 && LN 151 == 24000)) (by decide +kernel) hi
  simp [hk] at h
  simpa [and_assoc] using h
theorem pt_1218 {i : Nat} (h : kS false i = 12) {ad : Nat → Nat} {S : Hp} (W : Wd ad S) : hR S 1218 (ad i) = some (ad 151) := W.2.2.1 _ (pt_1218_ i (kS_lt h (by decide)) h).1
theorem pk_1218 {i : Nat} (h : kS false i = 12) : kS false 151 = 13 := (pt_1218_ i (kS_lt h (by decide)) h).2.1
theorem pl_1218 {i : Nat} (h : kS false i = 12) : LN 151 = 24000 := (pt_1218_ i (kS_lt h (by decide)) h).2.2
theorem pt_1219_ (i : Nat) (hi : i < 174) (hk : kS false i = 12) : (1219, i, 152) ∈ wpL ∧ kS false 152 = 13 ∧ LN 152 = 12000 := by
  have h := all_lt (p := fun i => !(kS false i == 12) || (wpL.contains (1219, i, 152) && kS false 152 == 13 && LN 152 == 12000)) (by decide +kernel) hi
  simp [hk] at h
  simpa [and_assoc] using h
theorem pt_1219 {i : Nat} (h : kS false i = 12) {ad : Nat → Nat} {S : Hp} (W : Wd ad S) : hR S 1219 (ad i) = some (ad 152) := W.2.2.1 _ (pt_1219_ i (kS_lt h (by decide)) h).1
theorem pk_1219 {i : Nat} (h : kS false i = 12) : kS false 152 = 13 := (pt_1219_ i (kS_lt h (by decide)) h).2.1
theorem pl_1219 {i : Nat} (h : kS false i = 12) : LN 152 = 12000 := (pt_1219_ i (kS_lt h (by decide)) h).2.2
theorem pt_1220_ (i : Nat) (hi : i < 174) (hk : kS false i = 12) : (1220, i, 153) ∈ wpL ∧ kS false 153 = 14 ∧ LN 153 = 7 := by
  have h := all_lt (p := fun i => !(kS false i == 12) || (wpL.contains (1220, i, 153) && kS false 153 == 14 && LN 153 == 7)) (by decide +kernel) hi
  simp [hk] at h
  simpa [and_assoc] using h
theorem pt_1220 {i : Nat} (h : kS false i = 12) {ad : Nat → Nat} {S : Hp} (W : Wd ad S) : hR S 1220 (ad i) = some (ad 153) := W.2.2.1 _ (pt_1220_ i (kS_lt h (by decide)) h).1
theorem pk_1220 {i : Nat} (h : kS false i = 12) : kS false 153 = 14 := (pt_1220_ i (kS_lt h (by decide)) h).2.1
theorem pl_1220 {i : Nat} (h : kS false i = 12) : LN 153 = 7 := (pt_1220_ i (kS_lt h (by decide)) h).2.2
theorem pt_1221_ (i : Nat) (hi : i < 174) (hk : kS false i = 12) : (1221, i, 154) ∈ wpL ∧ kS false 154 = 14 ∧ LN 154 = 6 := by
  have h := all_lt (p := fun i => !(kS false i == 12) || (wpL.contains (1221, i, 154) && kS false 154 == 14 && LN 154 == 6)) (by decide +kernel) hi
  simp [hk] at h
  simpa [and_assoc] using h
theorem pt_1221 {i : Nat} (h : kS false i = 12) {ad : Nat → Nat} {S : Hp} (W : Wd ad S) : hR S 1221 (ad i) = some (ad 154) := W.2.2.1 _ (pt_1221_ i (kS_lt h (by decide)) h).1
theorem pk_1221 {i : Nat} (h : kS false i = 12) : kS false 154 = 14 := (pt_1221_ i (kS_lt h (by decide)) h).2.1
theorem pl_1221 {i : Nat} (h : kS false i = 12) : LN 154 = 6 := (pt_1221_ i (kS_lt h (by decide)) h).2.2
theorem pt_1223_ (i : Nat) (hi : i < 174) (hk : kS false i = 12) : (1223, i, 155) ∈ wpL ∧ kS false 155 = 13 ∧ LN 155 = 8000 := by
  have h := all_lt (p := fun i => !(kS false i == 12) || (wpL.contains (1223, i, 155) && kS false 155 == 13 && LN 155 == 8000)) (by decide +kernel) hi
  simp [hk] at h
  simpa [and_assoc] using h
theorem pt_1223 {i : Nat} (h : kS false i = 12) {ad : Nat → Nat} {S : Hp} (W : Wd ad S) : hR S 1223 (ad i) = some (ad 155) := W.2.2.1 _ (pt_1223_ i (kS_lt h (by decide)) h).1
theorem pk_1223 {i : Nat} (h : kS false i = 12) : kS false 155 = 13 := (pt_1223_ i (kS_lt h (by decide)) h).2.1
theorem pl_1223 {i : Nat} (h : kS false i = 12) : LN 155 = 8000 := (pt_1223_ i (kS_lt h (by decide)) h).2.2
theorem pt_1225_ (i : Nat) (hi : i < 174) (hk : kS false i = 12) : (1225, i, 156) ∈ wpL ∧ kS false 156 = 13 ∧ LN 156 = 6000 := by
  have h := all_lt (p := fun i => !(kS false i == 12) || (wpL.contains (1225, i, 156) && kS false 156 == 13 && LN 156 == 6000)) (by decide +kernel) hi
  simp [hk] at h
  simpa [and_assoc] using h
theorem pt_1225 {i : Nat} (h : kS false i = 12) {ad : Nat → Nat} {S : Hp} (W : Wd ad S) : hR S 1225 (ad i) = some (ad 156) := W.2.2.1 _ (pt_1225_ i (kS_lt h (by decide)) h).1
theorem pk_1225 {i : Nat} (h : kS false i = 12) : kS false 156 = 13 := (pt_1225_ i (kS_lt h (by decide)) h).2.1
theorem pl_1225 {i : Nat} (h : kS false i = 12) : LN 156 = 6000 := (pt_1225_ i (kS_lt h (by decide)) h).2.2
theorem pt_1234_ (i : Nat) (hi : i < 174) (hk : kS false i = 12) : (1234, i, 157) ∈ wpL ∧ kS false 157 = 13 ∧ LN 157 = 64000 := by
  have h := all_lt (p := fun i => !(kS false i == 12) || (wpL.contains (1234, i, 157) && kS false 157 == 13 && LN 157 == 64000)) (by decide +kernel) hi
  simp [hk] at h
  simpa [and_assoc] using h
theorem pt_1234 {i : Nat} (h : kS false i = 12) {ad : Nat → Nat} {S : Hp} (W : Wd ad S) : hR S 1234 (ad i) = some (ad 157) := W.2.2.1 _ (pt_1234_ i (kS_lt h (by decide)) h).1
theorem pk_1234 {i : Nat} (h : kS false i = 12) : kS false 157 = 13 := (pt_1234_ i (kS_lt h (by decide)) h).2.1
theorem pl_1234 {i : Nat} (h : kS false i = 12) : LN 157 = 64000 := (pt_1234_ i (kS_lt h (by decide)) h).2.2
theorem pt_1237_ (i : Nat) (hi : i < 174) (hk : kS false i = 12) : (1237, i, 158) ∈ wpL ∧ kS false 158 = 13 ∧ LN 158 = 768000 := by
  have h := all_lt (p := fun i => !(kS false i == 12) || (wpL.contains (1237, i, 158) && kS false 158 == 13 && LN 158 == 768000)) (by decide +kernel) hi
  simp [hk] at h
  simpa [and_assoc] using h
theorem pt_1237 {i : Nat} (h : kS false i = 12) {ad : Nat → Nat} {S : Hp} (W : Wd ad S) : hR S 1237 (ad i) = some (ad 158) := W.2.2.1 _ (pt_1237_ i (kS_lt h (by decide)) h).1
theorem pk_1237 {i : Nat} (h : kS false i = 12) : kS false 158 = 13 := (pt_1237_ i (kS_lt h (by decide)) h).2.1
theorem pl_1237 {i : Nat} (h : kS false i = 12) : LN 158 = 768000 := (pt_1237_ i (kS_lt h (by decide)) h).2.2
theorem pt_1238_ (i : Nat) (hi : i < 174) (hk : kS false i = 12) : (1238, i, 159) ∈ wpL ∧ kS false 159 = 14 ∧ LN 159 = 12 := by
  have h := all_lt (p := fun i => !(kS false i == 12) || (wpL.contains (1238, i, 159) && kS false 159 == 14 && LN 159 == 12)) (by decide +kernel) hi
  simp [hk] at h
  simpa [and_assoc] using h
theorem pt_1238 {i : Nat} (h : kS false i = 12) {ad : Nat → Nat} {S : Hp} (W : Wd ad S) : hR S 1238 (ad i) = some (ad 159) := W.2.2.1 _ (pt_1238_ i (kS_lt h (by decide)) h).1
theorem pk_1238 {i : Nat} (h : kS false i = 12) : kS false 159 = 14 := (pt_1238_ i (kS_lt h (by decide)) h).2.1
theorem pl_1238 {i : Nat} (h : kS false i = 12) : LN 159 = 12 := (pt_1238_ i (kS_lt h (by decide)) h).2.2
theorem pt_1239_ (i : Nat) (hi : i < 174) (hk : kS false i = 12) : (1239, i, 160) ∈ wpL ∧ kS false 160 = 14 ∧ LN 160 = 12 := by
  have h := all_lt (p := fun i => !(kS false i == 12) || (wpL.contains (1239, i, 160) && kS false 160 == 14 && LN 160 == 12)) (by decide +kernel) hi
  simp [hk] at h
  simpa [and_assoc] using h
theorem pt_1239 {i : Nat} (h : kS false i = 12) {ad : Nat → Nat} {S : Hp} (W : Wd ad S) : hR S 1239 (ad i) = some (ad 160) := W.2.2.1 _ (pt_1239_ i (kS_lt h (by decide)) h).1
theorem pk_1239 {i : Nat} (h : kS false i = 12) : kS false 160 = 14 := (pt_1239_ i (kS_lt h (by decide)) h).2.1
theorem pl_1239 {i : Nat} (h : kS false i = 12) : LN 160 = 12 := (pt_1239_ i (kS_lt h (by decide)) h).2.2
theorem pt_1241_ (i : Nat) (hi : i < 174) (hk : kS false i = 12) : (1241, i, 161) ∈ wpL ∧ kS false 161 = 13 ∧ LN 161 = 60008 := by
  have h := all_lt (p := fun i => !(kS false i == 12) || (wpL.contains (1241, i, 161) && kS false 161 == 13 && LN 161 == 60008)) (by decide +kernel) hi
  simp [hk] at h
  simpa [and_assoc] using h
theorem pt_1241 {i : Nat} (h : kS false i = 12) {ad : Nat → Nat} {S : Hp} (W : Wd ad S) : hR S 1241 (ad i) = some (ad 161) := W.2.2.1 _ (pt_1241_ i (kS_lt h (by decide)) h).1
theorem pk_1241 {i : Nat} (h : kS false i = 12) : kS false 161 = 13 := (pt_1241_ i (kS_lt h (by decide)) h).2.1
theorem pl_1241 {i : Nat} (h : kS false i = 12) : LN 161 = 60008 := (pt_1241_ i (kS_lt h (by decide)) h).2.2
theorem pt_1246_ (i : Nat) (hi : i < 174) (hk : kS false i = 12) : (1246, i, 162) ∈ wpL ∧ kS false 162 = 14 ∧ LN 162 = 12 := by
  have h := all_lt (p := fun i => !(kS false i == 12) || (wpL.contains (1246, i, 162) && kS false 162 == 14 && LN 162 == 12)) (by decide +kernel) hi
  simp [hk] at h
  simpa [and_assoc] using h
theorem pt_1246 {i : Nat} (h : kS false i = 12) {ad : Nat → Nat} {S : Hp} (W : Wd ad S) : hR S 1246 (ad i) = some (ad 162) := W.2.2.1 _ (pt_1246_ i (kS_lt h (by decide)) h).1
theorem pk_1246 {i : Nat} (h : kS false i = 12) : kS false 162 = 14 := (pt_1246_ i (kS_lt h (by decide)) h).2.1
theorem pl_1246 {i : Nat} (h : kS false i = 12) : LN 162 = 12 := (pt_1246_ i (kS_lt h (by decide)) h).2.2
theorem pt_1248_ (i : Nat) (hi : i < 174) (hk : kS false i = 12) : (1248, i, 163) ∈ wpL ∧ kS false 163 = 14 ∧ LN 163 = 20 := by
  have h := all_lt (p := fun i => !(kS false i == 12) || (wpL.contains (1248, i, 163) && kS false 163 == 14 && LN 163 == 20)) (by decide +kernel) hi
  simp [hk] at h
  simpa [and_assoc] using h
theorem pt_1248 {i : Nat} (h : kS false i = 12) {ad : Nat → Nat} {S : Hp} (W : Wd ad S) : hR S 1248 (ad i) = some (ad 163) := W.2.2.1 _ (pt_1248_ i (kS_lt h (by decide)) h).1
theorem pk_1248 {i : Nat} (h : kS false i = 12) : kS false 163 = 14 := (pt_1248_ i (kS_lt h (by decide)) h).2.1
theorem pl_1248 {i : Nat} (h : kS false i = 12) : LN 163 = 20 := (pt_1248_ i (kS_lt h (by decide)) h).2.2
theorem pt_1250_ (i : Nat) (hi : i < 174) (hk : kS false i = 12) : (1250, i, 164) ∈ wpL ∧ kS false 164 = 17 ∧ LN 164 = 17 := by
  have h := all_lt (p := fun i => !(kS false i == 12) || (wpL.contains (1250, i, 164) && kS false 164 == 17 && LN 164 == 17)) (by decide +kernel) hi
  simp [hk] at h
  simpa [and_assoc] using h
theorem pt_1250 {i : Nat} (h : kS false i = 12) {ad : Nat → Nat} {S : Hp} (W : Wd ad S) : hR S 1250 (ad i) = some (ad 164) := W.2.2.1 _ (pt_1250_ i (kS_lt h (by decide)) h).1
theorem pk_1250 {i : Nat} (h : kS false i = 12) : kS false 164 = 17 := (pt_1250_ i (kS_lt h (by decide)) h).2.1
theorem pl_1250 {i : Nat} (h : kS false i = 12) : LN 164 = 17 := (pt_1250_ i (kS_lt h (by decide)) h).2.2
theorem pt_1256_ (i : Nat) (hi : i < 174) (hk : kS false i = 12) : (1256, i, 165) ∈ wpL ∧ kS false 165 = 14 ∧ LN 165 = 148 := by
  have h := all_lt (p := fun i => !(kS false i == 12) || (wpL.contains (1256, i, 165) && kS false 165 == 14 && LN 165 == 148)) (by decide +kernel) hi
  simp [hk] at h
  simpa [and_assoc] using h
theorem pt_1256 {i : Nat} (h : kS false i = 12) {ad : Nat → Nat} {S : Hp} (W : Wd ad S) : hR S 1256 (ad i) = some (ad 165) := W.2.2.1 _ (pt_1256_ i (kS_lt h (by decide)) h).1
theorem pk_1256 {i : Nat} (h : kS false i = 12) : kS false 165 = 14 := (pt_1256_ i (kS_lt h (by decide)) h).2.1
theorem pl_1256 {i : Nat} (h : kS false i = 12) : LN 165 = 148 := (pt_1256_ i (kS_lt h (by decide)) h).2.2
theorem pt_1257_ (i : Nat) (hi : i < 174) (hk : kS false i = 12) : (1257, i, 166) ∈ wpL ∧ kS false 166 = 14 ∧ LN 166 = 148 := by
  have h := all_lt (p := fun i => !(kS false i == 12) || (wpL.contains (1257, i, 166) && kS false 166 == 14 && LN 166 == 148)) (by decide +kernel) hi
  simp [hk] at h
  simpa [and_assoc] using h
theorem pt_1257 {i : Nat} (h : kS false i = 12) {ad : Nat → Nat} {S : Hp} (W : Wd ad S) : hR S 1257 (ad i) = some (ad 166) := W.2.2.1 _ (pt_1257_ i (kS_lt h (by decide)) h).1
theorem pk_1257 {i : Nat} (h : kS false i = 12) : kS false 166 = 14 := (pt_1257_ i (kS_lt h (by decide)) h).2.1
theorem pl_1257 {i : Nat} (h : kS false i = 12) : LN 166 = 148 := (pt_1257_ i (kS_lt h (by decide)) h).2.2
theorem pt_1258_ (i : Nat) (hi : i < 174) (hk : kS false i = 12) : (1258, i, 167) ∈ wpL ∧ kS false 167 = 14 ∧ LN 167 = 640 := by
  have h := all_lt (p := fun i => !(kS false i == 12) || (wpL.contains (1258, i, 167) && kS false 167 == 14 && LN 167 == 640)) (by decide +kernel) hi
  simp [hk] at h
  simpa [and_assoc] using h
theorem pt_1258 {i : Nat} (h : kS false i = 12) {ad : Nat → Nat} {S : Hp} (W : Wd ad S) : hR S 1258 (ad i) = some (ad 167) := W.2.2.1 _ (pt_1258_ i (kS_lt h (by decide)) h).1
theorem pk_1258 {i : Nat} (h : kS false i = 12) : kS false 167 = 14 := (pt_1258_ i (kS_lt h (by decide)) h).2.1
theorem pl_1258 {i : Nat} (h : kS false i = 12) : LN 167 = 640 := (pt_1258_ i (kS_lt h (by decide)) h).2.2
theorem pt_1259_ (i : Nat) (hi : i < 174) (hk : kS false i = 12) : (1259, i, 168) ∈ wpL ∧ kS false 168 = 14 ∧ LN 168 = 640 := by
  have h := all_lt (p := fun i => !(kS false i == 12) || (wpL.contains (1259, i, 168) && kS false 168 == 14 && LN 168 == 640)) (by decide +kernel) hi
  simp [hk] at h
  simpa [and_assoc] using h
theorem pt_1259 {i : Nat} (h : kS false i = 12) {ad : Nat → Nat} {S : Hp} (W : Wd ad S) : hR S 1259 (ad i) = some (ad 168) := W.2.2.1 _ (pt_1259_ i (kS_lt h (by decide)) h).1
theorem pk_1259 {i : Nat} (h : kS false i = 12) : kS false 168 = 14 := (pt_1259_ i (kS_lt h (by decide)) h).2.1
theorem pl_1259 {i : Nat} (h : kS false i = 12) : LN 168 = 640 := (pt_1259_ i (kS_lt h (by decide)) h).2.2
theorem pt_1270_ (i : Nat) (hi : i < 174) (hk : kS false i = 12) : (1270, i, 169) ∈ wpL ∧ kS false 169 = 14 ∧ LN 169 = 12 := by
  have h := all_lt (p := fun i => !(kS false i == 12) || (wpL.contains (1270, i, 169) && kS false 169 == 14 && LN 169 == 12)) (by decide +kernel) hi
  simp [hk] at h
  simpa [and_assoc] using h
theorem pt_1270 {i : Nat} (h : kS false i = 12) {ad : Nat → Nat} {S : Hp} (W : Wd ad S) : hR S 1270 (ad i) = some (ad 169) := W.2.2.1 _ (pt_1270_ i (kS_lt h (by decide)) h).1
theorem pk_1270 {i : Nat} (h : kS false i = 12) : kS false 169 = 14 := (pt_1270_ i (kS_lt h (by decide)) h).2.1
theorem pl_1270 {i : Nat} (h : kS false i = 12) : LN 169 = 12 := (pt_1270_ i (kS_lt h (by decide)) h).2.2
theorem pt_1272_ (i : Nat) (hi : i < 174) (hk : kS false i = 12) : (1272, i, 170) ∈ wpL ∧ kS false 170 = 14 ∧ LN 170 = 400 := by
  have h := all_lt (p := fun i => !(kS false i == 12) || (wpL.contains (1272, i, 170) && kS false 170 == 14 && LN 170 == 400)) (by decide +kernel) hi
  simp [hk] at h
  simpa [and_assoc] using h
theorem pt_1272 {i : Nat} (h : kS false i = 12) {ad : Nat → Nat} {S : Hp} (W : Wd ad S) : hR S 1272 (ad i) = some (ad 170) := W.2.2.1 _ (pt_1272_ i (kS_lt h (by decide)) h).1
theorem pk_1272 {i : Nat} (h : kS false i = 12) : kS false 170 = 14 := (pt_1272_ i (kS_lt h (by decide)) h).2.1
theorem pl_1272 {i : Nat} (h : kS false i = 12) : LN 170 = 400 := (pt_1272_ i (kS_lt h (by decide)) h).2.2
theorem pt_1273_ (i : Nat) (hi : i < 174) (hk : kS false i = 12) : (1273, i, 171) ∈ wpL ∧ kS false 171 = 15 ∧ LN 171 = 400 := by
  have h := all_lt (p := fun i => !(kS false i == 12) || (wpL.contains (1273, i, 171) && kS false 171 == 15 && LN 171 == 400)) (by decide +kernel) hi
  simp [hk] at h
  simpa [and_assoc] using h
theorem pt_1273 {i : Nat} (h : kS false i = 12) {ad : Nat → Nat} {S : Hp} (W : Wd ad S) : hR S 1273 (ad i) = some (ad 171) := W.2.2.1 _ (pt_1273_ i (kS_lt h (by decide)) h).1
theorem pk_1273 {i : Nat} (h : kS false i = 12) : kS false 171 = 15 := (pt_1273_ i (kS_lt h (by decide)) h).2.1
theorem pl_1273 {i : Nat} (h : kS false i = 12) : LN 171 = 400 := (pt_1273_ i (kS_lt h (by decide)) h).2.2
theorem pt_1274_ (i : Nat) (hi : i < 174) (hk : kS false i = 12) : (1274, i, 172) ∈ wpL ∧ kS false 172 = 15 ∧ LN 172 = 40 := by
  have h := all_lt (p := fun i => !(kS false i == 12) || (wpL.contains (1274, i, 172) && kS false 172 == 15 && LN 172 == 40)) (by decide +kernel) hi
  simp [hk] at h
  simpa [and_assoc] using h
theorem pt_1274 {i : Nat} (h : kS false i = 12) {ad : Nat → Nat} {S : Hp} (W : Wd ad S) : hR S 1274 (ad i) = some (ad 172) := W.2.2.1 _ (pt_1274_ i (kS_lt h (by decide)) h).1
theorem pk_1274 {i : Nat} (h : kS false i = 12) : kS false 172 = 15 := (pt_1274_ i (kS_lt h (by decide)) h).2.1
theorem pl_1274 {i : Nat} (h : kS false i = 12) : LN 172 = 40 := (pt_1274_ i (kS_lt h (by decide)) h).2.2
theorem pt_1275_ (i : Nat) (hi : i < 174) (hk : kS false i = 12) : (1275, i, 173) ∈ wpL ∧ kS false 173 = 15 ∧ LN 173 = 40 := by
  have h := all_lt (p := fun i => !(kS false i == 12) || (wpL.contains (1275, i, 173) && kS false 173 == 15 && LN 173 == 40)) (by decide +kernel) hi
  simp [hk] at h
  simpa [and_assoc] using h
theorem pt_1275 {i : Nat} (h : kS false i = 12) {ad : Nat → Nat} {S : Hp} (W : Wd ad S) : hR S 1275 (ad i) = some (ad 173) := W.2.2.1 _ (pt_1275_ i (kS_lt h (by decide)) h).1
theorem pk_1275 {i : Nat} (h : kS false i = 12) : kS false 173 = 15 := (pt_1275_ i (kS_lt h (by decide)) h).2.1
theorem pl_1275 {i : Nat} (h : kS false i = 12) : LN 173 = 40 := (pt_1275_ i (kS_lt h (by decide)) h).2.2
theorem pe_9_ (j : Nat) (hj : j < 13) : (9, j, (10 + j)) ∈ wqL ∧ kS true (10 + j) = 14 ∧ LN (10 + j) = 16000 := by
  have h := all_lt (p := fun j => wqL.contains (9, j, (10 + j)) && kS true (10 + j) == 14 && LN (10 + j) == 16000) (by decide +kernel) hj
  simp at h
  simpa [and_assoc] using h
theorem pe_9 {j : Nat} (h : j < 13) {ad : Nat → Nat} {S : Hp} (W : Wd ad S) : aR S (ad 9) j = some (ad (10 + j)) := W.2.2.2.1 _ (pe_9_ j h).1
theorem pek_9 {j : Nat} (h : j < 13) : kS true (10 + j) = 14 := (pe_9_ j h).2.1
theorem pel_9 {j : Nat} (h : j < 13) : LN (10 + j) = 16000 := (pe_9_ j h).2.2
theorem pe_64_ (j : Nat) (hj : j < 4) : (64, j, (125 + j)) ∈ wqL ∧ kS true (125 + j) = 5 ∧ LN (125 + j) = 0 := by
  have h := all_lt (p := fun j => wqL.contains (64, j, (125 + j)) && kS true (125 + j) == 5 && LN (125 + j) == 0) (by decide +kernel) hj
  simp at h
  simpa [and_assoc] using h
theorem pe_64 {j : Nat} (h : j < 4) {ad : Nat → Nat} {S : Hp} (W : Wd ad S) : aR S (ad 64) j = some (ad (125 + j)) := W.2.2.2.1 _ (pe_64_ j h).1
theorem pek_64 {j : Nat} (h : j < 4) : kS true (125 + j) = 5 := (pe_64_ j h).2.1
theorem pel_64 {j : Nat} (h : j < 4) : LN (125 + j) = 0 := (pe_64_ j h).2.2
theorem pe_63_ (j : Nat) (hj : j < 3) : (63, j, (98 + 9 * j)) ∈ wqL ∧ kS true (98 + 9 * j) = 1 ∧ LN (98 + 9 * j) = 0 := by
  have h := all_lt (p := fun j => wqL.contains (63, j, (98 + 9 * j)) && kS true (98 + 9 * j) == 1 && LN (98 + 9 * j) == 0) (by decide +kernel) hj
  simp at h
  simpa [and_assoc] using h
theorem pe_63 {j : Nat} (h : j < 3) {ad : Nat → Nat} {S : Hp} (W : Wd ad S) : aR S (ad 63) j = some (ad (98 + 9 * j)) := W.2.2.2.1 _ (pe_63_ j h).1
theorem pek_63 {j : Nat} (h : j < 3) : kS true (98 + 9 * j) = 1 := (pe_63_ j h).2.1
theorem pel_63 {j : Nat} (h : j < 3) : LN (98 + 9 * j) = 0 := (pe_63_ j h).2.2
theorem pe_38_ (j : Nat) (hj : j < 16) : (38, j, (66 + 2 * j)) ∈ wqL ∧ kS true (66 + 2 * j) = 10 ∧ LN (66 + 2 * j) = 0 := by
  have h := all_lt (p := fun j => wqL.contains (38, j, (66 + 2 * j)) && kS true (66 + 2 * j) == 10 && LN (66 + 2 * j) == 0) (by decide +kernel) hj
  simp at h
  simpa [and_assoc] using h
theorem pe_38 {j : Nat} (h : j < 16) {ad : Nat → Nat} {S : Hp} (W : Wd ad S) : aR S (ad 38) j = some (ad (66 + 2 * j)) := W.2.2.2.1 _ (pe_38_ j h).1
theorem pek_38 {j : Nat} (h : j < 16) : kS true (66 + 2 * j) = 10 := (pe_38_ j h).2.1
theorem pel_38 {j : Nat} (h : j < 16) : LN (66 + 2 * j) = 0 := (pe_38_ j h).2.2
