/-! Where the bytes come from, on both sides. -/
def SRC (c m : Mm) (d A o M o' n : Nat) (F : Nat → Nat) : Prop := (gR c 500 (125 + d) = some A) ∧ ((A = 2 ∧ o + n ≤ 12000) ∨ (A = 43 ∧ 0 < d ∧ o + n ≤ 24000)) ∧ (gR m 1226 133 = some M) ∧ ((M = 152 ∧ o' + n ≤ 12000) ∨ (M = 156 ∧ o' + n ≤ 1500 * d)) ∧ (gI c 502 (125 + d) = nI (o + n)) ∧ (gI m 1228 133 = nI (o' + n)) ∧ (∀ i, i < n → gA c A (o + i) = gA m M (o' + i)) ∧ (∀ i, i < n → gA m M (o' + i) &&& 255 = nI (F i)) ∧ (∀ i, F i < 256) ∧ (∀ i, i < n → byt (gA m M (o' + i)))
theorem SRC.a {c m : Mm} {d A o M o' n : Nat} {F : Nat → Nat} (h : SRC c m d A o M o' n F) : gR c 500 (125 + d) = some A := h.1
theorem SRC.k {c m : Mm} {d A o M o' n : Nat} {F : Nat → Nat} (h : SRC c m d A o M o' n F) : (A = 2 ∧ o + n ≤ 12000) ∨ (A = 43 ∧ 0 < d ∧ o + n ≤ 24000) := h.2.1
theorem SRC.b {c m : Mm} {d A o M o' n : Nat} {F : Nat → Nat} (h : SRC c m d A o M o' n F) : gR m 1226 133 = some M := h.2.2.1
theorem SRC.l {c m : Mm} {d A o M o' n : Nat} {F : Nat → Nat} (h : SRC c m d A o M o' n F) : (M = 152 ∧ o' + n ≤ 12000) ∨ (M = 156 ∧ o' + n ≤ 1500 * d) := h.2.2.2.1
theorem SRC.e {c m : Mm} {d A o M o' n : Nat} {F : Nat → Nat} (h : SRC c m d A o M o' n F) : gI c 502 (125 + d) = nI (o + n) := h.2.2.2.2.1
theorem SRC.e2 {c m : Mm} {d A o M o' n : Nat} {F : Nat → Nat} (h : SRC c m d A o M o' n F) : gI m 1228 133 = nI (o' + n) := h.2.2.2.2.2.1
theorem SRC.s {c m : Mm} {d A o M o' n : Nat} {F : Nat → Nat} (h : SRC c m d A o M o' n F) : ∀ i, i < n → gA c A (o + i) = gA m M (o' + i) := h.2.2.2.2.2.2.1
theorem SRC.f {c m : Mm} {d A o M o' n : Nat} {F : Nat → Nat} (h : SRC c m d A o M o' n F) : ∀ i, i < n → gA m M (o' + i) &&& 255 = nI (F i) := h.2.2.2.2.2.2.2.1
theorem SRC.g {c m : Mm} {d A o M o' n : Nat} {F : Nat → Nat} (h : SRC c m d A o M o' n F) : ∀ i, F i < 256 := h.2.2.2.2.2.2.2.2.1
theorem SRC.y {c m : Mm} {d A o M o' n : Nat} {F : Nat → Nat} (h : SRC c m d A o M o' n F) : ∀ i, i < n → byt (gA m M (o' + i)) := h.2.2.2.2.2.2.2.2.2
theorem SRC_mk {c m : Mm} {d A o M o' n : Nat} {F : Nat → Nat} (a : gR c 500 (125 + d) = some A) (k : (A = 2 ∧ o + n ≤ 12000) ∨ (A = 43 ∧ 0 < d ∧ o + n ≤ 24000)) (b : gR m 1226 133 = some M) (l : (M = 152 ∧ o' + n ≤ 12000) ∨ (M = 156 ∧ o' + n ≤ 1500 * d)) (e : gI c 502 (125 + d) = nI (o + n)) (e2 : gI m 1228 133 = nI (o' + n)) (s : ∀ i, i < n → gA c A (o + i) = gA m M (o' + i)) (f : ∀ i, i < n → gA m M (o' + i) &&& 255 = nI (F i)) (g : ∀ i, F i < 256) (y : ∀ i, i < n → byt (gA m M (o' + i))) : SRC c m d A o M o' n F := ⟨a, k, b, l, e, e2, s, f, g, y⟩
def PO (c m : Mm) (d o o' p : Nat) : Prop := gI c 501 (125 + d) = nI (o + p) ∧ gI m 1227 133 = nI (o' + p)
/-- the byte at a place; -1 behind the end -/
def bs (F : Nat → Nat) (n p : Nat) : Int32 := if p < n then nI (F p) else -1
section F5
variable {c c' c0 c1 c2 c3 m m' m0 m1 m2 m3 T : Mm} {d w b A o M o' n p r : Nat} {F : Nat → Nat} {ov ov' ng sg : Bool} {g L : Nat → Int32} {Gc Gm : Gty} {PF QF : Nat → Nat → Bool} {PA QA : Nat → Bool}
theorem SRC.n1 (h : SRC c m d A o M o' n F) : o + n ≤ LN A ∧ LN A ≤ 24000 := by
  rcases h.k with ⟨rfl, z⟩ | ⟨rfl, _, z⟩
  · exact ⟨z, by decide⟩
  · exact ⟨z, by decide⟩
theorem SRC.n2 (h : SRC c m d A o M o' n F) (hd : d ≤ 3) : o' + n ≤ LN M ∧ LN M ≤ 12000 := by
  rcases h.l with ⟨rfl, z⟩ | ⟨rfl, z⟩
  · exact ⟨z, by decide⟩
  · exact ⟨Nat.le_trans z (Nat.le_trans (Nat.mul_le_mul_left 1500 hd) (by decide)), by decide⟩
theorem SRC.r1 {α : Type} (h : SRC c m d A o M o' n F) (K : Nat → Option α) : rf true (gR c 500 (125 + d)) 13 K = K A := rf_eq h.a (by
  rcases h.k with ⟨rfl, z⟩ | ⟨rfl, _, z⟩ <;> decide)
theorem SRC.r2 {α : Type} (h : SRC c m d A o M o' n F) (K : Nat → Option α) : rf false (gR m 1226 133) 13 K = K M := rf_eq h.b (by
  rcases h.l with ⟨rfl, z⟩ | ⟨rfl, z⟩ <;> decide)
theorem bs_cases (F : Nat → Nat) (hF : ∀ i, F i < 256) (n p : Nat) : (p < n ∧ bs F n p = nI (F p)) ∨ (n ≤ p ∧ bs F n p = -1) := by
  unfold bs
  by_cases q : p < n
  · exact Or.inl ⟨q, if_pos q⟩
  · exact Or.inr ⟨by omega, if_neg q⟩
theorem c_byteAt (h : SRC c m d A o M o' n F) (hp : p < 40000) : f_X5_byteAt (125 + d) (nI (o + p)) c = some (bs F n p, c) := by
  have n1 := h.n1
  unfold f_X5_byteAt bs
  rw [if_neg (nI_pos (by omega)), h.e]
  by_cases q : p < n
  · rw [if_neg (nI_ge (by omega) (by omega)), h.r1, if_neg (show ¬ Int32.ofNat (LN A) ≤ nI (o + p) from nI_ge (b := LN A) (by omega) (by omega)), h.r1, ix_in (j := o + p) (nI_pos (by omega)) (nI_clamp (by omega)) (by omega), h.s p q, h.f p q, if_pos q]
  · rw [if_pos (nI_le (by omega) (by omega)), if_neg q]
theorem c_next (h : SRC c m d A o M o' n F) (e : gI c 501 (125 + d) = nI (o + p)) (hp : p < 40000) : f_X5_next (125 + d) c = some (bs F n p, c) := by
  unfold f_X5_next
  rw [e, c_byteAt h hp, bd_eq]
theorem c_more (h : SRC c m d A o M o' n F) (e : gI c 501 (125 + d) = nI (o + p)) (hp : p < 40000) : f_X5_hasMore (125 + d) c = some (cI (decide (p < n)), c) := by
  have n1 := h.n1
  unfold f_X5_hasMore
  rw [h.e, e]
  by_cases q : p < n
  · rw [if_neg (nI_ge (by omega) (by omega)), decide_eq_true q]; rfl
  · rw [if_pos (nI_le (by omega) (by omega)), decide_eq_false q]; rfl
theorem m_peek (h : SRC c m d A o M o' n F) (hd : d ≤ 3) (e : gI m 1227 133 = nI (o' + p)) (hp : p < 40000) : f_X12_peek m = some (bs F n p, m) := by
  have n2 := h.n2 hd
  unfold f_X12_peek bs
  rw [h.e2, e]
  by_cases q : p < n
  · rw [if_neg (nI_ge (by omega) (by omega)), h.r2, ix_in (j := o' + p) (nI_pos (by omega)) (nI_clamp (by omega)) (by omega), h.f p q, if_pos q]
  · rw [if_pos (nI_le (by omega) (by omega)), if_neg q]
theorem m_more (h : SRC c m d A o M o' n F) (hd : d ≤ 3) (e : gI m 1227 133 = nI (o' + p)) (hp : p < 40000) (h0 : gI m 1233 133 = 0) : f_X12_hasMore m = some (cI (decide (p < n)), m) := by
  have n2 := h.n2 hd
  unfold f_X12_hasMore
  rw [h.e2, e, h0, if_pos rfl]
  by_cases q : p < n
  · rw [if_neg (nI_ge (by omega) (by omega)), decide_eq_true q]; rfl
  · rw [if_pos (nI_le (by omega) (by omega)), decide_eq_false q]; rfl
theorem SRC.fr (h : SRC c m d A o M o' n F) (fc : Fr PF PA c c') (fm : Fr QF QA m m') (e1 : PF 500 (125 + d) = false ∧ PF 502 (125 + d) = false) (e2 : PA 2 = false ∧ (0 < d → PA 43 = false)) (e3 : QF 1226 133 = false ∧ QF 1228 133 = false) (e4 : QA 152 = false) (e5 : ∀ j, j < 1500 * d → gA m' 156 j = gA m 156 j) : SRC c' m' d A o M o' n F := by
  have ea : gA c' A = gA c A := by
    rcases h.k with ⟨rfl, z⟩ | ⟨rfl, z, _⟩
    · exact fc.a e2.1
    · exact fc.a (e2.2 z)
  have eb : ∀ i, i < n → gA m' M (o' + i) = gA m M (o' + i) := fun i hi => by
    rcases h.l with ⟨rfl, z⟩ | ⟨rfl, z⟩
    · rw [fm.a e4]
    · exact e5 _ (by omega)
  refine SRC_mk ?_ h.k ?_ h.l ?_ ?_ ?_ ?_ h.g ?_
  · rw [fc.r e1.1]; exact h.a
  · rw [fm.r e3.1]; exact h.b
  · rw [fc.i e1.2]; exact h.e
  · rw [fm.i e3.2]; exact h.e2
  · intro i hi; rw [ea, eb i hi]; exact h.s i hi
  · intro i hi; rw [eb i hi]; exact h.f i hi
  · intro i hi; rw [eb i hi]; exact h.y i hi
/-! what reading changes -/
def gcF (f i : Nat) : Bool := (i == 23 && f == 916) || (decide (125 ≤ i) && decide (i ≤ 128))
def gmF (f i : Nat) : Bool := i == 133 && (f == 1227 || f == 1228 || f == 1232 || f == 1251 || f == 1252 || f == 1253 || f == 1254)
def gmG (f i : Nat) : Bool := i == 133 && (f == 1226 || f == 1227 || f == 1228 || f == 1232 || f == 1233 || f == 1251 || f == 1252 || f == 1253 || f == 1254)
theorem RR.gone {q : Nat} (h : RR d ov c m) (fc : Fr gcF noA c c') (fm : Fr gmF noA m m') (g1 : gI c' 916 23 = nI q) (g2 : gI m' 1232 133 = nI q) (hq : q ≤ 60000) : RR d ov c' m' := by
  obtain ⟨k, v, hcv⟩ := h.cv
  obtain ⟨p, hp1, hp2⟩ := h.sh.pp
  have e34 : gA m' 134 = gA m 134 := fm.a rfl
  exact RR_mk (by rw [e34]; exact h.ev.fr fc (fun f i a b => by unfold gcF; simp; omega) (fun _ _ _ => rfl)) (by rw [e34]; exact h.eb) (by rw [fc.i rfl]; exact h.d1) (by rw [fm.i (by rfl)]; exact h.d2) h.d3 (by rw [fc.i rfl]; exact h.o1) (by rw [fm.i (by rfl)]; exact h.o2) (by rw [fm.i (by rfl)]; exact h.im) ⟨q, g1, g2, hq⟩
    ⟨k, v, hcv.fr fc fm (by rw [e34]) (by rw [e34]) ⟨rfl, rfl, rfl⟩ ⟨rfl, rfl⟩ rfl rfl⟩ (h.sh.fr hp1 hp2 fc fm (fun f => by unfold gcF; simp) ⟨rfl, rfl, rfl, fun i hi => rfl⟩ ⟨rfl, rfl, rfl, rfl⟩ ⟨rfl, rfl, rfl, rfl⟩) (h.tb.fr fm rfl rfl) (h.ft.fr fc fm ⟨rfl, rfl, rfl, rfl, rfl, rfl⟩ ⟨rfl, rfl, rfl, rfl, rfl, rfl, rfl⟩ rfl)
    (h.ka.fr fc ⟨rfl, rfl⟩ ⟨rfl, rfl, rfl⟩) (h.tl.fr fc fm rfl ⟨rfl, rfl, rfl, rfl, rfl⟩ (fun f i a b => by unfold gcF; simp; omega) (fun _ _ _ => rfl)) (h.mc.fr fc fm ⟨rfl, rfl, rfl⟩ ⟨rfl, rfl, rfl, rfl⟩) (by rw [fc.r rfl]; exact h.rd) (by rw [fm.r (by rfl)]; exact h.sc)
/-- reading that changes no count -/
theorem RR.gone0 (h : RR d ov c m) (fc : Fr gcF noA c c') (fm : Fr gmF noA m m') (g1 : gI c' 916 23 = gI c 916 23) (g2 : gI m' 1232 133 = gI m 1232 133) : RR d ov c' m' := by
  obtain ⟨q, q1, q2, q3⟩ := h.gn
  exact h.gone fc fm (g1.trans q1) (g2.trans q2) q3
theorem gc_ns {f i : Nat} (e : gcF f i = true) : cNS f i = true := by
  unfold gcF at e
  have : (i = 23 ∧ f = 916) ∨ (125 ≤ i ∧ i ≤ 128) := by simpa using e
  unfold cNS
  simp; omega
theorem gm_ns {f i : Nat} (e : gmG f i = true) : mNS f i = true := by
  unfold gmG at e
  have : i = 133 ∧ (f = 1226 ∨ f = 1227 ∨ f = 1228 ∨ f = 1232 ∨ f = 1233 ∨ f = 1251 ∨ f = 1252 ∨ f = 1253 ∨ f = 1254) := by simpa [or_assoc] using e
  unfold mNS
  simp; omega
theorem RR.over {q : Nat} (h : RR d ov c m) (fc : Fr gcF noA c c') (fm : Fr gmG noA m m') (g1 : gI c' 916 23 = nI q) (hq : 60000 < q) (hq2 : q < 2147483648) (g2 : gI m' 1233 133 = 1) : MU d ov c' m' :=
  h.mu (g' := gA m 134) fc fm (fun _ _ e => gc_ns e) (fun _ e => by cases e) (fun _ _ e => gm_ns e) (fun _ e => by cases e) ⟨rfl, rfl, rfl⟩ (h.ev.fr fc (fun f i a b => by unfold gcF; simp; omega) (fun _ _ _ => rfl)) h.eb (h.ka.fr fc ⟨rfl, rfl⟩ ⟨rfl, rfl, rfl⟩) (mu_of (Or.inl ⟨q, g1, hq, hq2⟩)) g2
theorem MU.read (h : MU d ov c m) (fc : Fr gcF noA c c') (fm : Fr gmG noA m m') (g1 : gI c' 916 23 = gI c 916 23) (g2 : gI m' 1233 133 = 1) : MU d ov c' m' := by
  obtain ⟨g, ev, eb⟩ := h.wc.ev
  exact h.fr fc fm (fun _ _ e => gc_ns e) (fun _ e => by cases e) (fun _ _ e => gm_ns e) (fun _ e => by cases e) ⟨rfl, rfl, rfl⟩ ⟨g, ev.fr fc (fun f i a b => by unfold gcF; simp; omega) (fun _ _ _ => rfl), eb⟩ (h.wc.ka.fr fc ⟨rfl, rfl⟩ ⟨rfl, rfl, rfl⟩) (mu_fr h.wc.mu g1 (fc.i rfl) (fc.i rfl)) g2
end F5
