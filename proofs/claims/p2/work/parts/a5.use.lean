/-! The font in use on both sides; the relation behind frames. -/
def rrF (f i : Nat) : Bool := (i == 23 && (f == 913 || f == 914 || f == 915 || f == 916)) || (i == 24 && (f == 2 || f == 4 || f == 5)) || i == 5 || (decide (45 ≤ i) && decide (i ≤ 53)) || (decide (66 ≤ i) && decide (i ≤ 97))
def rrA (a : Nat) : Bool := a == 6 || a == 7 || a == 8 || (decide (10 ≤ a) && decide (a ≤ 22)) || a == 25 || (decide (29 ≤ a) && decide (a ≤ 34)) || a == 37 || a == 42 || a == 43 || a == 44 || (decide (45 ≤ a) && decide (a ≤ 53)) || (decide (66 ≤ a) && decide (a ≤ 97))
def rmF (f i : Nat) : Bool := i == 133 && (f == 1209 || f == 1226 || (decide (1229 ≤ f) && decide (f ≤ 1233)) || f == 1235 || f == 1240 || f == 1242 || f == 1249 || f == 1266)
def rmA (a : Nat) : Bool := a == 134 || (decide (136 ≤ a) && decide (a ≤ 151)) || a == 157 || (decide (158 ≤ a) && decide (a ≤ 161)) || a == 165 || a == 166
section A5
variable {c c' m m' : Mm} {d : Nat} {ov : Bool} {PF QF : Nat → Nat → Bool} {PA QA : Nat → Bool}
theorem rr_env {i : Nat} (h1 : 45 ≤ i) (h2 : i ≤ 53) (f : Nat) : rrF f i = true ∧ rrA i = true := by
  unfold rrF rrA
  rw [decide_eq_true h1, decide_eq_true h2]; simp
theorem rr_tl {i : Nat} (h1 : 66 ≤ i) (h2 : i ≤ 97) (f : Nat) : rrF f i = true ∧ rrA i = true := by
  unfold rrF rrA
  rw [decide_eq_true h1, decide_eq_true h2]; simp
theorem rr_pg {i : Nat} (h1 : 10 ≤ i) (h2 : i ≤ 22) : rrA i = true := by
  unfold rrA
  rw [decide_eq_true h1, decide_eq_true h2]; simp
theorem Sh.pp (h : Sh c m) : ∃ p, gI c 602 5 = nI p ∧ p ≤ 12 := by
  obtain ⟨s, p, _, z1, _, z3, _⟩ := h
  exact ⟨p, z1, z3⟩
/-- what the relation doesn't speak of may change -/
theorem RR.fr (h : RR d ov c m) (fc : Fr PF PA c c') (fm : Fr QF QA m m') (e1 : ∀ f i, rrF f i = true → PF f i = false) (e2 : ∀ a, rrA a = true → PA a = false) (e3 : ∀ f i, rmF f i = true → QF f i = false) (e4 : ∀ a, rmA a = true → QA a = false) (ka : KA c') : RR d ov c' m' := by
  obtain ⟨q, q1, q2, q3⟩ := h.gn
  obtain ⟨k, v, hcv⟩ := h.cv
  obtain ⟨p, hp1, hp2⟩ := h.sh.pp
  have e34 : gA m' 134 = gA m 134 := fm.a (e4 _ rfl)
  exact RR_mk (by rw [e34]; exact h.ev.fr fc (fun f i a b => e1 _ _ (rr_env a b f).1) (fun i a b => e2 _ (rr_env a b 0).2)) (by rw [e34]; exact h.eb) (by rw [fc.i (e1 _ _ rfl)]; exact h.d1) (by rw [fm.i (e3 _ _ rfl)]; exact h.d2) h.d3 (by rw [fc.i (e1 _ _ rfl)]; exact h.o1) (by rw [fm.i (e3 _ _ rfl)]; exact h.o2) (by rw [fm.i (e3 _ _ rfl)]; exact h.im) ⟨q, by rw [fc.i (e1 _ _ rfl)]; exact q1, by rw [fm.i (e3 _ _ rfl)]; exact q2, q3⟩
    ⟨k, v, hcv.fr fc fm (by rw [e34]) (by rw [e34]) ⟨e1 _ _ rfl, e1 _ _ rfl, e1 _ _ rfl⟩ ⟨e3 _ _ rfl, e3 _ _ rfl⟩ (e2 _ rfl) (e4 _ rfl)⟩ (h.sh.fr hp1 hp2 fc fm (fun f => e1 _ _ (by unfold rrF; simp)) ⟨e2 _ rfl, e2 _ rfl, e2 _ rfl, fun i hi => e2 _ (rr_pg (by omega) (by omega))⟩ ⟨e3 _ _ rfl, e3 _ _ rfl, e3 _ _ rfl, e3 _ _ rfl⟩ ⟨e4 _ rfl, e4 _ rfl, e4 _ rfl, e4 _ rfl⟩) (h.tb.fr fm (e4 _ rfl) (e4 _ rfl)) (h.ft.fr fc fm ⟨e2 _ rfl, e2 _ rfl, e2 _ rfl, e2 _ rfl, e2 _ rfl, e2 _ rfl⟩ ⟨e4 _ rfl, e4 _ rfl, e4 _ rfl, e4 _ rfl, e4 _ rfl, e4 _ rfl, e4 _ rfl⟩ (e3 _ _ rfl))
    ka (h.tl.fr fc fm (e2 _ rfl) ⟨e4 _ rfl, e4 _ rfl, e4 _ rfl, e4 _ rfl, e4 _ rfl⟩ (fun f i a b => e1 _ _ (rr_tl a b f).1) (fun i a b => e2 _ (rr_tl a b 0).2)) (h.mc.fr fc fm ⟨e2 _ rfl, e2 _ rfl, e2 _ rfl⟩ ⟨e4 _ rfl, e4 _ rfl, e4 _ rfl, e4 _ rfl⟩) (by rw [fc.r (e1 _ _ rfl)]; exact h.rd) (by rw [fm.r (e3 _ _ rfl)]; exact h.sc)
/-! congruence of the choice -/
def eq17 (C D : Nat → Bool) : Prop := ∀ f, f < 17 → C f = D f
theorem fkeep_c {C D P Q : Nat → Bool} (h : eq17 C D) (h2 : eq17 P Q) : eq17 (fkeep C P) (fkeep D Q) := fun f hf => by
  have e : (List.range 17).any (fun f => C f && P f) = (List.range 17).any (fun f => D f && Q f) := by
    rw [Bool.eq_iff_iff, any17, any17]
    constructor
    · rintro ⟨j, a, b⟩; exact ⟨j, a, by rw [← h j a, ← h2 j a]; exact b⟩
    · rintro ⟨j, a, b⟩; exact ⟨j, a, by rw [h j a, h2 j a]; exact b⟩
  unfold fkeep
  rw [e, h f hf, h2 f hf]
theorem fnear_c {C D : Nat → Bool} {n n' : Nat → Int} {v v' : Int} (h : eq17 C D) (h2 : ∀ f, f < 17 → n f = n' f) (hv : v = v') : eq17 (fnear C n v) (fnear D n' v') := fun f hf => by
  subst hv
  rw [Bool.eq_iff_iff, fnear_t, fnear_t, h f hf, h2 f hf]
  constructor
  · rintro ⟨a, b⟩; exact ⟨a, fun j hj hc => by rw [← h2 j hj]; exact b j hj (by rw [h j hj]; exact hc)⟩
  · rintro ⟨a, b⟩; exact ⟨a, fun j hj hc => by rw [h2 j hj]; exact b j hj (by rw [← h j hj]; exact hc)⟩
theorem ffr_c {C D : Nat → Bool} : ∀ (n k : Nat), (∀ j, k ≤ j → j < k + n → C j = D j) → ffr C n k = ffr D n k := by
  intro n
  induction n with
  | zero => intro k _; rfl
  | succ n ih =>
    intro k h
    unfold ffr
    rw [h k (by omega) (by omega), ih (k + 1) (fun j a b => h j (by omega) (by omega))]
theorem fcho_c {th th' : Nat → Bool} {nm nm' : Nat → Nat → Int32} {w w' : Nat → Int32} (h : eq17 th th') (h2 : ∀ f k, f < 17 → k < 7 → nm f k = nm' f k) (h3 : ∀ k, k < 7 → w k = w' k) : fcho th nm w = fcho th' nm' w' := by
  have ke : ∀ k, k < 7 → eq17 (fun f => decide (nm f k = w k)) (fun f => decide (nm' f k = w' k)) := fun k hk f hf => by
    show decide _ = decide _
    rw [h2 f k hf hk, h3 k hk]
  have nr : ∀ {C D : Nat → Bool} (k : Nat), k < 7 → eq17 C D → eq17 (fnear C (fun f => (nm f k).toInt) (w k).toInt) (fnear D (fun f => (nm' f k).toInt) (w' k).toInt) := fun k hk e => fnear_c e (fun f hf => by rw [h2 f k hf hk]) (by rw [h3 k hk])
  have a := fkeep_c h (ke 6 (by omega))
  have b := fkeep_c a (ke 0 (by omega))
  unfold fcho
  simp only []
  rw [h3 0 (by omega)]
  have fin : ∀ {C D : Nat → Bool}, eq17 C D → ffirst (fkeep (fnear (fkeep (fnear C (fun f => (nm f 2).toInt) (w 2).toInt) (fun f => decide (nm f 3 = w 3))) (fun f => (nm f 4).toInt) (w 4).toInt) (fun f => decide (nm f 5 = w 5))) = ffirst (fkeep (fnear (fkeep (fnear D (fun f => (nm' f 2).toInt) (w' 2).toInt) (fun f => decide (nm' f 3 = w' 3))) (fun f => (nm' f 4).toInt) (w' 4).toInt) (fun f => decide (nm' f 5 = w' 5))) := fun e => by
    have e2 := fkeep_c (nr 4 (by omega) (fkeep_c (nr 2 (by omega) e) (ke 3 (by omega)))) (ke 5 (by omega))
    unfold ffirst
    exact ffr_c 17 0 (fun j _ hj => e2 j (by omega))
  rw [h3 0 (by omega)] at b
  by_cases q : w' 0 = 0
  · rw [if_pos q, if_pos q]; exact fin (nr 1 (by omega) b)
  · rw [if_neg q, if_neg q]; exact fin b
theorem fiu_c {th th' : Nat → Bool} {nm nm' : Nat → Nat → Int32} {w w' : Nat → Int32} (h : eq17 th th') (h2 : ∀ f k, f < 17 → k < 7 → nm f k = nm' f k) (h3 : ∀ k, k < 8 → w k = w' k) (wb : WB8 w) : fiu th nm w = fiu th' nm' w' := by
  unfold fiu
  rw [fcho_c h h2 (fun k hk => h3 k (by omega)), ← h3 7 (by omega)]
  by_cases q : w 7 = -1
  · rw [if_neg (fun z => z.1 q), if_neg (fun z => z.1 q)]
  · obtain ⟨z, z1, z2, z3⟩ := iz_lh ⟨wb.2.1, wb.2.2⟩
    have zn : ¬ z = -1 := fun e => q (by rw [z1, e]; decide)
    have hz : (w 7).toNatClampNeg < 17 := by rw [z1, iz_nat_clamp (by omega) (by omega)]; omega
    rw [h _ hz]
theorem fcho_lt {th : Nat → Bool} {nm : Nat → Nat → Int32} {w : Nat → Int32} (ne : NE th) : fcho th nm w < 17 ∧ th (fcho th nm w) = true := by
  have kp : ∀ {C P : Nat → Bool} {f : Nat}, fkeep C P f = true → C f = true := fun {C P f} h => by
    unfold fkeep at h
    split at h
    · exact ((Bool.and_eq_true _ _).mp h).1
    · exact h
  have fin : ∀ {C : Nat → Bool}, NE C → ffirst (fkeep (fnear (fkeep (fnear C (fun f => (nm f 2).toInt) (w 2).toInt) (fun f => decide (nm f 3 = w 3))) (fun f => (nm f 4).toInt) (w 4).toInt) (fun f => decide (nm f 5 = w 5))) < 17 ∧ C (ffirst (fkeep (fnear (fkeep (fnear C (fun f => (nm f 2).toInt) (w 2).toInt) (fun f => decide (nm f 3 = w 3))) (fun f => (nm f 4).toInt) (w 4).toInt) (fun f => decide (nm f 5 = w 5)))) = true := fun {C} n => by
    obtain ⟨r, r1, r2, r3, r4⟩ := ((n.near (n := fun f => (nm f 2).toInt) (v := (w 2).toInt)).keep (P := fun f => decide (nm f 3 = w 3))).near (n := fun f => (nm f 4).toInt) (v := (w 4).toInt) |>.keep (P := fun f => decide (nm f 5 = w 5)) |>.least
    rw [r4]
    exact ⟨r1, (fnear_t.mp (kp (fnear_t.mp (kp r2)).1)).1⟩
  unfold fcho
  simp only []
  have n2 := (ne.keep (P := fun f => decide (nm f 6 = w 6))).keep (P := fun f => decide (nm f 0 = w 0))
  by_cases q : w 0 = 0
  · rw [if_pos q]
    have := fin (n2.near (n := fun f => (nm f 1).toInt) (v := (w 1).toInt))
    exact ⟨this.1, kp (kp (fnear_t.mp this.2).1)⟩
  · rw [if_neg q]
    have := fin n2
    exact ⟨this.1, kp (kp this.2)⟩
theorem fiu_lt {th : Nat → Bool} {nm : Nat → Nat → Int32} {w : Nat → Int32} (ne : NE th) (wb : WB8 w) : fiu th nm w < 17 ∧ th (fiu th nm w) = true := by
  unfold fiu
  by_cases q : ¬ w 7 = -1 ∧ th (w 7).toNatClampNeg = true
  · rw [if_pos q]
    obtain ⟨z, z1, z2, z3⟩ := iz_lh ⟨wb.2.1, wb.2.2⟩
    exact ⟨by rw [z1, iz_nat_clamp (by omega) (by omega)]; omega, q.2⟩
  · rw [if_neg q]; exact fcho_lt ne
/-! the class's kept answer -/
def cIU (f i : Nat) : Bool := i == 27 && (f == 208 || f == 209)
def cIA (a : Nat) : Bool := a == 35
theorem c_has {z : Int} (h1 : -1 ≤ z) (h2 : z ≤ 16) : f_X2_has (iz z) c = some (cI (decide (¬ z = -1) && thC c z.toNat), c) := by
  unfold f_X2_has
  by_cases q : z = 16
  · subst q; rw [if_pos (by decide)]; rfl
  · rw [if_neg (show ¬ iz z = 16 from fun y => q ((iz_inj (b := 16) (by omega) (by omega) (by omega) (by omega)).mp y))]
    by_cases q2 : z = -1
    · subst q2
      unfold f_X8_has
      rw [if_pos (by decide), bd_eq, if_pos rfl]; rfl
    · obtain ⟨u, rfl⟩ : ∃ u : Nat, z = (u : Int) := ⟨z.toNat, by omega⟩
      rw [← nI_iz, sp_has (by omega), bd_eq, decide_eq_true q2, Bool.true_and]
      have : thC c (u : Int).toNat = !decide (gA c (28 + 1) u = 0) := by
        unfold thC
        rw [show (u : Int).toNat = u from rfl, show (u == 16) = false by simp; omega]; rfl
      rw [this]
      cases decide (gA c (28 + 1) u = 0) <;> rfl
theorem c_same {v : Nat} (hv : LN v = 8) : ∀ (n i : Nat), 8 - i < n → i ≤ 8 → (∀ j, j < i → gA c v j = gA c 35 j) → ∃ b : Bool, (b = true → ∀ j, j < 8 → gA c v j = gA c 35 j) ∧ f_X2_inUse_l22 n v 1 (nI i) c = f_X2_inUse_56 v (cI b) c := by
  intro n
  induction n with
  | zero => intro i h; omega
  | succ n ih =>
    intro i h1 h2 h3
    show ∃ b, _ ∧ f_X2_inUse_b22 (f_X2_inUse_l22 n) v 1 (nI i) c = _
    unfold f_X2_inUse_b22
    rw [if_neg (by decide)]
    by_cases q : i = 8
    · subst q
      rw [if_pos (by decide)]
      exact ⟨true, fun _ => h3, rfl⟩
    · rw [if_neg (show ¬ (8 : Int32) ≤ nI i from nI_ge (b := 8) (by omega) (by omega)), hv, ix_in (j := i) (nI_pos (by omega)) (nI_clamp (by omega)) (by omega), ix_in (j := i) (nI_pos (by omega)) (nI_clamp (by omega)) (by omega), show nI i + 1 = nI (i + 1) from nI_add i 1]
      by_cases e : gA c v i = gA c 35 i
      · rw [if_pos e]
        exact ih (i + 1) (by omega) (by omega) (fun j hj => by
          by_cases y : j = i
          · rw [y]; exact e
          · exact h3 j (by omega))
      · rw [if_neg e]
        refine ⟨false, fun y => (by cases y), ?_⟩
        cases n with
        | zero => omega
        | succ n =>
          show f_X2_inUse_b22 (f_X2_inUse_l22 n) v 0 (nI (i + 1)) c = _
          unfold f_X2_inUse_b22
          rw [if_pos (by decide)]; rfl
theorem c_inUse {v : Nat} (hv : LN v = 8) (hv2 : v ≠ 35 ∧ v ≠ 29 ∧ v ≠ 30) (ka : KA c) (nb : NB c) (wb : WB8 (fun k => gA c v (iwp k))) : ∃ c', f_X2_inUse v c = some (nI (fiu (thC c) (nmC c) (fun k => gA c v (iwp k))), c') ∧ Fr cIU cIA c c' ∧ KA c' := by
  have iw : ∀ k, k < 8 → iwp k < 8 := by decide
  have e56 : ∀ b : Bool, (b = true → gI c 209 27 = 1 ∧ ∀ j, j < 8 → gA c v j = gA c 35 j) → ∃ c', f_X2_inUse_56 v (cI b) c = some (nI (fiu (thC c) (nmC c) (fun k => gA c v (iwp k))), c') ∧ Fr cIU cIA c c' ∧ KA c' := by
    intro b hb
    unfold f_X2_inUse_56
    cases b
    · rw [if_pos (by rfl), hv, if_neg (by decide)]
      have ecp : ∀ {α : Type} (k : Nat → Nat → Nat → Option α), cp 0 0 8 8 8 k = k 0 0 8 := fun k => by
        unfold cp
        rw [if_neg (by decide)]; rfl
      rw [ecp, lb_eq]
      have e35 : ∀ j, j < 8 → va_cpy (gA c v) (gA c 35) 0 0 8 j = gA c v j := fun j hj => sb_cpy0 hj
      have f1 : Fr cIU cIA c (vA c 35 (va_cpy (gA c v) (gA c 35) 0 0 8)) := Fr.refl.vA _ (by rfl)
      have a1 : ∀ j, j < 8 → gA (vA c 35 (va_cpy (gA c v) (gA c 35) 0 0 8)) 35 j = gA c v j := fun j hj => by rw [gA_vA_s]; exact e35 j hj
      generalize vA c 35 (va_cpy (gA c v) (gA c 35) 0 0 8) = c1 at f1 a1
      have t1 : thC c1 = thC c := by unfold thC; rw [f1.a rfl]
      have t2 : nmC c1 = nmC c := by unfold nmC; rw [f1.a rfl]
      have nb1 : NB c1 := by unfold NB; rw [f1.a rfl]; exact nb
      have w1 : ∀ k, k < 8 → wC c1 k = gA c v (iwp k) := fun k hk => a1 _ (iw k hk)
      have wb1 : WB8 (wC c1) := ⟨fun k hk => by rw [w1 k (by omega)]; exact wb.1 k hk, by rw [w1 7 (by omega)]; exact wb.2.1, by rw [w1 7 (by omega)]; exact wb.2.2⟩
      have efi : fiu (thC c) (nmC c) (fun k => gA c v (iwp k)) = fiu (thC c1) (nmC c1) (wC c1) := by
        rw [t1, t2]
        exact fiu_c (fun _ _ => rfl) (fun _ _ _ _ => rfl) (fun k hk => (w1 k hk).symm) wb
      rw [efi]
      have fin : ∀ w : Int32, w = nI (fiu (thC c1) (nmC c1) (wC c1)) → Fr cIU cIA c (uI (uI c1 208 27 w) 209 27 1) ∧ KA (uI (uI c1 208 27 w) 209 27 1) ∧ gI (uI (uI c1 208 27 w) 209 27 1) 208 27 = w := fun w hw => by
        refine ⟨(f1.uI _ (by rfl)).uI _ (by rfl), KA_mk (Or.inr (by rw [gI_uI, if_pos ⟨rfl, rfl⟩])) (fun _ => ?_), ?_⟩
        · rw [gI_uI, if_neg (by decide), gI_uI, if_pos ⟨rfl, rfl⟩, hw]; rfl
        · rw [gI_uI, if_neg (by decide), gI_uI, if_pos ⟨rfl, rfl⟩]
      obtain ⟨z, z1, z2, z3⟩ := iz_lh ⟨wb1.2.1, wb1.2.2⟩
      have z1' : gA c1 35 7 = iz z := z1
      rw [z1', c_has z2 z3, bd_eq]
      have ef : fiu (thC c1) (nmC c1) (wC c1) = if (decide (¬ z = -1) && thC c1 z.toNat) = true then z.toNat else fcho (thC c1) (nmC c1) (wC c1) := by
        unfold fiu
        rw [z1, iz_nat_clamp (by omega) (by omega)]
        have : (¬ iz z = -1) ↔ ¬ z = -1 := by
          rw [show (-1 : Int32) = iz (-1) by decide, iz_inj (by omega) (by omega) (by omega) (by omega)]
        simp only [this, Bool.and_eq_true, decide_eq_true_eq]
      cases hb : (decide (¬ z = -1) && thC c1 z.toNat)
      · rw [hb, if_neg (by decide)] at ef
        rw [if_pos (by rfl), c_choose nb1 wb1, bd_eq, lb_eq, lb_eq]
        obtain ⟨g1, g2, g3⟩ := fin (nI (fcho (thC c1) (nmC c1) (wC c1))) (by rw [ef])
        exact ⟨_, by rw [g3, ef], g1, g2⟩
      · rw [hb, if_pos rfl] at ef
        have hz := (Bool.and_eq_true _ _).mp hb
        have hz1 : ¬ z = -1 := by simpa using hz.1
        obtain ⟨u, rfl⟩ : ∃ u : Nat, z = (u : Int) := ⟨z.toNat, by omega⟩
        rw [if_neg (by decide), lb_eq, lb_eq, z1']
        obtain ⟨g1, g2, g3⟩ := fin (iz (u : Int)) (by rw [ef, nI_iz]; rfl)
        exact ⟨_, by rw [g3, ef, nI_iz]; rfl, g1, g2⟩
    · obtain ⟨h1, h2⟩ := hb rfl
      rw [if_neg (by decide), ka.v h1]
      refine ⟨c, ?_, Fr.refl, ka⟩
      congr 2
      congr 1
      exact fiu_c (fun _ _ => rfl) (fun _ _ _ _ => rfl) (fun k hk => (h2 _ (iw k hk)).symm) ⟨fun k hk => (by dsimp only; rw [← h2 _ (iw k (by omega))]; exact wb.1 k hk), (by dsimp only; rw [← h2 _ (iw 7 (by omega))]; exact wb.2.1), (by dsimp only; rw [← h2 _ (iw 7 (by omega))]; exact wb.2.2)⟩
  unfold f_X2_inUse
  rcases ka.b with e | e
  · rw [if_pos e, show FU = 3999999999 + 1 from rfl]
    have : f_X2_inUse_l22 (3999999999 + 1) v 0 0 c = f_X2_inUse_56 v (cI false) c := by
      show f_X2_inUse_b22 (f_X2_inUse_l22 3999999999) v 0 0 c = _
      unfold f_X2_inUse_b22
      rw [if_pos (by decide)]; rfl
    rw [this]
    exact e56 false (fun y => by cases y)
  · rw [if_neg (by rw [e]; decide), hv, if_neg (by decide)]
    obtain ⟨b, b1, b2⟩ := c_same (c := c) hv FU 0 (FU_gt (by omega)) (by omega) (fun j hj => by omega)
    have b2' : f_X2_inUse_l22 FU v 1 0 c = f_X2_inUse_56 v (cI b) c := b2
    rw [b2']
    exact e56 b (fun y => ⟨e, b1 y⟩)
theorem FT.thEq (h : FT c m) : eq17 (thC c) (thM m) := fun f hf => by
  unfold thC thM
  by_cases q : f = 16
  · subst q; rw [h.rs]; rfl
  · obtain ⟨a, b, h1, h2, h3⟩ := h.sh f (by omega)
    rw [show (f == 16) = false by simp; omega, Bool.false_or, h1, h3]
    cases a <;> cases b <;> rfl
theorem FT.nmEq (h : FT c m) : ∀ f k, f < 17 → k < 7 → nmC c f k = nmM m f k := fun f k hf hk => by
  unfold nmC nmM
  have iw : ∀ k, k < 7 → iwp k < 7 ∧ wpi (iwp k) = k := by decide
  rw [h.nm f (iwp k) hf (iw k hk).1, (iw k hk).2]
theorem FT.nbC (h : FT c m) : NB c := fun j hj => by
  have e := h.nm (j / 7) (j % 7) (by omega) (by omega)
  have hw : ∀ k, k < 7 → wpi k < 7 := by decide
  have := hw (j % 7) (by omega)
  rw [show 7 * (j / 7) + j % 7 = j by omega] at e
  rw [e]
  exact h.nb _ (by omega)
theorem FT.b01 (h : FT c m) : ∀ j, j < 17 → gA m 136 j = 0 ∨ gA m 136 j = 1 := fun j hj => by
  by_cases q : j = 16
  · rw [q]; exact Or.inr h.rs
  · obtain ⟨a, b, h1, _, _⟩ := h.sh j (by omega)
    rw [h1]; cases a
    · exact Or.inl rfl
    · exact Or.inr rfl
/-- the wishes at hand, in the reference's order -/
def wG (g : Nat → Int32) : Nat → Int32 := fun k => g (12 + 8 * (g 28).toNatClampNeg + k)
theorem EB.wb {g : Nat → Int32} (h : EB g) : WB8 (wG g) := by
  obtain ⟨s, s1, s2⟩ := h.k28
  unfold wG
  rw [s1, nI_clamp (by omega)]
  rcases (show s = 0 ∨ s = 1 by omega) with rfl | rfl
  · refine ⟨fun k hk => ?_, ?_⟩
    · obtain ⟨z, z1, z2, z3⟩ := h.wA hk
      show _ ≤ (g (12 + 8 * 0 + k)).toInt ∧ (g (12 + 8 * 0 + k)).toInt ≤ _
      rw [show 12 + 8 * 0 + k = 12 + k by omega, z1, iz_int (by omega) (by omega)]; exact ⟨z2, z3⟩
    · obtain ⟨z, z1, z2, z3⟩ := h.k19
      show _ ≤ (g 19).toInt ∧ (g 19).toInt ≤ _
      rw [z1, iz_int (by omega) (by omega)]; exact ⟨z2, z3⟩
  · refine ⟨fun k hk => ?_, ?_⟩
    · obtain ⟨z, z1, z2, z3⟩ := h.wB hk
      show _ ≤ (g (12 + 8 * 1 + k)).toInt ∧ (g (12 + 8 * 1 + k)).toInt ≤ _
      rw [show 12 + 8 * 1 + k = 20 + k by omega, z1, iz_int (by omega) (by omega)]; exact ⟨z2, z3⟩
    · obtain ⟨z, z1, z2, z3⟩ := h.k27
      show _ ≤ (g 27).toInt ∧ (g 27).toInt ≤ _
      rw [z1, iz_int (by omega) (by omega)]; exact ⟨z2, z3⟩
/-- the wishes at hand, and the font in use, on the class's side alone -/
theorem c_use {g : Nat → Int32} (v : EVq c 45 g) (b : EB g) (nb : NB c) (ka : KA c) : ∃ c', (∀ {α : Type} (K : Int32 → Mm → Option (α × Mm)), (bd (f_X1_wishes 45 c) fun v1 T2 => gd (kS true v1 = 14) <| bd (f_X2_inUse v1 T2) K) = K (nI (fiu (thC c) (nmC c) (wG g))) c') ∧ Fr cIU cIA c c' ∧ KA c' ∧ fiu (thC c) (nmC c) (wG g) < 17 := by
  have wb := b.wb
  have ne : NE (thC c) := ⟨16, by omega, rfl⟩
  obtain ⟨s, s1, s2⟩ := b.k28
  have iw : ∀ k, k < 8 → iwp k < 8 ∧ wpi (iwp k) = k := by decide
  have go : ∀ u : Nat, LN u = 8 → (u ≠ 35 ∧ u ≠ 29 ∧ u ≠ 30) → kS true u = 14 → (∀ k, k < 8 → gA c u (iwp k) = wG g k) → f_X1_wishes 45 c = some (u, c) → ∃ c', (∀ {α : Type} (K : Int32 → Mm → Option (α × Mm)), (bd (f_X1_wishes 45 c) fun v1 T2 => gd (kS true v1 = 14) <| bd (f_X2_inUse v1 T2) K) = K (nI (fiu (thC c) (nmC c) (wG g))) c') ∧ Fr cIU cIA c c' ∧ KA c' ∧ fiu (thC c) (nmC c) (wG g) < 17 := by
    intro u h1 h2 h3 h4 h5
    have wb2 : WB8 (fun k => gA c u (iwp k)) := ⟨fun k hk => (by
      dsimp only
      rw [h4 k (by omega)]; exact wb.1 k hk), (by
      dsimp only
      rw [h4 7 (by omega)]; exact wb.2.1), (by
      dsimp only
      rw [h4 7 (by omega)]; exact wb.2.2)⟩
    obtain ⟨c', e1, e2, e3⟩ := c_inUse h1 h2 ka nb wb2
    have ef : fiu (thC c) (nmC c) (fun k => gA c u (iwp k)) = fiu (thC c) (nmC c) (wG g) := fiu_c (fun _ _ => rfl) (fun _ _ _ _ => rfl) h4 wb2
    rw [ef] at e1
    refine ⟨c', fun K => ?_, e2, e3, (fiu_lt ne wb).1⟩
    rw [h5, bd_eq, gd_eq h3, e1, bd_eq]
  have h105 : gI c 105 45 = nI s := (v.i (105, 0, 28) (by decide)).trans s1
  rcases (show s = 0 ∨ s = 1 by omega) with rfl | rfl
  · refine go 52 (by decide) (by decide) (by decide) (fun k hk => ?_) ?_
    · rw [v.f _ (iw k hk).1, (iw k hk).2]
      unfold wG
      rw [s1]; rfl
    · unfold f_X1_wishes
      rw [h105, if_pos (by rfl)]
  · refine go 53 (by decide) (by decide) (by decide) (fun k hk => ?_) ?_
    · rw [v.s _ (iw k hk).1, (iw k hk).2]
      unfold wG
      rw [s1]; rfl
    · unfold f_X1_wishes
      rw [h105, if_neg (by decide)]
/-- the font in use on both sides -/
theorem use2 (h : RR d ov c m) : ∃ r c' m', r < 17 ∧ thM m r = true ∧ (∀ {α : Type} (K : Int32 → Mm → Option (α × Mm)), (bd (f_X1_wishes 45 c) fun v1 T2 => gd (kS true v1 = 14) <| bd (f_X2_inUse v1 T2) K) = K (nI r) c') ∧ f_X12_fontInUse m = some (nI r, m') ∧ RR d ov c' m' ∧ Fr cIU cIA c c' ∧ Fr nF a164 m m' := by
  obtain ⟨c', e1, e2, e3, e4⟩ := c_use h.ev h.eb h.ft.nbC h.ka
  obtain ⟨s, s1, s2⟩ := h.eb.k28
  obtain ⟨m', f1, f2⟩ := m_fiu s1 s2 h.ft.nb h.eb.wb h.ft.b01 h.ft.rs
  have ef : fiu (thC c) (nmC c) (wG (gA m 134)) = fiu (thM m) (nmM m) (wM m) := fiu_c h.ft.thEq h.ft.nmEq (fun _ _ => rfl) h.eb.wb
  have ne : NE (thM m) := ⟨16, by omega, by unfold thM; rw [h.ft.rs]; rfl⟩
  have lt := fiu_lt (th := thM m) (nm := nmM m) (w := wM m) ne h.eb.wb
  rw [ef] at e1
  refine ⟨_, c', m', lt.1, lt.2, e1, f1, h.fr e2 f2 ?_ ?_ ?_ ?_ e3, e2, f2⟩
  · intro f i hh
    unfold cIU
    by_cases q : i = 27
    · subst q; unfold rrF at hh; revert hh; simp
    · simp [q]
  · intro a hh
    unfold cIA
    by_cases q : a = 35
    · subst q; revert hh; decide
    · simp [q]
  · intro f i _; rfl
  · intro a hh
    unfold a164
    by_cases q : a = 164
    · subst q; revert hh; decide
    · simp [q]
end A5
