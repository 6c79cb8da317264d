/-! A stream starts, on both sides. -/
section J5
variable {c c' c0 c1 c2 c3 m m' m0 m1 m2 m3 T T' M' : Mm} {d w b A o M o' n p p1 r q a i s f k u h rb t v kd gp L N st en : Nat} {F : Nat → Nat} {ov ov' ng sg z sm wt e : Bool} {g : Nat → Int32} {Gc Gm : Gty} {PF QF : Nat → Nat → Bool} {PA QA : Nat → Bool}
/-- between the parts of a job, while there is no fault -/
def BT (c m : Mm) : Prop := (∃ q, gI c 916 23 = nI q ∧ gI m 1232 133 = nI q ∧ q ≤ 60000) ∧ (∃ v, v ≤ 5000000 ∧ gI c 4 24 = nI v ∧ gJ m 1249 133 = lN v) ∧ gI c 5 24 = 0 ∧ Sh c m ∧ Tab m ∧ FT c m ∧ KA c ∧ TL c m ∧ MCq c m ∧ gI m 1231 133 = 0
def sF (f i : Nat) : Bool := (decide (45 ≤ i) && decide (i ≤ 53)) || (i == 24 && f == 2) || (i == 23 && (f == 913 || f == 914 || f == 915)) || i == 125
def sA (a : Nat) : Bool := (decide (45 ≤ a) && decide (a ≤ 53)) || a == 25
def sQ (f i : Nat) : Bool := i == 133 && (f == 1226 || f == 1227 || f == 1228 || f == 1229 || f == 1230 || f == 1235 || f == 1247)
def sN (a : Nat) : Bool := a == 134 || a == 157
theorem pk_white {c' m' : Mm} {g : Nat → Int32} {v : Nat} (e3 : gI c' 2 24 = 0) (e4 : ∀ j, j < 20000 → gA c' 25 j = 0) (f2 : ∀ j, j < 64000 → gA m' 157 j = 0) (f3 : gI m' 1235 133 = 0) (v1 : gI c' 4 24 = nI v) (v2 : gJ m' 1249 133 = lN v) (v3 : v ≤ 5000000) (hu : gI c' 5 24 = 0) : CV c' m' g 0 v := by
  have pb : ∀ x y, x < 640 → y < 800 → pbit m' x y = false := fun x y hx hy => by
    unfold pbit
    rw [f2 _ (by omega), b_0]
  have hH := lgH_le g
  have hW := lgW_le g
  have hp := pg_le (g 0)
  refine CV_mk e3 f3 (by omega) v1 v2 v3 hu (fun x y hx hy => ?_) (fun _ => pb)
  show bt (gA c' 25 (25 * y + x / 32)) (31 - x % 32) = _
  rw [e4 _ (by omega), b_0]
  by_cases q : x < lgW g ∧ y < lgH g
  · have hin := ph_in q.1 q.2
    rw [pb _ _ (by omega) (by omega), Bool.and_false]
  · have : (decide (x < lgW g) && decide (y < lgH g)) = false := by
      by_cases q1 : x < lgW g
      · rw [decide_eq_false (fun z => q ⟨q1, z⟩), Bool.and_false]
      · rw [decide_eq_false q1, Bool.false_and]
    rw [this, Bool.false_and]
/-- the class's start -/
theorem cs_start (he : en ≤ 12000) (hs : st ≤ 12000) : ∃ c5, (∀ p1, p1 = 2 → f_X9_run p1 (nI st) (nI en) c = (bd (f_X9_goThrough_l60 (gmC 5) FU 125 0 c5) fun _ T5 => bd (f_X9_isMuch T5) fun v6 T7 => if v6 = 0 then (bd (f_X9_keepStates T7) fun _ T8 => bd (f_X9_reset (gmC 5) T8) fun _ T9 => f_X9_run_48 T9) else (f_X9_run_48 T7))) ∧ Fr sF sA c c5 ∧ EVq c5 45 (gE 1 0) ∧ gI c5 2 24 = 0 ∧ (∀ j, j < 20000 → gA c5 25 j = 0) ∧ gI c5 914 23 = 0 ∧ gI c5 915 23 = 0 ∧ gR c5 913 23 = some 125 ∧ gR c5 500 125 = some 2 ∧ gI c5 501 125 = nI st ∧ gI c5 502 125 = nI en ∧ gI c5 503 125 = 0 := by
  obtain ⟨c1, a1, a2, a3⟩ := c_reset9 (c := c) (f := 1) (o := 0) (by omega) (by omega)
  have a1' : f_X1_reset 45 1 0 c = some ((), c1) := a1
  obtain ⟨c2, b1, b2, b3, b4⟩ := c_clear c1
  obtain ⟨c3, hc3⟩ : ∃ c3, c3 = uI (uI c2 914 23 0) 915 23 0 := ⟨_, rfl⟩
  obtain ⟨c4, x1, x2, x500, x501, x502, x503⟩ := c_opn (T := c3) (i := 125 + 0) (A := 2) (x := nI st) (y := nI en)
  obtain ⟨c5, hc5⟩ : ∃ c5, c5 = uR c4 913 23 (some (125 + 0)) := ⟨_, rfl⟩
  have e914 : gI c3 914 23 = 0 := by rw [hc3, gI_uI, if_neg (by omega), gI_uI, if_pos ⟨rfl, rfl⟩]
  have e915 : gI c3 915 23 = 0 := by rw [hc3, gI_uI, if_pos ⟨rfl, rfl⟩]
  have f3 : Fr (fun f i => i == 23 && (f == 914 || f == 915)) noA c2 c3 := by rw [hc3]; exact (Fr.refl.uI _ (by rfl)).uI _ (by rfl)
  have f5 : Fr (fun f i => i == 23 && f == 913) noA c4 c5 := by rw [hc5]; exact Fr.refl.uR _ (by rfl)
  have g5 : ∀ f i, gI c5 f i = gI c4 f i := fun f i => by rw [hc5]; rfl
  refine ⟨c5, ?_, ?_, ?_, ?_, ?_, ?_, ?_, ?_, ?_, ?_, ?_, ?_⟩
  · rintro _ rfl
    unfold f_X9_run
    rw [a1', bd_eq, b1, bd_eq, lb_eq, lb_eq, ← hc3]
    unfold f_X9_goThrough
    rw [e914, if_neg (show ¬ (0 : Int32) < 0 by decide), if_neg (show ¬ (4 : Int32) ≤ 0 by decide), ix_in (j := 0) (by decide) (by decide) (by decide), ix_in (j := 0) (by decide) (by decide) (by decide), x1, bd_eq, lb_eq, ← hc5]
  · have g1 : Fr sF sA c c1 := a2.weak (fun f i z => by unfold sF at z; unfold eF; revert z; simp; omega) (fun a z => by unfold sA at z; unfold eA; revert z; simp; omega)
    have g2 : Fr sF sA c1 c2 := b2.weak (fun f i z => by unfold sF at z; revert z; simp; omega) (fun a z => by unfold sA at z; revert z; simp)
    have g3 : Fr sF sA c2 c3 := f3.weak (fun f i z => by unfold sF at z; revert z; simp; omega) (fun a z => rfl)
    have g4 : Fr sF sA c3 c4 := x2.weak (fun f i z => by unfold sF at z; revert z; simp) (fun a z => rfl)
    have g5 : Fr sF sA c4 c5 := f5.weak (fun f i z => by unfold sF at z; revert z; simp; omega) (fun a z => rfl)
    exact (((g1.trans g2).trans g3).trans g4).trans g5
  · have v2 := a3.fr b2 (fun f i p q => by simp; omega) (fun a p q => by simp; omega)
    have v3 := v2.fr f3 (fun f i p q => by simp; omega) (fun a p q => rfl)
    have v4 := v3.fr x2 (fun f i p q => by simp; omega) (fun a p q => rfl)
    exact v4.fr f5 (fun f i p q => by simp; omega) (fun a p q => rfl)
  · rw [g5, x2.i (by rfl), f3.i (by rfl)]; exact b3
  · intro j hj
    rw [f5.a rfl, x2.a rfl, f3.a rfl]; exact b4 j hj
  · rw [g5, x2.i (by rfl)]; exact e914
  · rw [g5, x2.i (by rfl)]; exact e915
  · rw [hc5, gR_uR, if_pos ⟨rfl, rfl⟩]
  · rw [hc5, gR_uR, if_neg (by omega)]; exact x500
  · rw [g5, show (125 : Nat) = 125 + 0 from rfl, x501, if_neg (nI_pos (by omega))]
  · rw [g5, show (125 : Nat) = 125 + 0 from rfl, x502, if_neg (show ¬ Int32.ofNat (LN 2) < nI en from nI_nlt (a := LN 2) (show en ≤ 12000 from he) (by decide))]
  · rw [g5]; exact x503
/-- the reference's start -/
theorem ms_start (ha : a < 6) (s1 : gA m 153 a = nI st) (s2 : gA m 153 (a + 1) = nI en) : ∃ m5, f_X12_stream (nI a) m = (bd (f_X12_run (gmM 5) m5) fun _ T13 => if (gI T13 1233 133) = 0 then toldK T13 (fun T27 => bd (f_X12_eject (gmM 5) T27) fun _ T28 => if (gI T28 1233 133) = 0 then (lb (uI T28 1247 133 1) fun T29 => bd (f_X12_reset 1 0 T29) fun _ T30 => bd (f_X12_temporaryGo T30) fun _ T31 => some ((), T31)) else (some ((), T28))) else (some ((), T13))) ∧ Fr sQ sN m m5 ∧ (∀ k, k < 192 → gA m5 134 k = gE 1 0 k) ∧ (∀ j, j < 64000 → gA m5 157 j = 0) ∧ gI m5 1235 133 = 0 ∧ gI m5 1247 133 = 0 ∧ gR m5 1226 133 = some 152 ∧ gI m5 1227 133 = nI st ∧ gI m5 1228 133 = nI en ∧ gI m5 1229 133 = 0 ∧ gI m5 1230 133 = 0 := by
  obtain ⟨m1, a1, a2, a3⟩ := m_reset9 (m := m) (f := 1) (o := 0) (by omega) (by omega)
  have a1' : f_X12_reset 1 0 m = some ((), m1) := a1
  obtain ⟨m2, b1, b2, b3, b4⟩ := m_white m1
  obtain ⟨m3, hm3⟩ : ∃ m3, m3 = uR (uI m2 1247 133 0) 1226 133 (some 152) := ⟨_, rfl⟩
  have f3 : Fr sQ noA m2 m3 := by rw [hm3]; exact (Fr.refl.uI _ (by rfl)).uR _ (by rfl)
  have p3 : gA m3 153 = gA m 153 := by rw [f3.a rfl, b4.a rfl, a2.a rfl]
  obtain ⟨m4, hm4⟩ : ∃ m4, m4 = uI m3 1227 133 (nI st) := ⟨_, rfl⟩
  have f4 : Fr sQ noA m3 m4 := by rw [hm4]; exact Fr.refl.uI _ (by rfl)
  have p4 : gA m4 153 = gA m 153 := by rw [f4.a rfl, p3]
  obtain ⟨m5, hm5⟩ : ∃ m5, m5 = uI (uI (uI m4 1228 133 (nI en)) 1229 133 0) 1230 133 0 := ⟨_, rfl⟩
  have f5 : Fr sQ noA m4 m5 := by rw [hm5]; exact ((Fr.refl.uI _ (by rfl)).uI _ (by rfl)).uI _ (by rfl)
  have f25 : Fr sQ noA m2 m5 := (f3.trans f4).trans f5
  refine ⟨m5, ?_, ?_, ?_, ?_, ?_, ?_, ?_, ?_, ?_, ?_, ?_⟩
  · unfold f_X12_stream
    rw [a1', bd_eq, b1, bd_eq, lb_eq, lb_eq, ← hm3, ix_in (j := a) (nI_pos (by omega)) (nI_clamp (by omega)) (by omega), p3, s1, lb_eq, ← hm4, show nI a + 1 = nI (a + 1) from nI_add _ 1, ix_in (j := a + 1) (nI_pos (by omega)) (nI_clamp (by omega)) (by omega), p4, s2, lb_eq, lb_eq, lb_eq, ← hm5]
    rfl
  · exact ((a2.weak (fun f i z => rfl) (fun a z => by unfold sN at z; unfold meA; revert z; simp; omega)).trans (b4.weak (fun f i z => by unfold sQ at z; unfold mWhF; revert z; simp; omega) (fun a z => by unfold sN at z; revert z; simp))).trans (f25.weak (fun _ _ z => z) (fun _ _ => rfl))
  · intro k hk
    rw [f25.a rfl, b4.a rfl]; exact a3 k hk
  · intro j hj
    rw [f25.a rfl]; exact b2 j hj
  · rw [hm5, gI_uI, if_neg (by omega), gI_uI, if_neg (by omega), gI_uI, if_neg (by omega), hm4, gI_uI, if_neg (by omega), hm3]
    show gI (uI m2 1247 133 0) 1235 133 = _
    rw [gI_uI, if_neg (by omega)]; exact b3
  · rw [hm5, gI_uI, if_neg (by omega), gI_uI, if_neg (by omega), gI_uI, if_neg (by omega), hm4, gI_uI, if_neg (by omega), hm3]
    show gI (uI m2 1247 133 0) 1247 133 = _
    rw [gI_uI, if_pos ⟨rfl, rfl⟩]
  · rw [hm5]; show gR m4 1226 133 = _
    rw [hm4]; show gR m3 1226 133 = _
    rw [hm3, gR_uR, if_pos ⟨rfl, rfl⟩]
  · rw [hm5, gI_uI, if_neg (by omega), gI_uI, if_neg (by omega), gI_uI, if_neg (by omega), hm4, gI_uI, if_pos ⟨rfl, rfl⟩]
  · rw [hm5, gI_uI, if_neg (by omega), gI_uI, if_neg (by omega), gI_uI, if_pos ⟨rfl, rfl⟩]
  · rw [hm5, gI_uI, if_neg (by omega), gI_uI, if_pos ⟨rfl, rfl⟩]
  · rw [hm5, gI_uI, if_pos ⟨rfl, rfl⟩]
end J5
