/-! A macro is told, on both sides. -/
section I4
variable {c c' c0 c1 c2 c3 m m' m0 m1 m2 m3 T T' M' : Mm} {d w b A o M o' n p r q a i s f k u h rb t v kd gp : Nat} {F : Nat → Nat} {ov ov' ng sg z : Bool} {g L : Nat → Int32} {Gc Gm : Gty} {PF QF : Nat → Nat → Bool} {PA QA : Nat → Bool}
/-- the reference's bytes copied -/
theorem m_l103 (hb : gR m 1226 133 = some 152) (hs : s ≤ 1500) (hu : u < 16) (hin : o' + p + s ≤ 12000) : ∀ (N k : Nat) (T : Mm), s - k < N → k ≤ s → Fr nF (fun a => a == 151) m T → (∀ j, gA T 151 j = if 1500 * u ≤ j ∧ j < 1500 * u + k then (gA m 152 (o' + p + (j - 1500 * u))).toInt8.toInt32 else gA m 151 j) → ∃ T', f_X12_define_l103 N (nI u) (nI (o' + p)) (nI s) (nI k) T = some ((), uA (uA (uA T' 150 u (nI s)) 148 u 1) 149 u 1) ∧ Fr nF (fun a => a == 151) m T' ∧ ∀ j, gA T' 151 j = if 1500 * u ≤ j ∧ j < 1500 * u + s then (gA m 152 (o' + p + (j - 1500 * u))).toInt8.toInt32 else gA m 151 j := by
  intro N
  induction N with
  | zero => intro k T h; omega
  | succ N ih =>
    intro k T h1 h2 h3 h4
    show ∃ T', f_X12_define_b103 (f_X12_define_l103 N) (nI u) (nI (o' + p)) (nI s) (nI k) T = _ ∧ _
    unfold f_X12_define_b103
    have ixu : ∀ {α : Type} (K : Nat → Option α), ix (nI u) 16 K = K u := fun K => ix_in (j := u) (nI_pos (by omega)) (nI_clamp (by omega)) (by omega)
    by_cases q : s ≤ k
    · have : k = s := by omega
      subst this
      rw [if_pos (Int32.le_refl _), ixu, lb_eq, ixu, lb_eq, ixu, lb_eq]
      exact ⟨T, rfl, h3, h4⟩
    · have eu : nI u * 1500 = nI (u * 1500) := pk_mul u 1500
      rw [if_neg (nI_ge (by omega) (by omega)), rf_eq ((h3.r rfl).trans hb) (by decide), nI_add, ix_in (j := o' + p + k) (nI_pos (by omega)) (nI_clamp (by omega)) (show o' + p + k < LN 152 from (show o' + p + k < 12000 by omega)), eu, nI_add, ix_in (j := u * 1500 + k) (nI_pos (by omega)) (nI_clamp (by omega)) (by omega), lb_eq, show nI k + 1 = nI (k + 1) from nI_add k 1, h3.a (show (152 == 151) = false from rfl)]
      refine ih (k + 1) _ (by omega) (by omega) (h3.uA _ _ (by rfl)) (fun j => ?_)
      rw [gA_one, h4]
      by_cases y : j = u * 1500 + k
      · rw [if_pos y, if_pos (by omega), show o' + p + (j - 1500 * u) = o' + p + k by omega]
      · rw [if_neg y]
        by_cases y2 : 1500 * u ≤ j ∧ j < 1500 * u + k
        · rw [if_pos y2, if_pos (by omega)]
        · rw [if_neg y2, if_neg (by omega)]
def TD (ov : Bool) (o o' n p : Nat) (c m c' m' : Mm) : Prop := ((RR 0 ov c' m' ∧ ∃ p', PO c' m' 0 o o' p' ∧ p ≤ p' ∧ p' ≤ n) ∨ MU 0 ov c' m') ∧ KX 0 ov c m c' m' ∧ gI c' 506 125 = 1 ∧ gI c' 503 125 = gI c 503 125 ∧ gA m' 134 = gA m 134
def sA4 (a : Nat) : Bool := a == 42 || a == 43 || a == 44
def sN4 (a : Nat) : Bool := decide (148 ≤ a) && decide (a ≤ 151)
/-- the macro is kept -/
theorem tell_keep (hr : RR 0 ov c m) (hb : gR m 1226 133 = some 152) (hs : s ≤ 1500) (hu : u < 16) (hin : o' + p + s ≤ 12000) (hin2 : o + p + s ≤ 12000) (he : ∀ i, i < s → gA c 2 (o + p + i) = gA m 152 (o' + p + i) ∧ byt (gA m 152 (o' + p + i))) (ha : gR c 500 125 = some 2) : ∃ c' m', (lb ((nI u * 1500)) fun v3 => if nI u < 0 then (some ((), c)) else (if 16 ≤ nI u then (some ((), c)) else (if 24000 < (v3 + nI s) then (some ((), c)) else (rf true (gR c 913 23) 5 fun j4 => rf true (gR c 500 j4) 13 fun j6 => cp (nI (o + p)) v3 (nI s) (LN j6) 24000 fun q8 q9 q10 => lb (vA c 43 (va_cpy (gA c j6) (gA c 43) q8 q9 q10)) fun T11 => ix (nI u) 16 fun j12 => lb (uA T11 44 j12 (nI s)) fun T14 => bd (f_X8_put 41 (nI u) T14) fun _ T15 => some ((), T15))))) = some ((), c') ∧ f_X12_define_l103 FU (nI u) (nI (o' + p)) (nI s) 0 m = some ((), m') ∧ RR 0 ov c' m' ∧ Fr nF sA4 c c' ∧ Fr nF sN4 m m' := by
  have ixu : ∀ {α : Type} (K : Nat → Option α), ix (nI u) 16 K = K u := fun K => ix_in (j := u) (nI_pos (by omega)) (nI_clamp (by omega)) (by omega)
  have eu : nI u * 1500 = nI (u * 1500) := pk_mul u 1500
  obtain ⟨m1, x1, x2, x3⟩ := m_l103 (m := m) hb hs hu hin FU 0 m (FU_gt (by omega)) (by omega) Fr.refl (fun j => by rw [if_neg (by omega)])
  have x1' : f_X12_define_l103 FU (nI u) (nI (o' + p)) (nI s) 0 m = _ := x1
  have ec : (lb ((nI u * 1500)) fun v3 => if nI u < 0 then (some ((), c)) else (if 16 ≤ nI u then (some ((), c)) else (if 24000 < (v3 + nI s) then (some ((), c)) else (rf true (gR c 913 23) 5 fun j4 => rf true (gR c 500 j4) 13 fun j6 => cp (nI (o + p)) v3 (nI s) (LN j6) 24000 fun q8 q9 q10 => lb (vA c 43 (va_cpy (gA c j6) (gA c 43) q8 q9 q10)) fun T11 => ix (nI u) 16 fun j12 => lb (uA T11 44 j12 (nI s)) fun T14 => bd (f_X8_put 41 (nI u) T14) fun _ T15 => some ((), T15))))) = some ((), uA (uA (vA c 43 (va_cpy (gA c 2) (gA c 43) (o + p) (u * 1500) s)) 44 u (nI s)) 42 u 1) := by
    rw [lb_eq, eu, nI_add, if_neg (nI_pos (by omega)), if_neg (show ¬ (16 : Int32) ≤ nI u from nI_ge (b := 16) hu (by omega)), if_neg (show ¬ (24000 : Int32) < nI (u * 1500 + s) from nI_nlt (a := 24000) (by omega) (by omega)), rd_eq hr, rf_eq (show gR c 500 (125 + 0) = some 2 from ha) (by decide), cp_at (by omega) (by omega) (by omega) (show o + p + s ≤ LN 2 from (show o + p + s ≤ 12000 by omega)) (by omega), lb_eq, ixu, lb_eq]
    unfold f_X8_put
    rw [if_neg (nI_pos (by omega)), if_neg (show ¬ (16 : Int32) ≤ nI u from nI_ge (b := 16) hu (by omega)), ixu, lb_eq, bd_eq]
  obtain ⟨c1, hc1⟩ : ∃ c1, c1 = uA (uA (vA c 43 (va_cpy (gA c 2) (gA c 43) (o + p) (u * 1500) s)) 44 u (nI s)) 42 u 1 := ⟨_, rfl⟩
  obtain ⟨m2, hm2⟩ : ∃ m2, m2 = uA (uA (uA m1 150 u (nI s)) 148 u 1) 149 u 1 := ⟨_, rfl⟩
  have fc : Fr nF sA4 c c1 := by rw [hc1]; exact ((Fr.refl.vA _ (by rfl)).uA _ _ (by rfl)).uA _ _ (by rfl)
  have fm : Fr nF sN4 m m2 := by
    rw [hm2]
    exact (((x2.weak (fun _ _ e => e) (fun a e => by unfold sN4 at e; revert e; simp; omega)).uA _ _ (by rfl)).uA _ _ (by rfl)).uA _ _ (by rfl)
  have e42 : ∀ j, gA c1 42 j = if j = u then 1 else gA c 42 j := fun j => by
    rw [hc1, gA_one]
    split
    · rfl
    · rw [gA_wo _ _ _ (by decide), gA_vA, if_neg (by decide)]
  have e44 : ∀ j, gA c1 44 j = if j = u then nI s else gA c 44 j := fun j => by
    rw [hc1, gA_wo _ _ _ (by decide), gA_one]
    split
    · rfl
    · rw [gA_vA, if_neg (by decide)]
  have e43 : gA c1 43 = va_cpy (gA c 2) (gA c 43) (o + p) (u * 1500) s := by
    rw [hc1, gA_wo _ _ _ (by decide), gA_wo _ _ _ (by decide), gA_vA_s]
  have m48 : ∀ j, gA m2 148 j = if j = u then 1 else gA m 148 j := fun j => by
    rw [hm2, gA_wo _ _ _ (by decide), gA_one]
    split
    · rfl
    · rw [gA_wo _ _ _ (by decide), x2.a rfl]
  have m49 : ∀ j, gA m2 149 j = if j = u then 1 else gA m 149 j := fun j => by
    rw [hm2, gA_one]
    split
    · rfl
    · rw [gA_wo _ _ _ (by decide), gA_wo _ _ _ (by decide), x2.a rfl]
  have m50 : ∀ j, gA m2 150 j = if j = u then nI s else gA m 150 j := fun j => by
    rw [hm2, gA_wo _ _ _ (by decide), gA_wo _ _ _ (by decide), gA_one]
    split
    · rfl
    · rw [x2.a rfl]
  have m51 : gA m2 151 = gA m1 151 := by rw [hm2, gA_wo _ _ _ (by decide), gA_wo _ _ _ (by decide), gA_wo _ _ _ (by decide)]
  refine ⟨c1, m2, by rw [ec, hc1], by rw [x1', hm2], hr.upd fc fm (fun _ _ _ => rfl) (fun a e => ?_) (fun _ _ => rfl) (fun a e => ?_) (hr.ft.fr fc fm ⟨rfl, rfl, rfl, rfl, rfl, rfl⟩ ⟨rfl, rfl, rfl, rfl, rfl, rfl, rfl⟩ rfl) (hr.ka.fr fc ⟨rfl, rfl⟩ ⟨rfl, rfl, rfl⟩) (hr.tl.fr fc fm rfl ⟨rfl, rfl, rfl, rfl, rfl⟩ (fun _ _ _ _ => rfl) (fun i a b => by unfold sA4; simp; omega)) (MCq_mk (SV.oneG (u := u) (a := true) (b := true) hr.mc.s rfl (fun j _ => e42 j) (fun j _ => m48 j) (fun j _ => m49 j)) (fun u' hu' => ?_) (fun j => ⟨?_, ?_⟩)), fc, fm⟩
  · unfold rcA at e; unfold sA4; revert e; simp; omega
  · unfold rcN at e; unfold sN4; revert e; simp; omega
  · by_cases y : u' = u
    · subst y
      refine ⟨s, hs, by rw [e44, if_pos rfl], by rw [m50, if_pos rfl], fun _ j hj => ?_⟩
      rw [e43, m51, pk_cpy_in (by omega) (by omega), x3, if_pos (by omega), show o + p + (1500 * u' + j - u' * 1500) = o + p + j by omega, show o' + p + (1500 * u' + j - 1500 * u') = o' + p + j by omega, (he j hj).1, byt_id (he j hj).2]
    · obtain ⟨k, k1, k2, k3, k4⟩ := hr.mc.z u' hu'
      refine ⟨k, k1, by rw [e44, if_neg y]; exact k2, by rw [m50, if_neg y]; exact k3, fun z j hj => ?_⟩
      rw [m48, if_neg y] at z
      rw [e43, m51, pk_cpy_out (by omega), x3, if_neg (by omega)]
      exact k4 z j hj
  · rw [m51, x3]
    split
    · rename_i z
      have := (he (j - 1500 * u) (by omega)).2
      rw [byt_id this]; exact this
    · exact (hr.mc.b j).1
  · rw [e43]
    by_cases z : u * 1500 ≤ j ∧ j < u * 1500 + s
    · rw [pk_cpy_in z.1 z.2]
      have := he (j - u * 1500) (by omega)
      rw [this.1]; exact this.2
    · rw [pk_cpy_out (by omega)]; exact (hr.mc.b j).2
theorem P2_tell (h : RR 0 ov c m) (S : SRC c m 0 A o M o' n F) (hM : M = 152) (P : PO c m 0 o o' p) (hp : p ≤ n) (hu : u < 16) : P2 (f_X9_tellMacro (nI u) c) (f_X12_define (nI u) m) (fun _ c' _ m' => TD ov o o' n p c m c' m') := by
  subst hM
  obtain ⟨rfl, hAn⟩ : A = 2 ∧ o + n ≤ 12000 := by
    rcases S.k with z | ⟨_, z, _⟩
    · exact z
    · omega
  have hMn : o' + n ≤ 12000 := by
    rcases S.l with z | ⟨z, _⟩
    · exact z.2
    · omega
  obtain ⟨q, nms, q1, q2⟩ := h.nms
  have hq := nms.2.1
  obtain ⟨s1, s2⟩ := mS_le (F := F) (n := n) (n - p) p hp
  have s3 := mS_end (F := F) (n := n) (n - p) p (Nat.le_refl _) hp
  obtain ⟨P1, P2⟩ := P
  -- both find the same end
  obtain ⟨m1, x1, x2, x3⟩ := m_l5 S (by omega) (by omega) (x1 := nI u) (x2 := nI (o' + p)) FU p m (FU_gt (by omega)) hp Fr.refl P2
  have y1 := c_l10 S h.rd (by omega) (by omega) (x1 := nI u) (x2 := nI (o + p)) FU p (FU_gt (by omega)) hp
  revert s1 s2 s3 x3 y1
  generalize mS F n (n - p) p = e
  intro s1 s2 s3 x3 y1
  obtain ⟨q', hq1, hq2, hq3⟩ : ∃ q', q' ≤ n ∧ e ≤ q' ∧ (n ≤ e ∧ q' = e ∨ e < n ∧ q' = e + 5) := by
    by_cases y : n ≤ e
    · exact ⟨e, s2, by omega, Or.inl ⟨y, rfl⟩⟩
    · have := s3 (by omega)
      unfold mE at this
      simp only [Bool.and_eq_true, decide_eq_true_eq] at this
      exact ⟨e + 5, this.1, by omega, Or.inr ⟨by omega, rfl⟩⟩
  -- the class
  obtain ⟨c1, hc1⟩ : ∃ c1, c1 = uI c 506 125 1 := ⟨_, rfl⟩
  have f1 : Fr (rdF 0) noA c c1 := by rw [hc1]; exact Fr.refl.uI _ (by rfl)
  have f0 : Fr (fun f i => f == 506 && i == 125) noA c c1 := by rw [hc1]; exact Fr.refl.uI _ (by rfl)
  have n1 : NMs c1 0 q := by
    obtain ⟨a1, a2, a3, a4, a5, a6⟩ := nms
    exact ⟨by rw [f0.i (by rfl)]; exact a1, a2, by rw [f0.i (by rfl)]; exact a3, by rw [f0.i (by rfl)]; exact a4, by rw [f0.r (by rfl)]; exact a5, a6⟩
  have e501 : gI c1 501 (125 + 0) = nI (o + p) := by rw [hc1, gI_uI, if_neg (by omega)]; exact P1
  obtain ⟨c2, u1, u2, u3, u4⟩ := c_pass (r := q' - p) n1 e501 (by omega)
  have cl : f_X9_tellMacro (nI u) c = f_X9_tellMacro_69 (nI u) (nI (o + p)) (nI (e - p)) (nI (q' - p)) c1 := by
    unfold f_X9_tellMacro
    rw [rd_eq h, P1, lb_eq, y1]
    unfold f_X9_tellMacro_35
    rw [pk_sub (by omega), show o + e - (o + p) = e - p by omega, lb_eq, rd_eq h, lb_eq, ← hc1, rf_eq (show gR c1 913 23 = some (125 + 0) from n1.2.2.2.2.1) (by decide), show gI c1 502 (125 + 0) = nI (o + n) by rw [hc1, gI_uI, if_neg (by omega)]; exact S.e]
    rcases hq3 with ⟨y, y2⟩ | ⟨y, y2⟩
    · rw [if_pos (nI_le (by omega) (by omega)), y2]
    · rw [if_neg (nI_ge (by omega) (by omega)), show nI (e - p) + 5 = nI (e - p + 5) from nI_add _ 5, y2, show e + 5 - p = e - p + 5 by omega]
  -- the reference
  obtain ⟨m2, hm2⟩ : ∃ m2, m2 = uI m1 1227 133 (nI (o' + q')) := ⟨_, rfl⟩
  have g2 : Fr (fun f i => i == 133 && f == 1227) noA m m2 := by rw [hm2]; exact x2.uI _ (by rfl)
  have e27 : gI m2 1227 133 = nI (o' + q') := by rw [hm2, gI_uI, if_pos ⟨rfl, rfl⟩]
  have ml : f_X12_define (nI u) m = (bd (f_X12_count (nI (q' - p)) m2) fun _ T2 => if 1500 < nI (e - p) then (some ((), T2)) else (if (gI T2 1233 133) = 0 then (f_X12_define_l103 FU (nI u) (nI (o' + p)) (nI (e - p)) 0 T2) else (some ((), T2)))) := by
    unfold f_X12_define
    rw [P2, lb_eq, x1]
    unfold f_X12_define_40
    rw [x3, pk_sub (by omega), show o' + e - (o' + p) = e - p by omega, lb_eq, show gI m1 1228 133 = nI (o' + n) from (x2.i (by rfl)).trans S.e2]
    unfold f_X12_define_72
    rcases hq3 with ⟨y, y2⟩ | ⟨y, y2⟩
    · rw [if_pos (nI_le (by omega) (by omega)), lb_eq, ← y2, ← hm2, e27, pk_sub (by omega), show o' + q' - (o' + p) = q' - p by omega, y2]
    · rw [if_neg (nI_ge (by omega) (by omega)), show nI (o' + e) + 5 = nI (o' + q') by rw [show nI (o' + e) + 5 = nI (o' + e + 5) from nI_add _ 5, y2]; rfl, lb_eq, ← hm2, e27, pk_sub (by omega), show o' + q' - (o' + p) = q' - p by omega]
  obtain ⟨k1, k2⟩ := m_count (m := m2) (q := q) (r := q' - p) ((g2.i (by rfl)).trans q2) ((g2.i (by rfl)).trans q1) hq (by omega)
  rw [cl, ml]
  unfold f_X9_tellMacro_69
  rw [u1, bd_eq]
  have fc2 : Fr (rdF 0) noA c c2 := f1.trans (u2.weak (fun f i z => by
    unfold rdF at z; unfold pF
    revert z; simp; intro z1 z2
    exact ⟨z1, fun y => by have := z2 y; omega⟩) (fun _ z => z))
  have c506 : gI c2 506 125 = 1 := by rw [u2.i (by unfold pF; simp), hc1, gI_uI, if_pos ⟨rfl, rfl⟩]
  have c503 : gI c2 503 125 = gI c 503 125 := by rw [u2.i (by unfold pF; simp), hc1, gI_uI, if_neg (by omega)]
  by_cases z : q + (q' - p) ≤ 60000
  · obtain ⟨m3, v1, v2, v3⟩ := k1 z
    have fm3 : Fr (fun f i => rdM f i && !(f == 1233)) noA m m3 := (g2.weak (fun f i y => by
      unfold rdM at y; revert y; simp; omega) (fun _ y => y)).trans (v2.weak (fun f i y => by
      unfold rdM at y; revert y; simp; omega) (fun _ y => y))
    have rr := h.red fc2 fm3 u3 v3 z
    have kx : KX 0 ov c m c2 m3 := KX.rd fc2 (fm3.weak (fun f i y => by rw [y]; rfl) (fun _ y => y))
    have po : PO c2 m3 0 o o' q' := ⟨by rw [u4]; congr 1; omega, (v2.i (by rfl)).trans e27⟩
    have e34 : gA m3 134 = gA m 134 := fm3.a rfl
    rw [decide_eq_true z, if_neg (show ¬ cI true = 0 by decide), v1, bd_eq, rr.sh.z.2, if_pos rfl]
    by_cases y : 1500 < e - p
    · rw [if_neg (show ¬ nI (e - p) ≤ 1500 from nI_ge (a := 1500) y (by omega)), if_pos (show 1500 < nI (e - p) from nI_lt (a := 1500) y (by omega))]
      exact P2_ret ⟨Or.inl ⟨rr, q', po, by omega, hq1⟩, kx, c506, c503, e34⟩
    · rw [if_pos (show nI (e - p) ≤ 1500 from nI_le (b := 1500) (by omega) (by omega)), if_neg (show ¬ 1500 < nI (e - p) from nI_nlt (a := 1500) (by omega) (by omega))]
      have a2 : gA c2 2 = gA c 2 := fc2.a rfl
      have a152 : gA m3 152 = gA m 152 := fm3.a rfl
      obtain ⟨c4, m4, t1, t2, t3, t4, t5⟩ := tell_keep (u := u) (s := e - p) (o := o) (o' := o') (p := p) rr ((fm3.r (by rfl)).trans S.b) (by omega) hu (by omega) (by omega) (fun i hi => by
        rw [a2, a152, show o + p + i = o + (p + i) by omega, show o' + p + i = o' + (p + i) by omega]
        exact ⟨S.s _ (by omega), S.y _ (by omega)⟩) ((fc2.r (by rfl)).trans S.a)
      rw [t1, t2]
      refine P2_ret ⟨Or.inl ⟨t3, q', ⟨(t4.i rfl).trans po.1, (t5.i rfl).trans po.2⟩, by omega, hq1⟩, kx.trans (KW.kx (KP.kw (KP.of t4 t5 (fun _ _ y => by cases y) (fun a y => ?_) (fun _ _ y => by cases y) (fun a y => ?_)))), (t4.i rfl).trans c506, (t4.i rfl).trans c503, (t5.a rfl).trans e34⟩
      · unfold sA4 at y
        have : a = 42 ∨ a = 43 ∨ a = 44 := by simpa [or_assoc] using y
        rcases this with rfl | rfl | rfl <;> (unfold skA; simp)
      · unfold sN4 at y
        have : 148 ≤ a ∧ a ≤ 151 := by simpa using y
        exact ⟨by unfold mkA; simp; omega, by omega, by omega⟩
  · obtain ⟨m3, v1, v2, v3⟩ := k2 (by omega)
    have fm3 : Fr rdM noA m m3 := (g2.weak (fun f i y => by
      unfold rdM at y; revert y; simp; omega) (fun _ y => y)).trans (v2.weak (fun f i y => by
      unfold rdM at y; unfold cn3; revert y; simp; omega) (fun _ y => y))
    have mu := h.ovr fc2 fm3 u3 (by omega) (by omega) v3
    rw [decide_eq_false z, if_pos (show cI false = 0 from rfl), v1, bd_eq, v3, if_neg (show ¬ (1 : Int32) = 0 by decide), ite_self]
    exact P2_ret ⟨Or.inr mu, KX.rd fc2 fm3, c506, c503, fm3.a rfl⟩
end I4
