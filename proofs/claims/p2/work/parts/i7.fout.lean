/-! A field is read: what the class and the reference hold behind it. -/
section I7
variable {c c' c0 c1 c2 c3 m m' m0 m1 m2 m3 T T' M' : Mm} {d w b A o M o' n p r q a i s f k u h rb t v kd gp L : Nat} {F : Nat → Nat} {ov ov' ng sg z sm wt e : Bool} {g : Nat → Int32} {Gc Gm : Gty} {PF QF : Nat → Nat → Bool} {PA QA : Nat → Bool}
abbrev Kty : Type := Int32 → Int32 → Int32 → Mm → Option (Unit × Mm)
/-- what stands behind a field that was read -/
def FO (d : Nat) (ov : Bool) (kd gp A o M o' n : Nat) (F : Nat → Nat) (p : Nat) (rc : Option (Int32 × Mm)) (rm : Gty → Kty → Option (Unit × Mm)) (c2 m2 : Mm) : Prop :=
  (rc = some (0, c2) ∧ MU d ov c2 m2 ∧ ∀ Gm k, (∀ T, k (nI kd) (nI gp) 0 T = some ((), T)) → rm Gm k = some ((), m2)) ∨
  (rc = some (0, c2) ∧ RR d ov c2 m2 ∧ gI c2 503 (125 + d) = 0 ∧ (∃ E, p ≤ E ∧ E ≤ n ∧ PO c2 m2 d o o' E) ∧ ∀ Gm k, rm Gm k = some ((), m2)) ∨
  (rc = some (1, c2) ∧ RR d ov c2 m2 ∧ gI c2 503 (125 + d) = nI kd ∧ gI c2 504 (125 + d) = nI gp ∧ ∃ E L sm w b ng sg, p ≤ E ∧ E < n ∧ L < 256 ∧ gI c2 505 (125 + d) = nI L ∧ VL c2 m2 d w b ng sg ∧
    ((wtD kd gp L = false ∧ gI c2 506 (125 + d) = cI (!sm) ∧ PO c2 m2 d o o' (E + 1) ∧ ∀ Gm k, rm Gm k = f_X12_escape_221 Gm k (nI kd) (nI gp) (cI sm) (nI L) 0 m2) ∨
     (wtD kd gp L = true ∧ gI c2 506 (125 + d) = 1 ∧ ∃ s, DT c2 m2 d A o M o' n F (E + 1) s ∧ gI c2 501 (125 + d) = nI (o + (E + 1 + s)) ∧ ∀ Gm k, rm Gm k = bd (wdT Gm (nI kd) (nI gp) (nI L) (nI s) m2) fun _ T3 => k (nI kd) (nI gp) 0 T3)))
theorem tl_gc (hd : d ≤ 3) {f i : Nat} (z : gcF f i = false) : tlF d f i = false := tl_rd (gc_rd hd z)
theorem nx_rd {f i : Nat} (z : rdM f i = false) : nxF f i = false := by
  unfold nxF
  cases y : (i == 133 && (f == 1227 || f == 1232))
  · rfl
  · have : i = 133 ∧ (f = 1227 ∨ f = 1232) := by simpa using y
    obtain ⟨rfl, rfl | rfl⟩ := this <;> exact absurd z (by decide)
theorem cn_rd {f i : Nat} (z : rdM f i = false) : cn3 f i = false := by
  unfold cn3
  cases y : (i == 133 && (f == 1232 || f == 1233))
  · rfl
  · have : i = 133 ∧ (f = 1232 ∨ f = 1233) := by simpa using y
    obtain ⟨rfl, rfl | rfl⟩ := this <;> exact absurd z (by decide)
/-- the letter stands; the rest of the field -/
theorem fld_tail (h : RR d ov c m) (S : SRC c m d A o M o' n F) (hn : n ≤ 24000) (v : VL c m d w b ng sg) (E : Nat) (P : PO c m d o o' (E + 1)) (hpE : p ≤ E) (hE : E < n) (hkd : kd < 256) (hgp : gp < 256) (hL : L < 256) (h3 : gI c 503 (125 + d) = nI kd) (h4 : gI c 504 (125 + d) = nI gp) {rc : Option (Int32 × Mm)} {rm : Gty → Kty → Option (Unit × Mm)} (erc : rc = f_X9_readField_94 (cI sm) (nI L) (125 + d) c) (erm : ∀ Gm k, rm Gm k = f_X12_escape_188 Gm k (nI kd) (nI gp) (cI sm) (nI L) m) : ∃ c2 m2, Fr (rdF d) noA c c2 ∧ Fr rdM noA m m2 ∧ FO d ov kd gp A o M o' n F p rc rm c2 m2 := by
  have hd := h.d3
  have n2' := S.n2 hd
  obtain ⟨q, nms, q1, q2⟩ := h.nms
  have hq := nms.2.1
  obtain ⟨wt, hwt⟩ : ∃ wt, wt = wtD kd gp L := ⟨_, rfl⟩
  have e94 := fun (X : Nat) (hX : X = E + 1) => c_94 (m := m) (w := w) (b := b) (ng := ng) (sg := sg) (sm := sm) (p := X) nms h3 h4 hkd hgp hL (by rw [hX]; exact P.1) S.e (by omega) v hn hwt
  obtain ⟨c3, k1, k2, k5, k6, k11, k12, k501, k916⟩ := e94 (E + 1) rfl
  have fc : Fr (rdF d) noA c c3 := k2.weak (fun f i z => tl_rd z) (fun _ z => z)
  have fg : Fr gcF noA c c3 := k2.weak (fun f i z => tl_gc hd z) (fun _ z => z)
  have o3 : ∀ f, f ≠ 501 → f ≠ 505 → f ≠ 506 → f ≠ 511 → f ≠ 512 → gI c3 f (125 + d) = gI c f (125 + d) := fun f a1 a2 a3 a4 a5 => k2.i (by unfold tlF; simp; omega)
  have em2 : ∀ Gm k, rm Gm k = f_X12_escape_221 Gm k (nI kd) (nI gp) (cI sm) (nI L) (cI wt) m := fun Gm k => by
    rw [erm]
    unfold f_X12_escape_188
    by_cases y : L = 87
    · subst y
      rw [if_pos (show nI 87 = 87 from rfl), hwt, show wtD kd gp 87 = true from decide_eq_true (Or.inl rfl)]; rfl
    · rw [if_neg (show ¬ nI L = 87 from nI_ne hL (by decide) y)]
      by_cases y2 : L = 88
      · subst y2
        rw [if_pos (show nI 88 = 88 from rfl)]
        by_cases y3 : kd = 38
        · rw [if_pos (show nI kd = 38 by rw [y3]; rfl)]
          by_cases y4 : gp = 112
          · rw [if_pos (show nI gp = 112 by rw [y4]; rfl), hwt, show wtD kd gp 88 = true from decide_eq_true (Or.inr ⟨rfl, y3, y4⟩)]; rfl
          · rw [if_neg (show ¬ nI gp = 112 from nI_ne hgp (by decide) y4), hwt, show wtD kd gp 88 = false from decide_eq_false (by omega)]; rfl
        · rw [if_neg (show ¬ nI kd = 38 from nI_ne hkd (by decide) y3), hwt, show wtD kd gp 88 = false from decide_eq_false (by omega)]; rfl
      · rw [if_neg (show ¬ nI L = 88 from nI_ne hL (by decide) y2), hwt, show wtD kd gp L = false from decide_eq_false (by omega)]; rfl
  cases wt
  · -- no data
    have z0 : (if false = true then sz w ng (n - (E + 1)) else 0) = 0 := rfl
    rw [z0] at k1 k12 k501 k916
    refine ⟨c3, m, fc, Fr.refl, Or.inr (Or.inr ⟨?_, ?_, (o3 _ (by omega) (by omega) (by omega) (by omega) (by omega)).trans h3, (o3 _ (by omega) (by omega) (by omega) (by omega) (by omega)).trans h4, E, L, sm, w, b, ng, sg, hpE, hE, hL, k5, ?_, Or.inl ⟨hwt.symm, ?_, ⟨k501, P.2⟩, em2⟩⟩)⟩
    · rw [erc, k1, decide_eq_true (by omega)]; rfl
    · exact h.gone0 fg Fr.refl (k916.trans nms.1.symm) rfl
    · exact v.vc (fun f a1 a2 => o3 f (by omega) (by omega) (by omega) (by omega) (by omega))
    · rw [k6, Bool.or_false]
  · have z0 : (if true = true then sz w ng (n - (E + 1)) else 0) = sz w ng (n - (E + 1)) := rfl
    rw [z0] at k1 k12 k501 k916
    obtain ⟨s, hs⟩ : ∃ s, s = sz w ng (n - (E + 1)) := ⟨_, rfl⟩
    have hs2 : s ≤ n - (E + 1) := by rw [hs]; exact sz_le
    rw [← hs] at k1 k12 k501 k916
    have em : gI m 1228 133 - gI m 1227 133 = nI (n - (E + 1)) := by
      rw [S.e2, P.2, nI_iz, nI_iz, nI_iz, iz_sub]; congr 1; omega
    have ew : ∀ Gm : Gty, f_X12_withData Gm (nI kd) (nI gp) (nI L) m = f_X12_withData_45 Gm (nI kd) (nI gp) (nI L) (nI s) m := fun Gm => by
      unfold f_X12_withData f_X12_withData_15
      rw [em, v.nm, hs]
      exact sz_m v.1 (by omega) (fun x => f_X12_withData_45 Gm (nI kd) (nI gp) (nI L) x m)
    obtain ⟨t1, t2⟩ := m_count (r := s) q2 q1 hq (by omega)
    by_cases y : q + s ≤ 60000
    · obtain ⟨m3, u1, u2, u3⟩ := t1 y
      have u0 : gI m3 1233 133 = 0 := (u2.i (by rfl)).trans q2
      have fm : Fr rdM noA m m3 := u2.weak (fun f i z => by
        cases y : (i == 133 && f == 1232)
        · rfl
        · have : i = 133 ∧ f = 1232 := by simpa using y
          obtain ⟨rfl, rfl⟩ := this; exact absurd z (by decide)) (fun _ z => z)
      have hR : RR d ov c3 m3 := h.gone fg (u2.weak (fun f i z => by
        cases y : (i == 133 && f == 1232)
        · rfl
        · have : i = 133 ∧ f = 1232 := by simpa using y
          obtain ⟨rfl, rfl⟩ := this; exact absurd z (by decide)) (fun _ z => z)) k916 u3 y
      have hS : SRC c3 m3 d A o M o' n F := S.kx (ov := ov) hd (KX.rd fc fm)
      refine ⟨c3, m3, fc, fm, Or.inr (Or.inr ⟨?_, hR, (o3 _ (by omega) (by omega) (by omega) (by omega) (by omega)).trans h3, (o3 _ (by omega) (by omega) (by omega) (by omega) (by omega)).trans h4, E, L, sm, w, b, ng, sg, hpE, hE, hL, k5, ?_, Or.inr ⟨hwt.symm, ?_, s, ⟨hS, k11, k12, by omega, (u2.i (by rfl)).trans P.2⟩, ?_, fun Gm k => ?_⟩⟩)⟩
      · rw [erc, k1, decide_eq_true y]; rfl
      · exact (v.vc (fun f a1 a2 => o3 f (by omega) (by omega) (by omega) (by omega) (by omega))).vm (u2.i (by rfl)) (u2.j (by rfl)) (u2.i (by rfl))
      · rw [k6, Bool.or_true]; rfl
      · rw [k501, Nat.add_assoc]
      · rw [em2]
        unfold f_X12_escape_221
        rw [if_neg (show ¬ cI true = 0 by decide), ew]
        unfold f_X12_withData_45
        rw [u1, bd_eq, if_pos u0]; rfl
    · obtain ⟨m3, u1, u2, u3⟩ := t2 (by omega)
      have fm : Fr rdM noA m m3 := u2.weak (fun f i z => cn_rd z) (fun _ z => z)
      refine ⟨c3, m3, fc, fm, Or.inl ⟨?_, h.ovr fc fm k916 (by omega) (by omega) u3, fun Gm k hk => ?_⟩⟩
      · rw [erc, k1, decide_eq_false y]; rfl
      · rw [em2]
        unfold f_X12_escape_221
        rw [if_neg (show ¬ cI true = 0 by decide), ew]
        unfold f_X12_withData_45
        rw [u1, bd_eq, if_neg (by rw [u3]; decide), bd_eq, hk]
theorem FO.pre {rc : Option (Int32 × Mm)} {rm : Gty → Kty → Option (Unit × Mm)} (h : ∃ c2 m2, Fr (rdF d) noA c1 c2 ∧ Fr rdM noA m1 m2 ∧ FO d ov kd gp A o M o' n F p rc rm c2 m2) (fc : Fr (rdF d) noA c c1) (fm : Fr rdM noA m m1) : ∃ c2 m2, Fr (rdF d) noA c c2 ∧ Fr rdM noA m m2 ∧ FO d ov kd gp A o M o' n F p rc rm c2 m2 := by
  obtain ⟨c2, m2, a1, a2, a3⟩ := h
  exact ⟨c2, m2, fc.trans a1, fm.trans a2, a3⟩
theorem field_out (h : RR d ov c m) (S : SRC c m d A o M o' n F) (hn : n ≤ 24000) (P : PO c m d o o' p) (hp : p ≤ n) (hkd : kd < 256) (hgp : gp < 256) (h3 : gI c 503 (125 + d) = nI kd) (h4 : gI c 504 (125 + d) = nI gp) : ∃ c2 m2, Fr (rdF d) noA c c2 ∧ Fr rdM noA m m2 ∧ FO d ov kd gp A o M o' n F p (f_X9_readField c) (fun Gm k => f_X12_escape_b99 Gm k (nI kd) (nI gp) 1 m) c2 m2 := by
  have hd := h.d3
  obtain ⟨q, nms, q1, q2⟩ := h.nms
  have hE1 := vS_le S.g hp
  have hE2 := vD_le S.g hp
  have hE3 := vE_le S.g hp
  obtain ⟨c1, c2, m2, x1, x2, fc, kp, hh⟩ := val_out h S hn P hp
  obtain ⟨E, hE⟩ : ∃ E, E = vE F n p := ⟨_, rfl⟩
  rw [← hE] at x1 hh hE3
  rcases hh with ⟨y1, fm, hR, hP, hV⟩ | ⟨y1, fm, hM, p', z1, z2⟩
  case inr =>
    refine ⟨c2, m2, fc, fm, Or.inl ⟨?_, hM, fun Gm k hk => ?_⟩⟩
    · unfold f_X9_readField
      rw [nms.rd, x1, bd_eq, y1, bd_eq, if_pos rfl]
    · show f_X12_escape_b99 Gm k (nI kd) (nI gp) 1 m = _
      have S2 := S.kx (ov := ov) hd (KX.rd fc fm)
      unfold f_X12_escape_b99
      rw [if_neg (by decide), x2, bd_eq, m_peek S2 hd z1 (by omega), bd_eq, if_neg (by rw [hM.m1]; decide)]
  have fm' : Fr rdM noA m m2 := fm.weak (fun f i z => rdN_M z) (fun _ z => z)
  have S2 := S.kx (ov := ov) hd (KX.rd fc fm')
  obtain ⟨q', nms', q1', q2'⟩ := hR.nms
  have a3 : gI c2 503 (125 + d) = nI kd := (kp _ (by omega) (by omega)).trans h3
  have a4 : gI c2 504 (125 + d) = nI gp := (kp _ (by omega) (by omega)).trans h4
  have ec : f_X9_readField c = (if bs F n E < 96 then f_X9_readField_41 (bs F n E) 0 c2 else if 126 < bs F n E then f_X9_readField_41 (bs F n E) 0 c2 else f_X9_readField_41 (bs F n E) 1 c2) := by
    unfold f_X9_readField
    rw [nms.rd, x1, bd_eq, y1, bd_eq, if_neg (by decide), nms'.rd, c_next S2 hP.1 (by omega), bd_eq]
  have emm : ∀ Gm k, f_X12_escape_b99 Gm k (nI kd) (nI gp) 1 m = (if bs F n E < 64 then some ((), m2) else if bs F n E = 95 then some ((), m2) else if bs F n E ≤ 126 then (bd (f_X12_next m2) fun v4 T5 => if (gI T5 1233 133) = 0 then (if v4 < 96 then (f_X12_escape_169 Gm k (nI kd) (nI gp) v4 0 T5) else (f_X12_escape_169 Gm k (nI kd) (nI gp) v4 1 T5)) else (some ((), T5))) else some ((), m2)) := fun Gm k => by
    rw [show f_X12_escape_b99 Gm k (nI kd) (nI gp) 1 m = (if (1 : Int32) = 0 then (some ((), m)) else (bd (f_X12_readValue m) fun _ T1 => bd (f_X12_peek T1) fun v2 T3 => if (gI T3 1233 133) = 0 then (if v2 < 64 then (some ((), T3)) else (if v2 = 95 then (some ((), T3)) else (if v2 ≤ 126 then (bd (f_X12_next T3) fun v4 T5 => if (gI T5 1233 133) = 0 then (if v4 < 96 then (f_X12_escape_169 Gm k (nI kd) (nI gp) v4 0 T5) else (f_X12_escape_169 Gm k (nI kd) (nI gp) v4 1 T5)) else (some ((), T5))) else (some ((), T3))))) else (some ((), T3)))) from rfl, if_neg (by decide), x2, bd_eq, m_peek S2 hd hP.2 (by omega), bd_eq, if_pos q2']
  obtain ⟨cz, hcz⟩ : ∃ cz, cz = uI c2 503 (125 + d) 0 := ⟨_, rfl⟩
  have fz : Fr (rdF d) noA c2 cz := by rw [hcz]; exact Fr.refl.uI _ (by unfold rdF; simp)
  have gz : ∀ f, f ≠ 503 → gI cz f (125 + d) = gI c2 f (125 + d) := fun f hf => by rw [hcz, gI_uI, if_neg (fun y => hf y.1)]
  have g916 : gI cz 916 23 = gI c2 916 23 := by rw [hcz, gI_uI, if_neg (by omega)]
  -- no letter
  have hN : f_X9_readField c = (rf true (gR c2 913 23) 5 fun j1 => lb (uI c2 503 j1 0) fun T3 => some (0, T3)) → (∀ Gm k, f_X12_escape_b99 Gm k (nI kd) (nI gp) 1 m = some ((), m2)) → ∃ c2 m2, Fr (rdF d) noA c c2 ∧ Fr rdM noA m m2 ∧ FO d ov kd gp A o M o' n F p (f_X9_readField c) (fun Gm k => f_X12_escape_b99 Gm k (nI kd) (nI gp) 1 m) c2 m2 := fun e1 e2 => by
    rw [nms'.rd, lb_eq, ← hcz] at e1
    exact ⟨cz, m2, fc.trans fz, fm', Or.inr (Or.inl ⟨e1, hR.gone0 (fz.weak (fun f i e => gc_rd hd e) (fun _ e => e)) Fr.refl g916 rfl, by rw [hcz, gI_uI, if_pos ⟨rfl, rfl⟩], ⟨E, by omega, by omega, (gz _ (by omega)).trans hP.1, hP.2⟩, e2⟩)⟩
  rcases bs_cases F S.g n E with ⟨y0, eb⟩ | ⟨y0, eb⟩
  case inr =>
    rw [eb] at ec emm
    refine hN ?_ ?_
    · rw [ec, if_pos (by decide)]
      unfold f_X9_readField_41
      rw [if_pos rfl, if_pos (by decide)]
    · intro Gm k
      rw [emm, if_pos (by decide)]
  have hx := S.g E
  rw [eb] at ec emm
  -- a letter
  have hLt : ∀ sm L, (if sm = true then 96 ≤ F E ∧ L = F E - 32 else F E < 96 ∧ L = F E) → f_X9_readField c = f_X9_readField_68 (nI (F E)) (cI sm) c2 → (∀ Gm k, f_X12_escape_b99 Gm k (nI kd) (nI gp) 1 m = (bd (f_X12_next m2) fun v4 T5 => if (gI T5 1233 133) = 0 then (if v4 < 96 then (f_X12_escape_169 Gm k (nI kd) (nI gp) v4 0 T5) else (f_X12_escape_169 Gm k (nI kd) (nI gp) v4 1 T5)) else (some ((), T5)))) → ∃ c2 m2, Fr (rdF d) noA c c2 ∧ Fr rdM noA m m2 ∧ FO d ov kd gp A o M o' n F p (f_X9_readField c) (fun Gm k => f_X12_escape_b99 Gm k (nI kd) (nI gp) 1 m) c2 m2 := fun sm L hsm e1 e2 => by
    obtain ⟨c3, m3, gc, gk, hh⟩ := byte_out hR S2 hP y0
    rcases hh with ⟨u1, u2, u3, hR3, hP3⟩ | ⟨u1, u2, u3, hM3, _⟩
    · have gm : Fr rdM noA m2 m3 := u3.weak (fun f i z => nx_rd z) (fun _ z => z)
      obtain ⟨q3, nms3, _, v3⟩ := hR3.nms
      have e32 : ¬ F E < 96 → nI (F E) - 32 = nI (F E - 32) := fun y => by
        rw [show (32 : Int32) = iz 32 from rfl, nI_iz, nI_iz, iz_sub]; congr 1; omega
      have hL : L < 256 := by cases sm <;> simp at hsm <;> omega
      refine FO.pre (fld_tail (sm := sm) (L := L) hR3 (S2.kx (ov := ov) hd (KX.rd gc gm)) hn ((hV.vc (fun f a1 a2 => gk f (by omega))).vm (u3.i (by rfl)) (u3.j (by rfl)) (u3.i (by rfl))) E hP3 (by omega) y0 hkd hgp hL ((gk _ (by omega)).trans a3) ((gk _ (by omega)).trans a4) ?_ (fun Gm k => ?_)) (fc.trans gc) (fm'.trans gm)
      · rw [e1]
        unfold f_X9_readField_68
        rw [u1, bd_eq, if_neg (by decide), nms3.rd]
        cases sm
        · have hsm' : F E < 96 ∧ L = F E := hsm
          rw [if_pos (show cI false = 0 from rfl), hsm'.2]
        · have hsm' : 96 ≤ F E ∧ L = F E - 32 := hsm
          rw [if_neg (show ¬ cI true = 0 by decide), e32 (by omega), hsm'.2]
      · show f_X12_escape_b99 Gm k (nI kd) (nI gp) 1 m = _
        rw [e2, u2, bd_eq, if_pos v3]
        unfold f_X12_escape_169
        cases sm
        · have hsm' : F E < 96 ∧ L = F E := hsm
          rw [if_pos (show nI (F E) < 96 from nI_lt (b := 96) hsm'.1 (by decide)), if_pos (show nI (F E) < 96 from nI_lt (b := 96) hsm'.1 (by decide)), hsm'.2]; rfl
        · have hsm' : 96 ≤ F E ∧ L = F E - 32 := hsm
          rw [if_neg (show ¬ nI (F E) < 96 from nI_nlt (b := 96) hsm'.1 (by omega)), if_neg (show ¬ nI (F E) < 96 from nI_nlt (b := 96) hsm'.1 (by omega)), e32 (by omega), hsm'.2]; rfl
    · have gm : Fr rdM noA m2 m3 := u3.weak (fun f i z => cn_rd z) (fun _ z => z)
      refine ⟨c3, m3, fc.trans gc, fm'.trans gm, Or.inl ⟨?_, hM3, fun Gm k hk => ?_⟩⟩
      · rw [e1]
        unfold f_X9_readField_68
        rw [u1, bd_eq, if_pos rfl]
      · show f_X12_escape_b99 Gm k (nI kd) (nI gp) 1 m = _
        rw [e2, u2, bd_eq, if_neg (by rw [hM3.m1]; decide)]
  have l96 : F E < 96 → nI (F E) < 96 := fun y => nI_lt (b := 96) y (by decide)
  have n96 : 96 ≤ F E → ¬ nI (F E) < 96 := fun y => nI_nlt (b := 96) y (by omega)
  have l64 : F E < 64 → nI (F E) < 64 := fun y => nI_lt (b := 64) y (by decide)
  have n64 : 64 ≤ F E → ¬ nI (F E) < 64 := fun y => nI_nlt (b := 64) y (by omega)
  have l126 : F E ≤ 126 → ¬ (126 : Int32) < nI (F E) := fun y => nI_nlt (a := 126) y (by decide)
  have n126 : 126 < F E → (126 : Int32) < nI (F E) := fun y => nI_lt (a := 126) y (by omega)
  have le126 : F E ≤ 126 → nI (F E) ≤ 126 := fun y => nI_le (b := 126) y (by decide)
  have nle126 : 126 < F E → ¬ nI (F E) ≤ 126 := fun y => nI_ge (a := 126) y (by omega)
  have le94 : F E ≤ 94 → nI (F E) ≤ 94 := fun y => nI_le (b := 94) y (by decide)
  have nle94 : 94 < F E → ¬ nI (F E) ≤ 94 := fun y => nI_ge (a := 94) y (by omega)
  have ne95 : ¬ F E = 95 → ¬ nI (F E) = 95 := fun y => nI_ne hx (by decide) y
  by_cases a1 : F E < 64
  · refine hN ?_ (fun Gm k => ?_)
    · rw [ec, if_pos (l96 (by omega))]
      unfold f_X9_readField_41
      rw [if_pos rfl, if_pos (l64 a1)]
    · rw [emm, if_pos (l64 a1)]
  by_cases a2 : F E ≤ 94
  · refine hLt false (F E) ⟨by omega, rfl⟩ ?_ (fun Gm k => ?_)
    · rw [ec, if_pos (l96 (by omega))]
      unfold f_X9_readField_41
      rw [if_pos rfl, if_neg (n64 (by omega)), if_pos (le94 a2)]; rfl
    · rw [emm, if_neg (n64 (by omega)), if_neg (ne95 (by omega)), if_pos (le126 (by omega))]
  by_cases a5 : F E = 95
  · refine hN ?_ (fun Gm k => ?_)
    · rw [ec, if_pos (l96 (by omega))]
      unfold f_X9_readField_41
      rw [if_pos rfl, if_neg (n64 (by omega)), if_neg (nle94 (by omega))]
    · rw [emm, if_neg (n64 (by omega)), if_pos (show nI (F E) = 95 by rw [a5]; rfl)]
  by_cases a6 : F E ≤ 126
  · refine hLt true (F E - 32) ⟨by omega, rfl⟩ ?_ (fun Gm k => ?_)
    · rw [ec, if_neg (n96 (by omega)), if_neg (l126 a6)]
      unfold f_X9_readField_41
      rw [if_neg (by decide)]; rfl
    · rw [emm, if_neg (n64 (by omega)), if_neg (ne95 a5), if_pos (le126 a6)]
  · refine hN ?_ (fun Gm k => ?_)
    · rw [ec, if_neg (n96 (by omega)), if_pos (n126 (by omega))]
      unfold f_X9_readField_41
      rw [if_pos rfl, if_neg (n64 (by omega)), if_neg (nle94 (by omega))]
    · rw [emm, if_neg (n64 (by omega)), if_neg (ne95 a5), if_neg (nle126 (by omega))]
end I7
