/-! A row of data whole, on both sides. -/
section H6
variable {c c' c0 c1 c2 c3 m m' m0 m1 m2 m3 T T' M' : Mm} {d w b A o M o' n p r q a i s f k u h rb t v fl cnt wd sc st ox oy y : Nat} {F : Nat → Nat} {ov ov' ng sg z : Bool} {g L : Nat → Int32} {Gc Gm : Gty} {PF QF : Nat → Nat → Bool} {PA QA : Nat → Bool} {S V V1 V2 : Int → Int → Bool}
theorem ue_env (h : EVq c 45 (gA m 134)) (e : EB (gA m 134)) (u : UE c m c' m') : EVq c' 45 (gA m' 134) ∧ EB (gA m' 134) ∧ ∀ j, (j < 60 ∨ 140 ≤ j) → gA m' 134 j = gA m 134 j := by
  obtain ⟨u1, u2, u3, u4⟩ := u
  obtain ⟨mx, hmx⟩ : ∃ mx, mx = vA m 134 (gA m' 134) := ⟨_, rfl⟩
  have e34 : gA mx 134 = gA m' 134 := by rw [hmx, gA_vA_s]
  have fx : Fr nF meA m mx := by rw [hmx]; exact Fr.refl.vA _ (by rfl)
  have ep : EP c m c' mx := by
    refine EP.ras h e (u1.weak (fun _ _ _ => rfl) (fun a y => by
      cases z : a49 a
      · rfl
      · have : a = 49 := by simpa [a49] using z
        subst this; exact absurd y (by decide))) fx (fun j hj => by rw [e34]; exact u3 j (by omega)) ?_ ?_ ?_ ?_ ?_ ?_ ?_ ?_ ?_ ?_
    · rw [e34, u3 _ (by omega), u1.i rfl]; exact h.i (400, 3, 53) (by decide)
    · rw [e34, u3 _ (by omega), u1.i rfl]; exact h.i (401, 3, 54) (by decide)
    · rw [e34, u3 _ (by omega), u1.i rfl]; exact h.i (404, 3, 57) (by decide)
    · rw [e34, u3 _ (by omega), u1.i rfl]; exact h.i (405, 3, 58) (by decide)
    · rw [e34, u3 _ (by omega), u1.i rfl]; exact h.w
    · rw [e34, u3 _ (by omega), u1.i rfl]; exact h.h
    · rw [e34, u3 57 (by omega), u3 56 (by omega), u3 59 (by omega), u1.i rfl]
      exact fun a b => ⟨h.r a b, e.o a b⟩
    · intro i hi
      rw [e34]; exact u4 i hi
    · intro k k1 k2
      rw [e34, u3 _ (by omega)]; exact e.r k (by omega)
    · rw [e34, u3 _ (by omega), u3 _ (by omega)]; exact e.z
  have v := ep.v
  have b := ep.b
  rw [e34] at v b
  exact ⟨v, b, u3⟩
def f55A (a : Nat) : Bool := a == 134
theorem RR.envx (h : RR d ov c m) (fc : Fr eF eA c c') (fm : Fr f55 meA m m') (ev : EVq c' 45 (gA m' 134)) (eb : EB (gA m' 134)) (e0 : gA m' 134 0 = gA m 134 0) (e1 : gA m' 134 1 = gA m 134 1) : RR d ov c' m' := by
  obtain ⟨q, q1, q2, q3⟩ := h.gn
  obtain ⟨k, v, hcv⟩ := h.cv
  obtain ⟨p, hp1, hp2⟩ := h.sh.pp
  exact RR_mk ev eb (by rw [fc.i (by rfl)]; exact h.d1) (by rw [fm.i (by rfl)]; exact h.d2) h.d3 (by rw [fc.i (by rfl)]; exact h.o1) (by rw [fm.i (by rfl)]; exact h.o2) (by rw [fm.i (by rfl)]; exact h.im) ⟨q, by rw [fc.i (by rfl)]; exact q1, by rw [fm.i (by rfl)]; exact q2, q3⟩
    ⟨k, v, hcv.fr fc fm e0 e1 ⟨rfl, rfl, rfl⟩ ⟨rfl, rfl⟩ rfl rfl⟩ (h.sh.fr hp1 hp2 fc fm (fun _ => rfl) ⟨rfl, rfl, rfl, fun i hi => eA_o (by omega)⟩ ⟨rfl, rfl, rfl, rfl⟩ ⟨rfl, rfl, rfl, rfl⟩) (h.tb.fr fm rfl rfl) (h.ft.fr fc fm ⟨rfl, rfl, rfl, rfl, rfl, rfl⟩ ⟨rfl, rfl, rfl, rfl, rfl, rfl, rfl⟩ rfl)
    (h.ka.fr fc ⟨rfl, rfl⟩ ⟨rfl, rfl, rfl⟩) (h.tl.fr fc fm rfl ⟨rfl, rfl, rfl, rfl, rfl⟩ (fun f i a b => eF_o (by omega)) (fun i a b => eA_o (by omega))) (h.mc.fr fc fm ⟨rfl, rfl, rfl⟩ ⟨rfl, rfl, rfl, rfl⟩) (by rw [fc.r (by rfl)]; exact h.rd) (by rw [fm.r (by rfl)]; exact h.sc)
theorem a49_e {a : Nat} (y : eA a = false) : a49 a = false := by
  cases z : a49 a
  · rfl
  · have : a = 49 := by simpa [a49] using z
    subst this; exact absurd y (by decide)
theorem OU.ue (h : RR d ov c m) (u : UE c m c' m') : OU d ov c m c' m' := by
  obtain ⟨v, b, o⟩ := ue_env h.ev h.eb u
  have fc : Fr eF eA c c' := u.1.weak (fun _ _ _ => rfl) (fun _ y => a49_e y)
  refine ⟨Or.inl (h.envx fc (u.2.1.weak (fun _ _ y => y) (fun _ y => y)) v b (o 0 (by omega)) (o 1 (by omega))), KP.of fc u.2.1 (fun f i y => ?_) (fun a y => ?_) (fun f i y => ?_) (fun a y => ?_), fun _ => ⟨o 0 (by omega), o 1 (by omega)⟩⟩
  · unfold eF at y; unfold skF; rw [y]; simp
  · unfold eA at y; unfold skA; rw [y]; simp
  · unfold f55 at y
    have : i = 133 ∧ f = 1255 := by simpa using y
    obtain ⟨rfl, rfl⟩ := this
    exact ⟨rfl, by decide⟩
  · unfold a134 at y
    have : a = 134 := by simpa using y
    subst this; exact ⟨rfl, by decide, by decide⟩
theorem two_begin0 (h : EVq c 45 (gA m 134)) (e : EB (gA m 134)) : ∃ c' m', f_X9_beginRaster 0 c = some ((), c') ∧ f_X12_begin 1 m = some ((), m') ∧ EP c m c' m' := by
  unfold f_X9_beginRaster f_X12_begin
  rw [if_pos rfl, if_neg (show ¬ (1 : Int32) = 0 by decide)]
  obtain ⟨c2, m2, s1, s2, s3, _⟩ := mx (z := 0) h e (by omega) (by omega)
  obtain ⟨c3, m3, u1, u2, u3⟩ := ras_begin s3.v s3.b
  rw [show (0 : Int64) = jz 0 from rfl, s1, s2, bd_eq, bd_eq]
  exact ⟨c3, m3, u1, u2, s3.trans u3⟩
/-- the row is counted, and the cursor goes down -/
theorem two_fin (h : EVq c 45 (gA m 134)) (e : EB (gA m 134)) (es : gA m 134 53 = nI sc) (e57 : gA m 134 57 = 1) (nf : ¬ gA m 134 56 = -1 → gA m 134 59 < gA m 134 56) : ∃ c' m', f_X9_growRows 1 c = some ((), c') ∧ rFin sc m = some ((), m') ∧ EP c m c' m' := by
  obtain ⟨s', s1, s2, s3⟩ := e.k53
  have ess : s' = sc ∨ True := Or.inr trivial
  have esc : nI s' = nI sc := s1.symm.trans es
  obtain ⟨z, z0, z1, z2⟩ := e.k56
  have ez := e.z.2
  -- the class's count
  obtain ⟨b0, hb0, hb1⟩ : ∃ b0, f_X9_growRows 1 c = f_X9_growRows_26 (nI 1) b0 c ∧ (¬ gA m 134 56 = -1 → b0 = gA m 134 59 + 1 ∧ 0 ≤ (gA m 134 59 + 1).toInt ∧ (gA m 134 59 + 1).toInt ≤ (gA m 134 56).toInt) := by
    unfold f_X9_growRows
    rw [h.h]
    by_cases q : gA m 134 56 = -1
    · refine ⟨0, ?_, fun y => absurd q y⟩
      rw [q, show rz (-1) = 0 from rfl, if_pos (by decide)]
      rfl
    · refine ⟨gA m 134 59 + 1, ?_, fun _ => ⟨rfl, ?_⟩⟩
      · have hz : 1 ≤ z := by
          have n1 : z ≠ -1 := fun y => q (by rw [z0, y]; decide)
          have n0 : z ≠ 0 := fun y => ez (by rw [z0, y]; rfl)
          omega
        rw [show rz (gA m 134 56) = gA m 134 56 by unfold rz; rw [if_neg q], z0, if_neg (show ¬ iz z ≤ 0 from fun y => by
          have := (iz_le (a := z) (b := 0) (by omega) (by omega) (by omega) (by omega)).mp y
          omega), h.r e57 q]
        rfl
      · obtain ⟨o1, o2⟩ := e.o e57 q
        have lt := nf q
        rw [Int32.lt_iff_toInt_lt] at lt
        have z56 : (gA m 134 56).toInt ≤ 32767 := by rw [z0, iz_int (by omega) (by omega)]; exact z2
        obtain ⟨x, x0, x1, x2⟩ := iz_ex (gA m 134 59)
        rw [x0, iz_int x1 x2] at o1 lt
        rw [x0, show (1 : Int32) = iz 1 from rfl, iz_add, iz_int (by omega) (by omega)]
        omega
  have ep : EP c m (uI c 406 48 b0) (uA m 134 59 (gA m 134 59 + 1)) := by
    have q : ∀ j, gA (uA m 134 59 (gA m 134 59 + 1)) 134 j = if j = 59 then gA m 134 59 + 1 else gA m 134 j := fun j => gA_one
    have p : ∀ f, f ≠ 406 → gI (uI c 406 48 b0) f 48 = gI c f 48 := fun f hf => by rw [gI_uI, if_neg (fun z => hf z.1)]
    refine EP.ras h e (Fr.refl.uI _ (by rfl)) (Fr.refl.uA _ _ (by rfl)) (fun j hj => by rw [q, if_neg (by omega)]) ?_ ?_ ?_ ?_ ?_ ?_ ?_ ?_ ?_ ?_
    · rw [p _ (by decide), q, if_neg (by decide)]; exact h.i (400, 3, 53) (by decide)
    · rw [p _ (by decide), q, if_neg (by decide)]; exact h.i (401, 3, 54) (by decide)
    · rw [p _ (by decide), q, if_neg (by decide)]; exact h.i (404, 3, 57) (by decide)
    · rw [p _ (by decide), q, if_neg (by decide)]; exact h.i (405, 3, 58) (by decide)
    · rw [p _ (by decide), q, if_neg (by decide)]; exact h.w
    · rw [p _ (by decide), q, if_neg (by decide)]; exact h.h
    · rw [q 57, q 56, q 59, if_neg (by decide), if_neg (by decide), if_pos rfl]
      intro _ v
      obtain ⟨w1, w2, w3⟩ := hb1 v
      refine ⟨?_, w2, w3⟩
      rw [gI_uI, if_pos ⟨rfl, rfl⟩]; exact w1
    · intro i hi
      rw [gA_uI, q, if_neg (by omega)]; exact h.b i hi
    · intro k k1 k2
      rw [q, if_neg (by omega)]; exact e.r k (by omega)
    · rw [q, q, if_neg (by decide), if_neg (by decide)]; exact e.z
  obtain ⟨y, y1, y2⟩ := ep.b.k190
  have y1' : gA m 134 190 = nI y := by rw [gA_one, if_neg (by decide)] at y1; exact y1
  obtain ⟨c3, m3, u1, u2, u3, _⟩ := my (z := ((y + s' * 96 : Nat) : Int)) ep.v ep.b (by omega) (by omega)
  refine ⟨c3, m3, ?_, ?_, ep.trans u3⟩
  · rw [hb0]
    unfold f_X9_growRows_26
    rw [lb_eq, bd_u, show gI (uI c 406 48 b0) 707 46 = nI y by rw [gI_uI, if_neg (by decide)]; exact (h.i (707, 1, 190) (by decide)).trans y1', show gI (uI c 406 48 b0) 400 48 = nI s' by rw [gI_uI, if_neg (by decide)]; exact (h.i (400, 3, 53) (by decide)).trans s1, nI_j (by omega), nI_j (by omega), nI_j (by omega), show (96 : Int64) = jz 96 from rfl, jz_mul, jz_mul, jz_add, show (y : Int) + ((1 : Nat) : Int) * (s' : Int) * 96 = ((y + s' * 96 : Nat) : Int) by omega]
    exact u1
  · unfold rFin
    rw [lb_eq, bd_u, y1, ← esc, nI_j (by omega), nI_j (by omega), show (96 : Int64) = jz 96 from rfl, jz_mul, jz_add, show (y : Int) + 96 * (s' : Int) = ((y + s' * 96 : Nat) : Int) by omega]
    exact u2
end H6
