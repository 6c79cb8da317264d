/-! A field is read, on both sides. -/
def sz (w : Nat) (ng : Bool) (r : Nat) : Nat := if ng = true then 0 else if w ≤ r then w else r
def wtD (kd gp L : Nat) : Bool := decide (L = 87 ∨ (L = 88 ∧ kd = 38 ∧ gp = 112))
def oF (d f i : Nat) : Bool := i == 125 + d
section I6
variable {c c' c0 c1 c2 c3 m m' m0 m1 m2 m3 T T' M' : Mm} {d w b A o M o' n p r q a i s f k u h rb t v kd gp L : Nat} {F : Nat → Nat} {ov ov' ng sg z sm wt e : Bool} {g : Nat → Int32} {Gc Gm : Gty} {PF QF : Nat → Nat → Bool} {PA QA : Nat → Bool}
theorem sz_le : sz w ng r ≤ r := by unfold sz; split <;> (try split) <;> omega
theorem sz_c (hw : w ≤ 32767) (hr : r ≤ 30000) : (if (if nI r < iz (vz w ng) then nI r else iz (vz w ng)) < 0 then (0 : Int32) else (if nI r < iz (vz w ng) then nI r else iz (vz w ng))) = nI (sz w ng r) := by
  cases ng
  · rw [show iz (vz w false) = nI w from (nI_iz w).symm, show sz w false r = if w ≤ r then w else r from rfl]
    by_cases y : w ≤ r
    · rw [if_neg (show ¬ nI r < nI w from nI_nlt y (by omega)), if_neg (show ¬ nI w < 0 from nI_pos (by omega)), if_pos y]
    · rw [if_pos (show nI r < nI w from nI_lt (by omega) (by omega)), if_neg (show ¬ nI r < 0 from nI_pos (by omega)), if_neg y]
  · have a : ¬ nI r < iz (vz w true) := by
      rw [show vz w true = -(w : Int) from rfl, nI_iz, iz_lt (by omega) (by omega) (by omega) (by omega)]; omega
    rw [if_neg a, show vz w true = -(w : Int) from rfl]
    by_cases y : w = 0
    · subst y; rw [if_neg (by decide)]; rfl
    · rw [if_pos ((iz_nn (by omega) (by omega)).mpr (by omega))]; rfl
theorem sz_m (hw : w ≤ 32767) (hr : r ≤ 30000) {α : Type} (K : Int32 → α) : (if 0 ≤ iz (vz w ng) then (if iz (vz w ng) ≤ nI r then K (iz (vz w ng)) else K (nI r)) else (if (0 : Int32) ≤ nI r then K 0 else K (nI r))) = K (nI (sz w ng r)) := by
  have z0 : (0 : Int32) ≤ nI r := nI_le (a := 0) (by omega) (by omega)
  cases ng
  · rw [show iz (vz w false) = nI w from (nI_iz w).symm, show sz w false r = if w ≤ r then w else r from rfl, if_pos (show (0 : Int32) ≤ nI w from nI_le (a := 0) (by omega) (by omega))]
    by_cases y : w ≤ r
    · rw [if_pos (show nI w ≤ nI r from nI_le y (by omega)), if_pos y]
    · rw [if_neg (show ¬ nI w ≤ nI r from nI_ge (by omega) (by omega)), if_neg y]
  · rw [show vz w true = -(w : Int) from rfl, show sz w true r = 0 from rfl]
    by_cases y : w = 0
    · subst y
      rw [show iz (-((0 : Nat) : Int)) = 0 by decide, if_pos (show (0 : Int32) ≤ 0 by decide), if_pos z0]; rfl
    · rw [if_neg (show ¬ (0 : Int32) ≤ iz (-(w : Int)) from fun y2 => by rw [show (0 : Int32) = iz 0 from rfl, iz_le (by omega) (by omega) (by omega) (by omega)] at y2; omega), if_pos z0]; rfl
theorem NMs.ob (h : NMs c d q) (f : Fr (oF d) noA c c') : NMs c' d q := by
  have hd := h.2.2.2.2.2
  have e : ∀ f i, i ≠ 125 + d → oF d f i = false := fun f i z => by unfold oF; simpa using z
  exact ⟨(f.i (e _ _ (by omega))).trans h.1, h.2.1, (f.i (e _ _ (by omega))).trans h.2.2.1, (f.i (e _ _ (by omega))).trans h.2.2.2.1, (f.r (e _ _ (by omega))).trans h.2.2.2.2.1, hd⟩
theorem VL.vc (h : VL c m d w b ng sg) (e : ∀ f, 507 ≤ f → f ≤ 510 → gI c' f (125 + d) = gI c f (125 + d)) : VL c' m d w b ng sg := ⟨h.1, h.2.1, (e 509 (by omega) (by omega)).trans h.2.2.1, (e 510 (by omega) (by omega)).trans h.2.2.2.1, (e 508 (by omega) (by omega)).trans h.2.2.2.2.1, (e 507 (by omega) (by omega)).trans h.2.2.2.2.2.1, h.2.2.2.2.2.2⟩
theorem VL.vm (h : VL c m d w b ng sg) (e1 : gI m' 1251 133 = gI m 1251 133) (e2 : gJ m' 1253 133 = gJ m 1253 133) (e3 : gI m' 1254 133 = gI m 1254 133) : VL c m' d w b ng sg := ⟨h.1, h.2.1, h.2.2.1, h.2.2.2.1, h.2.2.2.2.1, h.2.2.2.2.2.1, e1.trans h.2.2.2.2.2.2.1, e2.trans h.2.2.2.2.2.2.2.1, e3.trans h.2.2.2.2.2.2.2.2⟩
def tlF (d f i : Nat) : Bool := (i == 23 && f == 916) || (i == 125 + d && (f == 501 || f == 505 || f == 506 || f == 511 || f == 512))
theorem tl_o {f i : Nat} (hf : f = 501 ∨ f = 505 ∨ f = 506 ∨ f = 511 ∨ f = 512) : tlF d f (125 + d) = true := by
  unfold tlF; rcases hf with rfl | rfl | rfl | rfl | rfl <;> simp
theorem pF_tl {f i : Nat} (z : tlF d f i = false) : pF d f i = false := by
  unfold tlF at z; unfold pF
  simp at z ⊢
  exact ⟨z.1, fun y => (z.2 y).1.1.1.1⟩
theorem tl_rd {f i : Nat} (z : rdF d f i = false) : tlF d f i = false := by
  unfold rdF at z; unfold tlF
  obtain ⟨z1, z2⟩ := Bool.or_eq_false_iff.mp z
  rw [z1, Bool.false_or]
  cases y : (i == 125 + d)
  · rfl
  · rw [y] at z2
    simp at z2
    rw [Bool.true_and]
    by_cases e : f = 500
    · subst e; rfl
    · have := z2 e
      subst this; rfl
theorem c_168 (n0 : NMs c d q) (e1 : gI c 501 (125 + d) = nI (o + p)) (e2 : gI c 502 (125 + d) = nI (o + n)) (hp : p ≤ n) (v : VL c m d w b ng sg) (hn : n ≤ 24000) : ∃ c', f_X9_readField_168 (cI wt) (cI e) (125 + d) c = some (cI (decide (q + (if wt = true then sz w ng (n - p) else 0) ≤ 60000)), c') ∧ Fr (tlF d) noA c c' ∧ gI c' 505 (125 + d) = gI c 505 (125 + d) ∧ gI c' 506 (125 + d) = cI e ∧ gI c' 511 (125 + d) = nI (o + p) ∧ gI c' 512 (125 + d) = nI (if wt = true then sz w ng (n - p) else 0) ∧ gI c' 501 (125 + d) = nI (o + p + (if wt = true then sz w ng (n - p) else 0)) ∧ gI c' 916 23 = nI (q + (if wt = true then sz w ng (n - p) else 0)) := by
  have hs := sz_le (w := w) (ng := ng) (r := n - p)
  obtain ⟨r, hr⟩ : ∃ r, r = (if wt = true then sz w ng (n - p) else 0) := ⟨_, rfl⟩
  have hr2 : r ≤ n - p := by rw [hr]; split <;> omega
  obtain ⟨c1, hc1⟩ : ∃ c1, c1 = uI c 506 (125 + d) (cI e) := ⟨_, rfl⟩
  have f1 : Fr (oF d) noA c c1 := by rw [hc1]; exact Fr.refl.uI _ (by unfold oF; simp)
  have t1 : Fr (tlF d) noA c c1 := by rw [hc1]; exact Fr.refl.uI _ (tl_o (i := 0) (by omega))
  have g1 : ∀ f, f ≠ 506 → gI c1 f (125 + d) = gI c f (125 + d) := fun f hf => by rw [hc1, gI_uI, if_neg (fun y => hf y.1)]
  obtain ⟨c2, hc2⟩ : ∃ c2, c2 = uI c1 511 (125 + d) (nI (o + p)) := ⟨_, rfl⟩
  have f2 : Fr (oF d) noA c1 c2 := by rw [hc2]; exact Fr.refl.uI _ (by unfold oF; simp)
  have t2 : Fr (tlF d) noA c1 c2 := by rw [hc2]; exact Fr.refl.uI _ (tl_o (i := 0) (by omega))
  have g2 : ∀ f, f ≠ 511 → gI c2 f (125 + d) = gI c1 f (125 + d) := fun f hf => by rw [hc2, gI_uI, if_neg (fun y => hf y.1)]
  obtain ⟨c3, hc3⟩ : ∃ c3, c3 = uI c2 512 (125 + d) (nI r) := ⟨_, rfl⟩
  have f3 : Fr (oF d) noA c2 c3 := by rw [hc3]; exact Fr.refl.uI _ (by unfold oF; simp)
  have t3 : Fr (tlF d) noA c2 c3 := by rw [hc3]; exact Fr.refl.uI _ (tl_o (i := 0) (by omega))
  have g3 : ∀ f, f ≠ 512 → gI c3 f (125 + d) = gI c2 f (125 + d) := fun f hf => by rw [hc3, gI_uI, if_neg (fun y => hf y.1)]
  have n1 := n0.ob f1
  have n2 := n1.ob f2
  have n3 := n2.ob f3
  have v2 : VL c2 m d w b ng sg := (v.vc (c' := c1) (fun f a b => g1 f (by omega))).vc (fun f a b => g2 f (by omega))
  have a512 : gI c3 512 (125 + d) = nI r := by rw [hc3, gI_uI, if_pos ⟨rfl, rfl⟩]
  have a501 : gI c3 501 (125 + d) = nI (o + p) := by rw [g3 _ (by omega), g2 _ (by omega), g1 _ (by omega), e1]
  obtain ⟨c4, y1, y2, y3, y4⟩ := c_pass (r := r) n3 a501 (by omega)
  have g4 : ∀ f, f ≠ 501 → gI c4 f (125 + d) = gI c3 f (125 + d) := fun f hf => y2.i (by unfold pF; simp; omega)
  have em : nI (o + n) - nI (o + p) = nI (n - p) := by
    rw [nI_iz, nI_iz, nI_iz, iz_sub]; congr 1; omega
  refine ⟨c4, ?_, ((t1.trans t2).trans t3).trans (y2.weak (fun f i z => pF_tl z) (fun _ z => z)), ?_, ?_, ?_, ?_, ?_, ?_⟩
  · rw [← hr]
    unfold f_X9_readField_168
    rw [gd_eq (show cI e = 0 ∨ cI e = 1 by cases e; exact Or.inl rfl; exact Or.inr rfl), lb_eq, ← hc1, n1.rd, n1.rd, lb_eq, show gI c1 501 (125 + d) = nI (o + p) by rw [g1 _ (by omega), e1], ← hc2, n2.rd, v2.n, bd_eq, n2.rd, n2.rd, show gI c2 502 (125 + d) = nI (o + n) by rw [g2 _ (by omega), g1 _ (by omega), e2], show gI c2 501 (125 + d) = nI (o + p) by rw [g2 _ (by omega), g1 _ (by omega), e1], em, f_min, bd_eq, n2.rd]
    cases wt
    · have hr0 : r = 0 := hr
      have e3 : uI c2 512 (125 + d) 0 = c3 := by rw [hc3, hr0]; rfl
      rw [if_pos (show cI false = 0 from rfl), lb_eq, e3, n3.rd, a512, y1, bd_eq, gd_eq (show cI _ = 0 ∨ cI _ = 1 by cases decide (q + r ≤ 60000); exact Or.inl rfl; exact Or.inr rfl)]
    · have hr0 : r = sz w ng (n - p) := hr
      rw [if_neg (show ¬ cI true = 0 by decide), f_max, bd_eq, sz_c v.1 (by omega), ← hr0, lb_eq, ← hc3, n3.rd, a512, y1, bd_eq, gd_eq (show cI _ = 0 ∨ cI _ = 1 by cases decide (q + r ≤ 60000); exact Or.inl rfl; exact Or.inr rfl)]
  · rw [g4 _ (by omega), g3 _ (by omega), g2 _ (by omega), g1 _ (by omega)]
  · rw [g4 _ (by omega), g3 _ (by omega), g2 _ (by omega), hc1, gI_uI, if_pos ⟨rfl, rfl⟩]
  · rw [g4 _ (by omega), g3 _ (by omega), hc2, gI_uI, if_pos ⟨rfl, rfl⟩]
  · rw [← hr, g4 _ (by omega), a512]
  · rw [← hr]; exact y4
  · rw [← hr]; exact y3
theorem c_150 (n0 : NMs c d q) : f_X9_readField_150 (cI sm) (cI wt) c = f_X9_readField_168 (cI wt) (cI (!sm || wt)) (125 + d) c := by
  unfold f_X9_readField_150
  rw [n0.rd]
  cases sm <;> cases wt
  · rw [if_pos (show cI false = 0 from rfl)]; rfl
  · rw [if_pos (show cI false = 0 from rfl)]; rfl
  · rw [if_neg (show ¬ cI true = 0 by decide), if_pos (show cI false = 0 from rfl)]; rfl
  · rw [if_neg (show ¬ cI true = 0 by decide), if_neg (show ¬ cI true = 0 by decide)]; rfl
theorem c_94 (n0 : NMs c d q) (h3 : gI c 503 (125 + d) = nI kd) (h4 : gI c 504 (125 + d) = nI gp) (hkd : kd < 256) (hgp : gp < 256) (hL : L < 256) (e1 : gI c 501 (125 + d) = nI (o + p)) (e2 : gI c 502 (125 + d) = nI (o + n)) (hp : p ≤ n) (v : VL c m d w b ng sg) (hn : n ≤ 24000) (hwt : wt = wtD kd gp L) : ∃ c', f_X9_readField_94 (cI sm) (nI L) (125 + d) c = some (cI (decide (q + (if wt = true then sz w ng (n - p) else 0) ≤ 60000)), c') ∧ Fr (tlF d) noA c c' ∧ gI c' 505 (125 + d) = nI L ∧ gI c' 506 (125 + d) = cI (!sm || wt) ∧ gI c' 511 (125 + d) = nI (o + p) ∧ gI c' 512 (125 + d) = nI (if wt = true then sz w ng (n - p) else 0) ∧ gI c' 501 (125 + d) = nI (o + p + (if wt = true then sz w ng (n - p) else 0)) ∧ gI c' 916 23 = nI (q + (if wt = true then sz w ng (n - p) else 0)) := by
  obtain ⟨c1, hc1⟩ : ∃ c1, c1 = uI c 505 (125 + d) (nI L) := ⟨_, rfl⟩
  have f1 : Fr (oF d) noA c c1 := by rw [hc1]; exact Fr.refl.uI _ (by unfold oF; simp)
  have t1 : Fr (tlF d) noA c c1 := by rw [hc1]; exact Fr.refl.uI _ (tl_o (i := 0) (by omega))
  have g1 : ∀ f, f ≠ 505 → gI c1 f (125 + d) = gI c f (125 + d) := fun f hf => by rw [hc1, gI_uI, if_neg (fun y => hf y.1)]
  have n1 := n0.ob f1
  have a5 : gI c1 505 (125 + d) = nI L := by rw [hc1, gI_uI, if_pos ⟨rfl, rfl⟩]
  have b3 : gI c1 503 (125 + d) = nI kd := (g1 _ (by omega)).trans h3
  have b4 : gI c1 504 (125 + d) = nI gp := (g1 _ (by omega)).trans h4
  have em : f_X9_readField_94 (cI sm) (nI L) (125 + d) c = f_X9_readField_150 (cI sm) (cI wt) c1 := by
    unfold f_X9_readField_94
    rw [lb_eq, ← hc1, n1.rd, a5]
    by_cases y : L = 87
    · subst y
      rw [if_pos (show nI 87 = 87 from rfl), hwt, show wtD kd gp 87 = true from decide_eq_true (Or.inl rfl)]; rfl
    · rw [if_neg (show ¬ nI L = 87 from nI_ne hL (by decide) y), n1.rd, a5]
      by_cases y2 : L = 88
      · subst y2
        rw [if_pos (show nI 88 = 88 from rfl), n1.rd, b3]
        by_cases y3 : kd = 38
        · rw [if_pos (show nI kd = 38 by rw [y3]; rfl), n1.rd, b4]
          by_cases y4 : gp = 112
          · rw [if_pos (show nI gp = 112 by rw [y4]; rfl), hwt, show wtD kd gp 88 = true from decide_eq_true (Or.inr ⟨rfl, y3, y4⟩)]; rfl
          · rw [if_neg (show ¬ nI gp = 112 from nI_ne hgp (by decide) y4), hwt, show wtD kd gp 88 = false from decide_eq_false (by omega)]; rfl
        · rw [if_neg (show ¬ nI kd = 38 from nI_ne hkd (by decide) y3), hwt, show wtD kd gp 88 = false from decide_eq_false (by omega)]; rfl
      · rw [if_neg (show ¬ nI L = 88 from nI_ne hL (by decide) y2), hwt, show wtD kd gp L = false from decide_eq_false (by omega)]; rfl
  obtain ⟨c2, k1, k2, k3, k4⟩ := c_168 (m := m) (w := w) (b := b) (ng := ng) (sg := sg) (wt := wt) (e := (!sm || wt)) n1 ((g1 _ (by omega)).trans e1) ((g1 _ (by omega)).trans e2) hp (v.vc (fun f a b => g1 f (by omega))) hn
  exact ⟨c2, by rw [em, c_150 n1, k1], t1.trans k2, k3.trans a5, k4⟩
end I6
