/-! A directory's checks once its entries are told. -/
section DND
variable {β : Type} {Q : β → Mm → Int32 → Mm → Prop} {K : Int64 → Mm → Option (β × Mm)} {st sz p q nn nx : Nat} {F : Nat → Nat} {lo : Bool} {c m : Mm} {k31 : Int32 → Int32 → Int32 → Mm → Option (Int32 × Mm)}
theorem P2_dend (pc : PicC c st sz F) (pm : PicM m st sz F) (hl : gI c 306 129 = cI lo) (hlm : gI m 1269 133 = cI (!lo)) (rt : RunT c) (tb : Tab m) (sh : Sh c m) (hp : gI c 602 5 = nI p) (hp12 : p ≤ 12) (f0 : gI c 304 129 = 0) (E : DE c m sz) (hq : q ≤ sz) (hn40 : nn ≤ 40) (hnx : nx < 2 ^ 40)
    (good : ∀ c' m' y, Fr cDrF cDrA c c' → Fr mDrF mDrA m m' → gI c' 603 5 = cI y → gI m' 1233 133 = cI y → (y = false → Sh c' m' ∧ gI c' 304 129 = 0) → (y = true → gI c' 304 129 = 1) → (∀ j, j < 64000 → gA m' 157 j = 0) → K3 c m c' m' → P2 (K (lN (nm F lo nx 4)) c') (some (1, m')) Q)
    (bad : ∀ c' m' k p, Fr cDrF cDrA c c' → Fr mDrF mDrA m m' → (k = 4 ∨ k = 5) → gI c' 304 129 = nI k → gI c' 305 129 = nI p → gI m' 1243 133 = nI k → gI m' 1245 133 = nI p → p ≤ sz → gI m' 1233 133 = gI m 1233 133 → P2 (K (lN (nm F lo nx 4)) c') (some (0, m')) Q) :
    P2 (bd (f_X3_readDirectory_101 (lN q) (lN nx) c) K) (f_X12_directory_b31 k31 (nI q) (nI nn) (nI nn) m) Q := by
  have hsz := pc.2.2.2.1
  obtain ⟨h1, h2, h3, h4, h5, h6, h7, h8⟩ := E
  have npr : ∀ v, v < 2 ^ 60 → ¬ lg_cmp (lN v) (-1) = 0 := fun v hv y => by
    have e := c_eq.mp y
    have h1 : lN 0 ≤ lN v := (pk_lLE (by omega) (by omega)).mpr (by omega)
    rw [e] at h1
    exact absurd h1 (by decide)
  have nga : ∀ v, v < 2 ^ 20 → ¬ nI v = -1 := fun v hv e => by
    have h1 : ¬ nI v < 0 := nI_pos (by omega)
    rw [e] at h1; exact h1 (by decide)
  have miss : P2 (bd (bd (f_X3_fail 4 (lN q) c) fun _ T1 => f_X3_checkEntries_72 T1) fun u T => bd (if gI T 304 129 = 0 then bd (f_X3_readStrips T) fun _ T2 => f_X3_readDirectory_117 (lN nx) T2 else f_X3_readDirectory_117 (lN nx) T) K) (bd (f_X12_wrong 4 (nI q) m) fun v1 T2 => gd (v1 = 0 ∨ v1 = 1) <| some (v1, T2)) Q := by
    have fS : Fr cDrF cDrA c (uI (uI c 304 129 (nI 4)) 305 129 (nI q)) := (Fr.refl.uI _ (by rfl)).uI _ (by rfl)
    have e304 : gI (uI (uI c 304 129 (nI 4)) 305 129 (nI q)) 304 129 = nI 4 := by rw [gI_uI, if_neg (by decide), gI_uI, if_pos ⟨rfl, rfl⟩]
    have hne : ¬ gI (uI (uI c 304 129 (nI 4)) 305 129 (nI q)) 304 129 = 0 := by rw [e304]; decide
    rw [m_wrong, show (4 : Int32) = nI 4 from rfl, f_fail (sz := sz) f0 pc.2.2.1 (by omega) (by omega), bd_eq, if_neg (show ¬ sz < q by omega)]
    unfold f_X3_checkEntries_72
    rw [if_neg hne, bd_eq, if_neg hne]
    unfold f_X3_readDirectory_117 f_X3_readDirectory_141
    rw [if_neg hne, if_neg hne, show (4 : Int32) = nI 4 from rfl, pic_num (c := uI (uI c 304 129 (nI 4)) 305 129 (nI q)) (st := st) (sz := sz) (F := F) (lo := lo) (pc.fr fS rfl rfl rfl rfl) (by rw [fS.i rfl]; exact hl) (by omega) (by omega), bd_eq, bd_eq]
    exact bad _ _ 4 q fS ((Fr.refl.uI _ (by rfl)).uI _ (by rfl)) (Or.inl rfl) e304 (by rw [gI_uI, if_pos ⟨rfl, rfl⟩]) (by rw [gI_uI, if_neg (by decide), gI_uI, if_pos ⟨rfl, rfl⟩]) (by rw [gI_uI, if_pos ⟨rfl, rfl⟩]) hq (by rw [gI_uI, if_neg (by decide), gI_uI, if_neg (by decide)])
  unfold f_X3_readDirectory_101 f_X12_directory_b31 f_X3_checkEntries
  rw [if_pos (nI_le (Nat.le_refl _) (by omega)), bd_assoc]
  rcases h1 with ⟨a1, b1⟩ | ⟨p1, w, q1, a1, v1, y1, b1, z1⟩
  · rw [if_pos (c_eq.mpr b1), if_pos a1]; exact miss
  rw [if_neg (show ¬ lg_cmp (gJ c 309 129) (-1) = 0 by rw [b1]; exact npr _ (by omega)), if_neg (show ¬ gA m 170 256 = -1 by rw [a1]; exact nga _ q1)]
  rcases h2 with ⟨a2, b2⟩ | ⟨p2, h, q2, a2, v2, y2, b2, z2⟩
  · rw [if_pos (c_eq.mpr b2), if_pos a2]; exact miss
  rw [if_neg (show ¬ lg_cmp (gJ c 310 129) (-1) = 0 by rw [b2]; exact npr _ (by omega)), if_neg (show ¬ gA m 170 257 = -1 by rw [a2]; exact nga _ q2)]
  rcases h3 with ⟨a3, b3⟩ | ⟨p3, u3, q3, a3, v3, y3, b3, z3⟩
  · rw [if_pos (c_eq.mpr b3), if_pos a3]; exact miss
  rw [if_neg (show ¬ lg_cmp (gJ c 311 129) (-1) = 0 by rw [b3]; exact npr _ (by omega)), if_neg (show ¬ gA m 170 259 = -1 by rw [a3]; exact nga _ q3)]
  rcases h4 with ⟨a4, b4⟩ | ⟨p4, ph, q4, a4, v4, y4, b4, z4⟩
  · rw [if_pos (c_eq.mpr b4), if_pos a4]; exact miss
  rw [if_neg (show ¬ lg_cmp (gJ c 312 129) (-1) = 0 by rw [b4]; exact npr _ (by omega)), if_neg (show ¬ gA m 170 262 = -1 by rw [a4]; exact nga _ q4)]
  rcases h7 with ⟨a7, b7⟩ | ⟨po, q7, a7, b7⟩
  · rw [if_pos (c_eq.mpr b7), if_pos a7]; exact miss
  rw [if_neg (show ¬ lg_cmp (gJ c 315 129) (-1) = 0 by rw [b7]; exact npr _ (by omega)), if_neg (show ¬ gA m 170 273 = -1 by rw [a7]; exact nga _ (by omega))]
  rcases h8 with ⟨a8, b8⟩ | ⟨pn, q8, a8, b8⟩
  · rw [if_pos (c_eq.mpr b8), if_pos a8]; exact miss
  rw [if_neg (show ¬ lg_cmp (gJ c 316 129) (-1) = 0 by rw [b8]; exact npr _ (by omega)), if_neg (show ¬ gA m 170 279 = -1 by rw [a8]; exact nga _ (by omega))]
  have hw : 1 ≤ w ∧ w ≤ 640 := by simpa [may] using y1
  have hh : 1 ≤ h ∧ h ≤ 800 := by simpa [may] using y2
  have hph : ph = 0 ∨ ph = 1 := by simpa [may] using y4
  rw [z1, z2, lN_i, lN_i, lb_eq, lb_eq]
  unfold f_X3_checkEntries_72
  rw [if_pos f0, b2]
  obtain ⟨foc, fom, g1, g2, g3, g4, g5⟩ : ∃ foc fom, gJ c 313 129 = lN foc ∧ foc < 2 ^ 40 ∧ gB m 171 266 = lN fom ∧ fom < 2 ^ 40 ∧ (foc = 2 ↔ fom = 2) := by
    rcases h6 with ⟨x1, x2⟩ | ⟨v, x1, _, x2, x3⟩
    · exact ⟨1, 0, x1, by decide, x2, by decide, by decide⟩
    · exact ⟨v, v, x2, by omega, x3, by omega, Iff.rfl⟩
  have mid : ∀ rc rm ns, 1 ≤ rc → rc ≤ h → rm < 2 ^ 40 → (rc = rm ∨ (rc = h ∧ h ≤ rm)) → ns = (h + rc - 1) / rc → P2 (bd (f_X3_checkEntries_110 (lN rc) c) fun u T => bd (if gI T 304 129 = 0 then bd (f_X3_readStrips T) fun _ T2 => f_X3_readDirectory_117 (lN nx) T2 else f_X3_readDirectory_117 (lN nx) T) K) (f_X12_directory_l343 FU (nI w) (nI h) (lN rm) (nI ns) (nI 273) m) Q := by
    intro rc rm ns r1 r2 r3 r4 r5
    unfold f_X3_checkEntries_110
    rw [lb_eq, show gJ (uJ c 314 129 (lN rc)) 315 129 = lN po from by rw [gJ_uJ, if_neg (by decide)]; exact b7]
    have fJ : Fr cDrF cDrA c (uJ c 314 129 (lN rc)) := Fr.refl.uJ _ (by rfl)
    have fJ2 : Fr (fun f i => i == 129 && f == 314) (fun _ => false) c (uJ c 314 129 (lN rc)) := Fr.refl.uJ _ (by rfl)
    refine P2_mid (c := uJ c 314 129 (lN rc)) (inv := decide (ph = 1)) (p := p) (st := st) (sz := sz) (F := F) (lo := lo) (rc := rc) (rm := rm) (ns := ns) (w := w) (h := h) (ph := ph) (foc := foc) (fom := fom) (po := po) (pn := pn) (nx := nx) (pc.fr fJ rfl rfl rfl rfl) pm hl hlm rt tb (sh.fr hp hp12 fJ2 (Fr.refl (PF := fun _ _ => false) (PA := fun _ => false)) (fun _ => rfl) ⟨rfl, rfl, rfl, fun _ _ => rfl⟩ ⟨rfl, rfl, rfl, rfl⟩ ⟨rfl, rfl, rfl, rfl⟩) hp hp12 (by rw [gJ_uJ, if_neg (by decide)]; exact b1) (by rw [gJ_uJ, if_neg (by decide)]; exact b2) (by rw [gJ_uJ, if_pos ⟨rfl, rfl⟩]) (by rw [gJ_uJ, if_neg (by decide)]; exact b4) (by rw [gJ_uJ, if_neg (by decide)]; exact g1) g2 g3 g4 g5 (by rw [gJ_uJ, if_neg (by decide)]; exact b7) (by rw [gJ_uJ, if_neg (by decide)]; exact b8) q7 q8 a7 a8 f0 ?_ (by omega) rfl hw.1 hw.2 hh.1 hh.2 r1 r2 r3 r4 r5 hnx (fun c' m' y f1 => good c' m' y (fJ.trans f1)) (fun c' m' k p f1 => bad c' m' k p (fJ.trans f1))
    rw [z4, show (0 : Int64) = lN 0 from rfl, lN3 (by omega) 0 (by omega)]
    rcases hph with rfl | rfl <;> decide
  have hdh : (h + h - 1) / h = 1 := by
    rw [show h + h - 1 = (h - 1) + 1 * h by omega, Nat.add_mul_div_right _ _ (by omega), Nat.div_eq_of_lt (by omega)]
  rcases h5 with ⟨a5, b5⟩ | ⟨p5, r, q5, a5, v5, y5, b5, z5⟩
  · rw [if_pos (c_eq.mpr b5), if_pos a5, nI_l (by omega)]
    unfold f_X12_directory_309
    rw [nI_l (by omega), if_neg (show ¬ lg_cmp (lN h) (lN h) < 0 from by rw [c_lt]; exact Int64.lt_irrefl)]
    exact mid h h 1 hh.1 (Nat.le_refl _) (by omega) (Or.inl rfl) hdh.symm
  · have hr1 : 1 ≤ r := by simpa [may] using y5
    rw [if_neg (show ¬ lg_cmp (gJ c 314 129) (-1) = 0 by rw [b5]; exact npr _ (by omega)), if_neg (show ¬ gA m 170 278 = -1 by rw [a5]; exact nga _ q5), b5, z5, f_minl, bd_eq]
    unfold f_X12_directory_309
    rw [nI_l (by omega)]
    by_cases zz : r < h
    · have elt : lg_cmp (lN r) (lN h) < 0 := by rw [c_lt]; exact (pk_lLT (by omega) (by omega)).mpr zz
      rw [if_neg (show ¬ lN h < lN r from fun y => by have := (pk_lLT (by omega) (by omega)).mp y; omega), if_pos elt, gd_eq (fun y => by have := (lN3 (k := 0) (by omega) (by omega)).mp y; omega), lN_add, show lN (h + r) - 1 = lN (h + r - 1) from lN_sub (b := 1) (by omega), pk_lDiv (by omega) (by omega) (by omega), lN_i, lb_eq]
      exact mid r r ((h + r - 1) / r) hr1 (by omega) (by omega) (Or.inl rfl) rfl
    · have elt : ¬ lg_cmp (lN r) (lN h) < 0 := by rw [c_lt, pk_lLT (by omega) (by omega)]; exact zz
      rw [if_neg elt]
      have em : (if lN h < lN r then lN h else lN r) = lN h := by
        by_cases y : h < r
        · rw [if_pos ((pk_lLT (by omega) (by omega)).mpr y)]
        · have : h = r := by omega
          subst this
          rw [if_neg Int64.lt_irrefl]
      rw [em]
      exact mid h r 1 hh.1 (Nat.le_refl _) (by omega) (Or.inr ⟨rfl, by omega⟩) hdh.symm
end DND
