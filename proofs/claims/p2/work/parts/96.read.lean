/-! A directory is read, on both sides. -/
def mInA (b : Nat) : Bool := b == 170 || b == 171
theorem m_init {a1 a2 : Int32} (m : Mm) : ∃ m', f_X12_directory a1 a2 m = f_X12_directory_l31 FU a1 a2 0 m' ∧ (∀ t, t < 400 → gA m' 170 t = -1 ∧ gB m' 171 t = 0) ∧ Fr (fun _ _ => false) mInA m m' := by
  have go : ∀ n i T, i ≤ 400 → 400 - i < n → Fr (fun _ _ => false) mInA m T → (∀ t, t < i → gA T 170 t = -1 ∧ gB T 171 t = 0) → ∃ m', f_X12_directory_l2 n a1 a2 (nI i) T = f_X12_directory_l31 FU a1 a2 0 m' ∧ (∀ t, t < 400 → gA m' 170 t = -1 ∧ gB m' 171 t = 0) ∧ Fr (fun _ _ => false) mInA m m' := by
    intro n
    induction n with
    | zero => intro i T _ h; omega
    | succ n ih =>
      intro i T hi hn f hb
      have ev : f_X12_directory_l2 (n + 1) a1 a2 (nI i) T = f_X12_directory_b2 (f_X12_directory_l2 n) a1 a2 (nI i) T := rfl
      rw [ev]
      unfold f_X12_directory_b2
      rcases Nat.lt_or_ge i 400 with hlt | hge
      · rw [if_neg (show ¬ (400 : Int32) ≤ nI i from nI_ge (b := 400) hlt (by omega)), ix_in (j := i) (nI_pos (by omega)) (nI_clamp (by omega)) (by omega), lb_eq, ix_in (j := i) (nI_pos (by omega)) (nI_clamp (by omega)) (by omega), lb_eq, nI_1]
        refine ih (i + 1) _ (by omega) (by omega) ((f.uA i _ (by rfl)).uB i _ (by rfl)) (fun t ht => ?_)
        constructor
        · show gA (uA T 170 i (-1)) 170 t = -1
          rw [gA_uA]
          by_cases z : t = i
          · rw [if_pos ⟨rfl, z⟩]
          · rw [if_neg (fun y => z y.2)]; exact (hb t (by omega)).1
        · rw [gB_uB]
          by_cases z : t = i
          · rw [if_pos ⟨rfl, z⟩]
          · rw [if_neg (fun y => z y.2)]; exact (hb t (by omega)).2
      · have : i = 400 := by omega
        subst this
        rw [if_pos (by decide)]
        exact ⟨T, rfl, hb, f⟩
  unfold f_X12_directory
  exact go FU 0 m (by omega) (FU_gt (by omega)) Fr.refl (fun t ht => by omega)
theorem s_J (c : Mm) (f0 : Nat) (v : Int64) : ∃ c1, uJ c f0 129 v = c1 ∧ (∀ f, gJ c1 f 129 = if f = f0 then v else gJ c f 129) ∧ gI c1 304 129 = gI c 304 129 ∧ gI c1 305 129 = gI c 305 129 ∧ (cEnF f0 129 = true → Fr cEnF (fun _ => false) c c1) := ⟨_, rfl, fun f => by rw [gJ_uJ]; simp, rfl, rfl, fun h => Fr.refl.uJ _ h⟩
theorem c_start (c : Mm) : ∃ c', f_X3_startEntries c = some ((), c') ∧ Fr cEnF (fun _ => false) c c' ∧ gI c' 304 129 = gI c 304 129 ∧ gI c' 305 129 = gI c 305 129 ∧ ∀ f, gJ c' f 129 = if f = 316 then -1 else if f = 315 then -1 else if f = 314 then -1 else if f = 313 then 1 else if f = 312 then -1 else if f = 311 then -1 else if f = 310 then -1 else if f = 309 then -1 else gJ c f 129 := by
  unfold f_X3_startEntries
  obtain ⟨c1, e1, g1, h1, j1, k1⟩ := s_J c 309 (-1)
  rw [e1, lb_eq]
  obtain ⟨c2, e2, g2, h2, j2, k2⟩ := s_J c1 310 (-1)
  rw [e2, lb_eq]
  obtain ⟨c3, e3, g3, h3, j3, k3⟩ := s_J c2 311 (-1)
  rw [e3, lb_eq]
  obtain ⟨c4, e4, g4, h4, j4, k4⟩ := s_J c3 312 (-1)
  rw [e4, lb_eq]
  obtain ⟨c5, e5, g5, h5, j5, k5⟩ := s_J c4 313 1
  rw [e5, lb_eq]
  obtain ⟨c6, e6, g6, h6, j6, k6⟩ := s_J c5 314 (-1)
  rw [e6, lb_eq]
  obtain ⟨c7, e7, g7, h7, j7, k7⟩ := s_J c6 315 (-1)
  rw [e7, lb_eq]
  obtain ⟨c8, e8, g8, h8, j8, k8⟩ := s_J c7 316 (-1)
  rw [e8, lb_eq]
  refine ⟨c8, rfl, (((((((k1 rfl).trans (k2 rfl)).trans (k3 rfl)).trans (k4 rfl)).trans (k5 rfl)).trans (k6 rfl)).trans (k7 rfl)).trans (k8 rfl), by rw [h8, h7, h6, h5, h4, h3, h2, h1], by rw [j8, j7, j6, j5, j4, j3, j2, j1], fun f => ?_⟩
  rw [g8, g7, g6, g5, g4, g3, g2, g1]
theorem bd_pure {α : Type} (a : Option (α × Mm)) : bd a (fun v T => some (v, T)) = a := by cases a <;> rfl
def cRdrF (f i : Nat) : Bool := cDrF f i || (i == 129 && f == 308)
def cRdrA (b : Nat) : Bool := cDrA b || b == 130
def mRdrF (f i : Nat) : Bool := mDrF f i || (i == 133 && f == 1271)
def mRdrA (b : Nat) : Bool := mDrA b || b == 169
theorem c_101f {c : Mm} {st sz nx : Nat} {q : Int64} {F : Nat → Nat} {lo : Bool} (pc : PicC c st sz F) (hl : gI c 306 129 = cI lo) (hf : ¬ gI c 304 129 = 0) (hnx : nx < 2 ^ 40) : f_X3_readDirectory_101 q (lN nx) c = some (lN (nm F lo nx 4), c) := by
  have e72 : f_X3_checkEntries_72 c = some ((), c) := by unfold f_X3_checkEntries_72; rw [if_neg hf]
  have ec : f_X3_checkEntries q c = some ((), c) := by
    unfold f_X3_checkEntries
    rw [f_failed hf, bd_eq, e72]
    repeat' split
    all_goals rfl
  unfold f_X3_readDirectory_101
  rw [ec, bd_eq, if_neg hf]
  unfold f_X3_readDirectory_117 f_X3_readDirectory_141
  rw [if_neg hf, if_neg hf, show (4 : Int32) = nI 4 from rfl, pic_num pc hl (by omega) (by omega), bd_eq]
section RDR
variable {β : Type} {Q : β → Mm → Int32 → Mm → Prop} {K : Int64 → Mm → Option (β × Mm)} {st sz p k a : Nat} {F : Nat → Nat} {lo : Bool} {d : Nat → Nat} {c m : Mm} {k259 : Int64 → Mm → Option (Int32 × Mm)}
theorem P2_readDir (pc : PicC c st sz F) (pm : PicM m st sz F) (hl : gI c 306 129 = cI lo) (hlm : gI m 1269 133 = cI (!lo)) (rt : RunT c) (tb : Tab m) (sh : Sh c m) (hp : gI c 602 5 = nI p) (hp12 : p ≤ 12) (f0 : gI c 304 129 = 0) (S : SE c m sz k d) (ha0 : a ≠ 0) (ha : a < 2 ^ 32)
    (good : ∀ c' m', Fr cRdrF cRdrA c c' → Fr mRdrF mRdrA m m' → gI c' 304 129 = 0 → Sh c' m' → (∀ j, j < 64000 → gA m' 157 j = 0) → K3 c m c' m' → k < 12 → SE c' m' sz (k + 1) (fun j => if j = k then a else d j) → P2 (K (lN (nm F lo (a + 2 + 12 * nm F lo a 2) 4)) c') (k259 (lN (nm F lo (a + 2 + 12 * nm F lo a 2) 4)) m') Q)
    (much : ∀ c' m' v, Fr cRdrF cRdrA c c' → Fr mRdrF mRdrA m m' → gI c' 304 129 = 1 → gI c' 603 5 = 1 → gI m' 1233 133 = 1 → K3 c m c' m' → P2 (K v c') (some (0, m')) Q)
    (bad : ∀ c' m' v e p, Fr cRdrF cRdrA c c' → Fr mRdrF mRdrA m m' → (e = 3 ∨ e = 4 ∨ e = 5) → gI c' 304 129 = nI e → gI c' 305 129 = nI p → gI m' 1243 133 = nI e → gI m' 1245 133 = nI p → p ≤ sz → gI m' 1233 133 = gI m 1233 133 → P2 (K v c') (some (0, m')) Q) :
    P2 (bd (f_X3_readDirectory (lN a) c) K) (f_X12_pictures_b259 k259 (lN a) m) Q := by
  have hF := pc.2.2.2.2.2.1
  have hsz := pc.2.2.2.1
  have b0 : nm F lo a 2 < 256 ^ 2 := nmr_lt hF 2
  obtain ⟨b, i1, i2⟩ := c_isDir pc hl S (show a < 2 ^ 40 by omega)
  obtain ⟨j1, j2⟩ := m_dir (k259 := k259) pm hlm S ha0 (show a < 2 ^ 40 by omega)
  unfold f_X3_readDirectory
  rw [show (2 : Int32) = nI 2 from rfl, pic_num pc hl (by omega) (by omega), bd_eq, lN_i, lb_eq, nI_l (by omega), show (12 : Int64) * lN (nm F lo a 2) = lN (12 * nm F lo a 2) from lN_mul 12 _, show lN a + 2 = lN (a + 2) from lN_add a 2, lN_add, lb_eq, i1, bd_eq]
  cases b with
  | false =>
    have hno : ¬ isDir F lo sz k d a := fun y => by have := i2.mpr y; cases this
    rw [if_pos (by decide), j2 hno, show (3 : Int32) = nI 3 from rfl, f_fail (sz := sz) f0 pc.2.2.1 (by omega) (by omega), bd_eq, bd_eq]
    exact bad _ _ 0 3 (if sz < a then sz else a) ((Fr.refl.uI _ (by rfl)).uI _ (by rfl)) ((Fr.refl.uI _ (by rfl)).uI _ (by rfl)) (Or.inl rfl) (by rw [gI_uI, if_neg (by decide), gI_uI, if_pos ⟨rfl, rfl⟩]) (by rw [gI_uI, if_pos ⟨rfl, rfl⟩]) (by rw [gI_uI, if_neg (by decide), gI_uI, if_pos ⟨rfl, rfl⟩]) (by rw [gI_uI, if_pos ⟨rfl, rfl⟩]) (by split <;> omega) (by rw [gI_uI, if_neg (by decide), gI_uI, if_neg (by decide)])
  | true =>
    have hd := i2.mp rfl
    have S0 := S
    obtain ⟨s1, s2, s3, s4⟩ := S
    have hk := hd.2.2.1
    have hfit := hd.2.2.2.1
    have h40 := hd.2.1
    rw [if_neg (by decide), j1 hd, s1, ix_in (j := k) (nI_pos (by omega)) (nI_clamp (by omega)) hk, lb_eq, show gI (uB c 130 k (lN a)) 308 129 = nI k from s1, nI_1, lb_eq]
    unfold f_X12_pictures_497
    rw [if_neg (show ¬ (1 : Int32) = 0 by decide), s2, ix_in (j := k) (nI_pos (by omega)) (nI_clamp (by omega)) hk, lb_eq, show gI (uA m 169 k (nI a)) 1271 133 = nI k from s2, nI_1, lb_eq]
    have fc1 : Fr cRdrF cRdrA c (uI (uB c 130 k (lN a)) 308 129 (nI (k + 1))) := (Fr.refl.uB _ _ (by rfl)).uI _ (by rfl)
    have fm1 : Fr mRdrF mRdrA m (uI (uA m 169 k (nI a)) 1271 133 (nI (k + 1))) := (Fr.refl.uA _ _ (by rfl)).uI _ (by rfl)
    have h304 : gI (uI (uB c 130 k (lN a)) 308 129 (nI (k + 1))) 304 129 = 0 := by rw [gI_uI, if_neg (by decide)]; exact f0
    have h305' : gI (uI (uB c 130 k (lN a)) 308 129 (nI (k + 1))) 305 129 = gI c 305 129 := by rw [gI_uI, if_neg (by decide)]; rfl
    have nc1 : Fr (fun _ i => i == 129) (fun b => b == 130) c (uI (uB c 130 k (lN a)) 308 129 (nI (k + 1))) := (Fr.refl.uB _ _ (by rfl)).uI _ (by rfl)
    have nm1 : Fr (fun f i => i == 133 && f == 1271) (fun b => mInA b || b == 169) m (uI (uA m 169 k (nI a)) 1271 133 (nI (k + 1))) := (Fr.refl.uA _ _ (by rfl)).uI _ (by rfl)
    have SE1 : SE (uI (uB c 130 k (lN a)) 308 129 (nI (k + 1))) (uI (uA m 169 k (nI a)) 1271 133 (nI (k + 1))) sz (k + 1) (fun j => if j = k then a else d j) := by
      refine ⟨by rw [gI_uI, if_pos ⟨rfl, rfl⟩], by rw [gI_uI, if_pos ⟨rfl, rfl⟩], by omega, fun j hj => ?_⟩
      show gB (uB c 130 k (lN a)) 130 j = lN (if j = k then a else d j) ∧ gA (uA m 169 k (nI a)) 169 j = nI (if j = k then a else d j) ∧ (if j = k then a else d j) ≤ sz
      by_cases z : j = k
      · refine ⟨?_, ?_, ?_⟩
        · rw [gB_uB, if_pos (show (130 : Nat) = 130 ∧ j = k from ⟨rfl, z⟩), if_pos z]
        · rw [gA_uA, if_pos (show (169 : Nat) = 169 ∧ j = k from ⟨rfl, z⟩), if_pos z]
        · rw [if_pos z]; omega
      · have h4 := s4 j (by omega)
        refine ⟨?_, ?_, ?_⟩
        · rw [gB_uB, if_neg (show ¬ ((130 : Nat) = 130 ∧ j = k) from fun y => z y.2), if_neg z]; exact h4.1
        · rw [gA_uA, if_neg (show ¬ ((169 : Nat) = 169 ∧ j = k) from fun y => z y.2), if_neg z]; exact h4.2.1
        · rw [if_neg z]; exact h4.2.2
    generalize uI (uB c 130 k (lN a)) 308 129 (nI (k + 1)) = c1 at fc1 SE1 nc1 h304 h305'
    generalize uI (uA m 169 k (nI a)) 1271 133 (nI (k + 1)) = m1 at fm1 SE1 nm1
    obtain ⟨c2, x1, x2, x3, x5, x4⟩ := c_start c1
    obtain ⟨m2, w1, w2, w3⟩ := m_init (a1 := nI a) (a2 := nI (nm F lo a 2)) m1
    rw [x1, bd_eq, w1]
    have wEn : ∀ f i, cRdrF f i = false → cEnF f i = false := fun f i e => by unfold cRdrF cDrF at e; unfold cEnF; revert e; simp; omega
    have wIn : ∀ b, mRdrA b = false → mInA b = false := fun b e => by unfold mRdrA mDrA at e; unfold mInA; revert e; simp; omega
    have fc2 : Fr cRdrF cRdrA c c2 := fc1.trans (x2.weak wEn (fun _ _ => rfl))
    have fm2 : Fr mRdrF mRdrA m m2 := fm1.trans (w3.weak (fun _ _ _ => rfl) wIn)
    have nc2 : Fr (fun _ i => i == 129) (fun b => b == 130) c c2 := nc1.trans (x2.weak (fun f i e => by unfold cEnF; rw [show (i == 129) = false from e]; rfl) (fun _ _ => rfl))
    have nm2 : Fr (fun f i => i == 133 && f == 1271) (fun b => mInA b || b == 169) m m2 := nm1.trans (w3.weak (fun _ _ _ => rfl) (fun b e => by revert e; simp <;> (intros; assumption)))
    have sh2 : Sh c2 m2 := sh.fr hp hp12 nc2 nm2 (fun _ => rfl) ⟨rfl, rfl, rfl, fun i hi => by simp; omega⟩ ⟨rfl, rfl, rfl, rfl⟩ ⟨rfl, rfl, rfl, rfl⟩
    have pc2 : PicC c2 st sz F := pc.fr fc2 rfl rfl rfl rfl
    have pm2 : PicM m2 st sz F := pm.fr fm2 rfl rfl rfl
    have hl2 : gI c2 306 129 = cI lo := by rw [fc2.i rfl]; exact hl
    have hlm2 : gI m2 1269 133 = cI (!lo) := by rw [fm2.i rfl]; exact hlm
    have h305 : gI c2 305 129 = gI c 305 129 := by rw [x5]; exact h305'
    have g2 : gI c2 304 129 = 0 := by rw [x3]; exact h304
    have E2 : DE c2 m2 sz := ⟨Or.inl ⟨(w2 256 (by omega)).1, x4 309⟩, Or.inl ⟨(w2 257 (by omega)).1, x4 310⟩, Or.inl ⟨(w2 259 (by omega)).1, x4 311⟩, Or.inl ⟨(w2 262 (by omega)).1, x4 312⟩, Or.inl ⟨(w2 278 (by omega)).1, x4 314⟩, Or.inl ⟨x4 313, (w2 266 (by omega)).2⟩, Or.inl ⟨(w2 273 (by omega)).1, x4 315⟩, Or.inl ⟨(w2 279 (by omega)).1, x4 316⟩⟩
    have wDc : ∀ f i, cRdrF f i = false → cDrF f i = false := fun f i e => by unfold cRdrF at e; revert e; simp <;> (intros; assumption)
    have wDa : ∀ b, cRdrA b = false → cDrA b = false := fun b e => by unfold cRdrA at e; revert e; simp <;> (intros; assumption)
    have wMf : ∀ f i, mRdrF f i = false → mDrF f i = false := fun f i e => by unfold mRdrF at e; revert e; simp <;> (intros; assumption)
    have wMa : ∀ b, mRdrA b = false → mDrA b = false := fun b e => by unfold mRdrA at e; revert e; simp <;> (intros; assumption)
    have SEk : ∀ c' m', Fr cDrF cDrA c2 c' → Fr mDrF mDrA m2 m' → SE c' m' sz (k + 1) (fun j => if j = k then a else d j) := fun c' m' f1 f2 => ⟨by rw [f1.i rfl, x2.i rfl]; exact SE1.1, by rw [f2.i rfl, w3.i rfl]; exact SE1.2.1, SE1.2.2.1, fun j hj => by rw [f1.b rfl, x2.b rfl, f2.a rfl, w3.a rfl]; exact SE1.2.2.2 j hj⟩
    rw [show FU = 3999999999 + 1 from rfl, show (0 : Int32) = nI 0 from rfl]
    refine P2_bd (R := fun v c' s m' => Fr cRdrF cRdrA c c' ∧ Fr mRdrF mRdrA m m' ∧ ((s = 1 ∧ v = lN (nm F lo (a + 2 + 12 * nm F lo a 2) 4) ∧ ∃ y, gI c' 603 5 = cI y ∧ gI m' 1233 133 = cI y ∧ (y = false → Sh c' m' ∧ gI c' 304 129 = 0) ∧ (y = true → gI c' 304 129 = 1) ∧ (∀ j, j < 64000 → gA m' 157 j = 0) ∧ K3 c m c' m' ∧ SE c' m' sz (k + 1) (fun j => if j = k then a else d j)) ∨ (s = 0 ∧ ∃ e pl, (e = 4 ∨ e = 5) ∧ gI c' 304 129 = nI e ∧ gI c' 305 129 = nI pl ∧ gI m' 1243 133 = nI e ∧ gI m' 1245 133 = nI pl ∧ pl ≤ sz ∧ gI m' 1233 133 = gI m 1233 133))) ?_ ?_
    · refine P2_el (bd_pure _).symm ?_
      refine P2_entries (K := fun v T => some (v, T)) (st := st) (sz := sz) (q := a) (nn := nm F lo a 2) (F := F) (lo := lo) (c0 := c2) (m0 := m2) pc2 pm2 hl2 hlm2 h40 (by omega) (fun c' m' k31 f1 f2 g g305 E => ?_) (fun c' m' pl f1 f2 g3 g4 g5 => ?_) 3999999999 0 c2 m2 (by omega) (by omega) Fr.refl Fr.refl g2 rfl E2
      · have fc' : Fr cRdrF cRdrA c c' := fc2.trans (f1.weak wEn (fun _ _ => rfl))
        have fm' : Fr mRdrF mRdrA m m' := fm2.trans (f2.weak (fun _ _ _ => rfl) (fun b e => wIn b e))
        have fcE : Fr cDrF cDrA c2 c' := f1.weak (fun f i e => by unfold cDrF at e; unfold cEnF; revert e; simp; omega) (fun _ _ => rfl)
        have fmE : Fr mDrF mDrA m2 m' := f2.weak (fun _ _ _ => rfl) (fun b e => by unfold mDrA at e; unfold mEnA; revert e; simp; omega)
        have sh' : Sh c' m' := sh2.fr (p := p) (by rw [nc2.i rfl]; exact hp) hp12 f1 f2 (fun _ => by unfold cEnF; simp) ⟨rfl, rfl, rfl, fun _ _ => rfl⟩ ⟨rfl, rfl, rfl, rfl⟩ ⟨rfl, rfl, rfl, rfl⟩
        refine P2_dend (K := fun v T => some (v, T)) (p := p) (st := st) (sz := sz) (F := F) (lo := lo) (pc.fr fc' rfl rfl rfl rfl) (pm.fr fm' rfl rfl rfl) (by rw [fc'.i rfl]; exact hl) (by rw [fm'.i rfl]; exact hlm) (rt.fr fc' rfl) (tb.fr fm' rfl rfl) sh' (by rw [f1.i rfl, nc2.i rfl]; exact hp) hp12 g E (by omega) h40 (by omega) (fun c4 m4 y h1 h2 h3 h4 h5 h6 h7 k3 => P2_ret ⟨fc'.trans (h1.weak wDc wDa), fm'.trans (h2.weak wMf wMa), Or.inl ⟨rfl, rfl, y, h3, h4, h5, h6, h7, ⟨k3.1.trans (g305.trans h305), k3.2.1.trans ((f2.i rfl).trans (nm2.i rfl)), k3.2.2.trans ((f2.i rfl).trans (nm2.i rfl))⟩, SEk _ _ (fcE.trans h1) (fmE.trans h2)⟩⟩) (fun c4 m4 e pl h1 h2 h3 h4 h5 h6 h7 h8 h9 => P2_ret ⟨fc'.trans (h1.weak wDc wDa), fm'.trans (h2.weak wMf wMa), Or.inr ⟨rfl, e, pl, h3, h4, h5, h6, h7, h8, h9.trans ((f2.i rfl).trans (nm2.i rfl))⟩⟩)
      · have fc' : Fr cRdrF cRdrA c c' := fc2.trans (f1.weak wEn (fun _ _ => rfl))
        have fm' : Fr mRdrF mRdrA m m' := fm2.trans (f2.weak (fun _ _ _ => rfl) (fun b e => wIn b e))
        rw [c_101f (pc.fr fc' rfl rfl rfl rfl) (by rw [fc'.i rfl]; exact hl) (by rw [g3]; decide) (by omega), bd_eq]
        exact P2_ret ⟨fc', (fm'.uI _ (by rfl)).uI _ (by rfl), Or.inr ⟨rfl, 4, pl, Or.inl rfl, g3, g4, by rw [gI_uI, if_neg (by decide), gI_uI, if_pos ⟨rfl, rfl⟩]; rfl, by rw [gI_uI, if_pos ⟨rfl, rfl⟩], g5, by rw [gI_uI, if_neg (by decide), gI_uI, if_neg (by decide), f2.i rfl, nm2.i rfl]⟩⟩
    · rintro v c4 s m4 ⟨f1, f2, ⟨rfl, rfl, y, r1, r2, r3, r4, r5, r7, r6⟩ | ⟨rfl, e, pl, r1, r2, r3, r4, r5, r6, r8⟩⟩
      · rw [if_neg (show ¬ (1 : Int32) = nI 0 by decide), r2]
        cases y with
        | false =>
          rw [if_pos (show cI false = nI 0 from rfl), show (12 : Int32) * nI (nm F lo a 2) = nI (12 * nm F lo a 2) from pk_mul 12 _, show nI a + 2 = nI (a + 2) from nI_add a 2, nI_add, show (4 : Int32) = nI 4 from rfl, picm_num (pm.fr f2 rfl rfl rfl) (by rw [f2.i rfl]; exact hlm) (by omega) (by omega), bd_eq]
          exact good c4 m4 f1 f2 (r3 rfl).2 (r3 rfl).1 r5 r7 hk r6
        | true =>
          rw [if_neg (show ¬ cI true = nI 0 by decide)]
          exact much c4 m4 _ f1 f2 (r4 rfl) r1 r2 r7
      · rw [if_pos (show (0 : Int32) = nI 0 from rfl)]
        exact bad c4 m4 v e pl f1 f2 (Or.inr r1) r2 r3 r4 r5 r6 r8
end RDR
