/-! A picture file, on both sides: what print sees of it. -/
def cFlF (f i : Nat) : Bool := cRdrF f i || (i == 129 && (f == 301 || f == 302 || f == 303 || f == 306))
def mFlF (f i : Nat) : Bool := mRdrF f i || (i == 133 && (f == 1267 || f == 1268 || f == 1269))
def FlQ (c m : Mm) (sz : Nat) : Unit → Mm → Int32 → Mm → Prop := fun _ c' _ m' => Fr cFlF cRdrA c c' ∧ Fr mFlF mRdrA m m' ∧ ((gI c' 304 129 = 0 ∧ gI c' 305 129 = -1 ∧ gI m' 1243 133 = gI m 1243 133 ∧ gI m' 1245 133 = gI m 1245 133 ∧ Sh c' m') ∨ (gI c' 304 129 = 1 ∧ gI c' 305 129 = -1 ∧ gI c' 603 5 = 1 ∧ gI m' 1233 133 = 1 ∧ gI m' 1243 133 = gI m 1243 133 ∧ gI m' 1245 133 = gI m 1245 133) ∨ ∃ e p, (e = 2 ∨ e = 3 ∨ e = 4 ∨ e = 5) ∧ gI c' 304 129 = nI e ∧ gI c' 305 129 = nI p ∧ gI m' 1243 133 = nI e ∧ gI m' 1245 133 = nI p ∧ p ≤ sz ∧ gI m' 1233 133 = 0)
theorem P2_file {c m : Mm} {i st sz : Nat} (hi : i < 6) (g1 : gA m 153 i = nI st) (g2 : gA m 153 (i + 1) = nI (st + sz)) (hsz : st + sz ≤ 12000) (hj : ∀ j, j < 12000 → gA c 2 j = gA m 152 j) (hb : ∀ j, byt (gA m 152 j)) (rt : RunT c) (tb : Tab m) (sh : Sh c m) : P2 (f_X3_read 2 (nI st) (nI (st + sz)) c) (f_X12_pictures (nI i) m) (FlQ c m sz) := by
  obtain ⟨F, F1, F2, F3⟩ := pic_F (gA m 152) st sz
  have h33 : gI m 1233 133 = 0 := by
    obtain ⟨s, p, hW, _⟩ := sh
    exact hW.2.2.2.2.2.1
  unfold f_X3_read f_X12_pictures
  rw [ix_in (j := i) (nI_pos (by omega)) (nI_clamp (by omega)) (by omega), g1, lb_eq, lb_eq, lb_eq, lb_eq, lb_eq, lb_eq, lb_eq, nI_1, ix_in (j := i + 1) (nI_pos (by omega)) (nI_clamp (by omega)) (by omega), show gA (uI m 1267 133 (nI st)) 153 (i + 1) = nI (st + sz) from g2, show gI (uI m 1267 133 (nI st)) 1267 133 = nI st from by rw [gI_uI, if_pos ⟨rfl, rfl⟩], pk_sub (by omega), show st + sz - st = sz by omega, lb_eq]
  -- the states the file begins with
  have a1 : gI (uI (uI (uI (uI (uI (uR c 301 129 (some 2)) 302 129 (nI st)) 303 129 (nI sz)) 304 129 0) 305 129 (-1)) 308 129 0) 308 129 = nI 0 := by rw [gI_uI, if_pos ⟨rfl, rfl⟩]; rfl
  have a2 : gI (uI (uI (uI (uI (uI (uR c 301 129 (some 2)) 302 129 (nI st)) 303 129 (nI sz)) 304 129 0) 305 129 (-1)) 308 129 0) 305 129 = -1 := by rw [gI_uI, if_neg (by decide), gI_uI, if_pos ⟨rfl, rfl⟩]
  have a3 : gI (uI (uI (uI (uI (uI (uR c 301 129 (some 2)) 302 129 (nI st)) 303 129 (nI sz)) 304 129 0) 305 129 (-1)) 308 129 0) 304 129 = 0 := by rw [gI_uI, if_neg (by decide), gI_uI, if_neg (by decide), gI_uI, if_pos ⟨rfl, rfl⟩]
  have a4 : gI (uI (uI (uI (uI (uI (uR c 301 129 (some 2)) 302 129 (nI st)) 303 129 (nI sz)) 304 129 0) 305 129 (-1)) 308 129 0) 303 129 = nI sz := by rw [gI_uI, if_neg (by decide), gI_uI, if_neg (by decide), gI_uI, if_neg (by decide), gI_uI, if_pos ⟨rfl, rfl⟩]
  have a5 : gI (uI (uI (uI (uI (uI (uR c 301 129 (some 2)) 302 129 (nI st)) 303 129 (nI sz)) 304 129 0) 305 129 (-1)) 308 129 0) 302 129 = nI st := by rw [gI_uI, if_neg (by decide), gI_uI, if_neg (by decide), gI_uI, if_neg (by decide), gI_uI, if_neg (by decide), gI_uI, if_pos ⟨rfl, rfl⟩]
  have a6 : gR (uI (uI (uI (uI (uI (uR c 301 129 (some 2)) 302 129 (nI st)) 303 129 (nI sz)) 304 129 0) 305 129 (-1)) 308 129 0) 301 129 = some 2 := by
    show gR (uR c 301 129 (some 2)) 301 129 = some 2
    rw [gR_uR, if_pos ⟨rfl, rfl⟩]
  have a7 : Fr (fun f i => i == 129 && (f == 301 || f == 302 || f == 303 || f == 304 || f == 305 || f == 308)) (fun _ => false) c (uI (uI (uI (uI (uI (uR c 301 129 (some 2)) 302 129 (nI st)) 303 129 (nI sz)) 304 129 0) 305 129 (-1)) 308 129 0) := (((((Fr.refl.uR _ (by rfl)).uI _ (by rfl)).uI _ (by rfl)).uI _ (by rfl)).uI _ (by rfl)).uI _ (by rfl)
  generalize uI (uI (uI (uI (uI (uR c 301 129 (some 2)) 302 129 (nI st)) 303 129 (nI sz)) 304 129 0) 305 129 (-1)) 308 129 0 = c1 at a1 a2 a3 a4 a5 a6 a7
  have d1 : gI (uI (uI m 1267 133 (nI st)) 1268 133 (nI sz)) 1267 133 = nI st := by rw [gI_uI, if_neg (by decide), gI_uI, if_pos ⟨rfl, rfl⟩]
  have d2 : gI (uI (uI m 1267 133 (nI st)) 1268 133 (nI sz)) 1268 133 = nI sz := by rw [gI_uI, if_pos ⟨rfl, rfl⟩]
  have d3 : Fr (fun f i => i == 133 && (f == 1267 || f == 1268)) (fun _ => false) m (uI (uI m 1267 133 (nI st)) 1268 133 (nI sz)) := (Fr.refl.uI _ (by rfl)).uI _ (by rfl)
  generalize uI (uI m 1267 133 (nI st)) 1268 133 (nI sz) = m1 at d1 d2 d3
  have pc : PicC c1 st sz F := ⟨a6, a5, a4, hsz, fun j hjz => by rw [a7.a rfl, hj _ (by omega)]; exact F1 j hjz, F2, F3⟩
  have pm : PicM m1 st sz F := ⟨d1, d2, hsz, fun j hjz => by rw [d3.a rfl]; exact F1 j hjz, F2⟩
  have fc1 : Fr cFlF cRdrA c c1 := a7.weak (fun f i e => by unfold cFlF cRdrF cDrF at e; revert e; simp; omega) (fun _ _ => rfl)
  have fm1 : Fr mFlF mRdrA m m1 := d3.weak (fun f i e => by unfold mFlF at e; revert e; simp; omega) (fun _ _ => rfl)
  obtain ⟨q1, q2⟩ := m_header pm (fun j => by rw [d3.a rfl]; exact hb j)
  rcases c_header pc a3 with ⟨e1, e2⟩ | ⟨p, p1, p2, p3, p4, e1⟩
  · have h7 := (e2 7 (by omega)).1
    have b0 : nm F (decide (F 0 = 73)) 4 4 < 2 ^ 32 := nm_lt F2 (by omega)
    have fc2 : Fr cFlF cRdrA c (uI c1 306 129 (cI (decide (F 0 = 73)))) := fc1.uI _ (by rfl)
    have pc2 : PicC (uI c1 306 129 (cI (decide (F 0 = 73)))) st sz F := pc.fr (Fr.refl.uI (PF := fun f i => i == 129 && f == 306) (PA := fun _ => false) _ (by rfl)) rfl rfl rfl rfl
    have hl2 : gI (uI c1 306 129 (cI (decide (F 0 = 73)))) 306 129 = cI (decide (F 0 = 73)) := by rw [gI_uI, if_pos ⟨rfl, rfl⟩]
    have f04 : gI (uI c1 306 129 (cI (decide (F 0 = 73)))) 304 129 = 0 := by rw [gI_uI, if_neg (by decide)]; exact a3
    have nmf : Fr (fun f i => i == 133 && (f == 1267 || f == 1268 || f == 1269 || f == 1271)) (fun _ => false) m (uI (uI m1 1269 133 (cI (!decide (F 0 = 73)))) 1271 133 0) := ((d3.weak (fun f i e => by revert e; simp; omega) (fun _ _ => rfl)).uI _ (by rfl)).uI _ (by rfl)
    have pm2 : PicM (uI m1 1269 133 (cI (!decide (F 0 = 73)))) st sz F := pm.fr (Fr.refl.uI (PF := fun f i => i == 133 && f == 1269) (PA := fun _ => false) _ (by rfl)) rfl rfl rfl
    have hlm2 : gI (uI m1 1269 133 (cI (!decide (F 0 = 73)))) 1269 133 = cI (!decide (F 0 = 73)) := by rw [gI_uI, if_pos ⟨rfl, rfl⟩]
    have fm2 : Fr mFlF mRdrA m (uI (uI m1 1269 133 (cI (!decide (F 0 = 73)))) 1271 133 0) := (fm1.uI _ (by rfl)).uI _ (by rfl)
    have ncf : Fr (fun _ i => i == 129) (fun _ => false) c (uI c1 306 129 (cI (decide (F 0 = 73)))) := (a7.weak (fun f i e => by rw [show (i == 129) = false from e]; rfl) (fun _ _ => rfl)).uI _ (by rfl)
    obtain ⟨p, hp1, hp2⟩ : ∃ p, gI c 602 5 = nI p ∧ p ≤ 12 := by
      obtain ⟨s, p, _, z1, _, z3, _⟩ := sh
      exact ⟨p, z1, z3⟩
    have sh2 := sh.fr hp1 hp2 ncf nmf (fun _ => rfl) ⟨rfl, rfl, rfl, fun _ _ => rfl⟩ ⟨rfl, rfl, rfl, rfl⟩ ⟨rfl, rfl, rfl, rfl⟩
    rw [e1, bd_eq, if_pos f04, show (4 : Int64) = lN 4 from rfl, show (4 : Int32) = nI 4 from rfl, pic_num pc2 hl2 (by omega) (by omega), bd_eq, q1 e2]
    unfold mRest
    rw [show (4 : Int32) = nI 4 from rfl, picm_num pm2 hlm2 (by omega) (by omega), bd_eq, lb_eq]
    refine P2_el (bd_pure _).symm ?_
    have x1 : gI (uI c1 306 129 (cI (decide (F 0 = 73)))) 305 129 = -1 := by rw [gI_uI, if_neg (by decide)]; exact a2
    have y1 : gI (uI (uI m1 1269 133 (cI (!decide (F 0 = 73)))) 1271 133 0) 1243 133 = gI m 1243 133 := nmf.i rfl
    have y2 : gI (uI (uI m1 1269 133 (cI (!decide (F 0 = 73)))) 1271 133 0) 1245 133 = gI m 1245 133 := nmf.i rfl
    have wc : ∀ f i, cFlF f i = false → cRdrF f i = false := fun f i e => by unfold cFlF at e; revert e; simp <;> (intros; assumption)
    have wm : ∀ f i, mFlF f i = false → mRdrF f i = false := fun f i e => by unfold mFlF at e; revert e; simp <;> (intros; assumption)
    refine P2_rdloop (K := fun v T => some (v, T)) (lo := decide (F 0 = 73)) (st := st) (sz := sz) (F := F) (c0 := uI c1 306 129 (cI (decide (F 0 = 73)))) (m0 := uI (uI m1 1269 133 (cI (!decide (F 0 = 73)))) 1271 133 0) pc2 (pm.fr (((Fr.refl.uI (PF := fun f i => i == 133 && (f == 1269 || f == 1271)) (PA := fun _ => false) _ (by rfl)).uI _ (by rfl))) rfl rfl rfl) hl2 (by rw [gI_uI, if_neg (by decide)]; exact hlm2) (rt.fr fc2 rfl) (tb.fr fm2 rfl rfl) (fun c' m' h1 h2 h3 h4 k3 => P2_ret ⟨fc2.trans (h1.weak wc (fun _ e => e)), fm2.trans (h2.weak wm (fun _ e => e)), Or.inl ⟨h3, k3.1.trans x1, k3.2.1.trans y1, k3.2.2.trans y2, h4⟩⟩) (fun c' m' h1 h2 h3 h4 h5 k3 => P2_ret ⟨fc2.trans (h1.weak wc (fun _ e => e)), fm2.trans (h2.weak wm (fun _ e => e)), Or.inr (Or.inl ⟨h3, k3.1.trans x1, h4, h5, k3.2.1.trans y1, k3.2.2.trans y2⟩)⟩) (fun c' m' e p h1 h2 h3 h4 h5 h6 h7 h8 h9 => P2_ret ⟨fc2.trans (h1.weak wc (fun _ e => e)), fm2.trans (h2.weak wm (fun _ e => e)), Or.inr (Or.inr ⟨e, p, Or.inr h3, h4, h5, h6, h7, h8, h9⟩)⟩) FU 0 (nm F (decide (F 0 = 73)) 4 4) (fun _ => 0) _ _ (FU_gt (by omega)) (by omega) b0 Fr.refl Fr.refl f04 sh2 ⟨rfl, rfl, rfl⟩ ⟨by rw [gI_uI, if_neg (by decide)]; exact a1, by rw [gI_uI, if_pos ⟨rfl, rfl⟩]; rfl, by omega, fun j hj => by omega⟩
  · obtain ⟨m2, e2, e3⟩ := q2 p p1 p2 p3 p4
    have hne : ¬ gI (uI (uI (uI c1 306 129 (cI (decide (F 0 = 73)))) 304 129 2) 305 129 (nI p)) 304 129 = 0 := by rw [gI_uI, if_neg (by decide), gI_uI, if_pos ⟨rfl, rfl⟩]; decide
    have fm2 : Fr mFlF mRdrA m m2 := by
      rcases e3 with rfl | ⟨v, rfl⟩
      · exact fm1
      · exact fm1.uI v (by rfl)
    have h33' : gI m2 1233 133 = 0 := by
      rcases e3 with rfl | ⟨v, rfl⟩
      · rw [d3.i rfl]; exact h33
      · rw [gI_uI, if_neg (by decide), d3.i rfl]; exact h33
    rw [e1, bd_eq, if_neg hne, show (0 : Int32) = nI 0 from rfl, show FU = 3999999999 + 1 from rfl]
    refine P2_el (a' := some ((), uI (uI (uI c1 306 129 (cI (decide (F 0 = 73)))) 304 129 2) 305 129 (nI p))) ?_ ?_
    · show f_X3_read_b60 (f_X3_read_l60 3999999999) 0 (nI 0) _ = _
      unfold f_X3_read_b60
      rw [if_neg (by decide), if_pos (by decide)]
    · rw [show (3999999999 + 1) = FU from rfl, show nI 0 = (0 : Int32) from rfl, e2]
      refine P2_ret ⟨((fc1.uI _ (by rfl)).uI _ (by rfl)).uI _ (by rfl), (fm2.uI _ (by rfl)).uI _ (by rfl), Or.inr (Or.inr ⟨2, p, Or.inl rfl, ?_, ?_, ?_, ?_, p4, ?_⟩)⟩
      · rw [gI_uI, if_neg (by decide), gI_uI, if_pos ⟨rfl, rfl⟩]; rfl
      · rw [gI_uI, if_pos ⟨rfl, rfl⟩]
      · rw [gI_uI, if_neg (by decide), gI_uI, if_pos ⟨rfl, rfl⟩]; rfl
      · rw [gI_uI, if_pos ⟨rfl, rfl⟩]
      · rw [gI_uI, if_neg (by decide), gI_uI, if_neg (by decide)]; exact h33'
