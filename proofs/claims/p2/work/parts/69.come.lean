/-! A page comes, on both sides. -/
def mShF (f i : Nat) : Bool := i == 133 && (f == 1242 || f == 1233 || f == 1264 || f == 1265 || f == 1261 || f == 1262 || f == 1263 || f == 1260 || f == 1266 || f == 1240)
def mShA (a : Nat) : Bool := a == 161 || a == 167 || a == 168 || a == 158 || a == 159 || a == 160
/-- page i of both sides -/
def Pg (c m : Mm) (i : Nat) : Prop := ∃ w h, 1 ≤ w ∧ w ≤ 640 ∧ 1 ≤ h ∧ h ≤ 800 ∧ gA c 7 i = nI w ∧ gA c 8 i = nI h ∧ gA m 159 i = nI w ∧ gA m 160 i = nI h ∧ (∀ y, y < h → ∀ x, x < w → bt (gA m 158 (i * 64000 + 80 * y + x / 8)) (7 - x % 8) = dotW (gA c (10 + i)) (20 * y) x) ∧ (∀ y, y < h → ∀ x, w ≤ x → x < 640 → dotW (gA c (10 + i)) (20 * y) x = false)
/-- the pages that came, and OUT, on both sides -/
def Sh (c m : Mm) : Prop := ∃ s p, WR 0 s false c m ∧ gI c 602 5 = nI p ∧ gI m 1240 133 = nI p ∧ p ≤ 12 ∧ (∀ i, i < p → Pg c m i) ∧ (0 < p → ∃ l, gI c 607 5 = nI l ∧ gI m 1266 133 = nI l ∧ l + 4 ≤ s) ∧ (p = 0 → s = 0)
theorem P2_wp {α β : Type} {a : Option (α × Mm)} {b : Option (β × Mm)} {Q : α → Mm → β → Mm → Prop} (h : P2 a b Q) : wp a (fun r c => ∃ r' m, Q r c r' m) := by
  obtain ⟨r, c, r', m, e1, e2, hq⟩ := h; exact ⟨r, c, e1, r', m, hq⟩
theorem wp_P2 {α β : Type} {a : Option (α × Mm)} {r' : β} {m : Mm} {Q : α → Mm → β → Mm → Prop} (h : wp a (fun r c => Q r c r' m)) : P2 a (some (r', m)) Q := by
  obtain ⟨r, c, e1, hq⟩ := h; exact ⟨r, c, r', m, e1, rfl, hq⟩
theorem bits0 (m : Mm) : f_X12_bits (nI 0) (nI 0) m = some ((), m) := by
  unfold f_X12_bits
  rw [lb_eq]
  show f_X12_bits_b4 (f_X12_bits_l4 3999999999) _ _ _ = _
  unfold f_X12_bits_b4
  rw [if_pos (by decide)]
theorem sbyte {s k : Nat} (hk : k < 4) : ((nI s).toUInt32 >>> (((8 : Int32) * nI k).toUInt32 &&& Int32.toUInt32 31)).toInt32.toInt8 = ((nI s) >>> (((8 : Int32) * nI k) &&& 31)).toInt8 := by
  rw [ushr_i 0 hk]
  refine i8_eq fun i hi => ?_
  rw [b_ushr _ (by omega), b_sshr _ (by omega) _ (by omega), if_pos (by omega)]
/-- the link's four bytes -/
theorem P2_link {z : Nat} {l s : Nat} {p : Nat} {strip len : Int32} (hl : l + 4 ≤ s) {α : Type} {K : Unit → Mm → Option (α × Mm)} {Q : α → Mm → Unit → Mm → Prop} : ∀ (i n n' : Nat) (c m : Mm), i ≤ 4 → WR z s false c m → gI m 1266 133 = nI l → (∀ c' m' kk, WR z s false c' m' → Fr (fun _ _ => false) cOutA c c' → Fr (fun _ _ => false) mOutA m m' → P2 (K () c') (f_X12_written_b272 kk (nI p) strip len (nI s) (nI 4) m') Q) → P2 (bd (f_X6_setNumber_l2 (n + i + 1) (nI l) (nI s) (nI (4 - i)) c) K) (f_X12_written_l272 (n' + i + 1) (nI p) strip len (nI s) (nI (4 - i)) m) Q := by
  intro i
  induction i with
  | zero =>
    intro n n' c m _ h e hk
    have e1 : f_X6_setNumber_l2 (n + 0 + 1) (nI l) (nI s) (nI (4 - 0)) c = some ((), c) := by
      show f_X6_setNumber_b2 (f_X6_setNumber_l2 n) _ _ _ _ = _
      unfold f_X6_setNumber_b2
      rw [if_pos (by decide)]
    rw [e1, bd_eq]
    exact hk c m _ h Fr.refl Fr.refl
  | succ i ih =>
    intro n n' c m hi h e hk
    obtain ⟨h1, h2, h3, h4, h5, h6⟩ := h
    have e1 : f_X6_setNumber_l2 (n + (i + 1) + 1) (nI l) (nI s) (nI (4 - (i + 1))) c = f_X6_setNumber_l2 (n + i + 1) (nI l) (nI s) (nI (4 - i)) (uA c 6 (l + (4 - (i + 1))) (((nI s).toUInt32 >>> (((8 : Int32) * nI (4 - (i + 1))).toUInt32 &&& Int32.toUInt32 31)).toInt32.toInt8.toInt32.toInt8.toInt32)) := by
      show f_X6_setNumber_b2 (f_X6_setNumber_l2 (n + i + 1)) _ _ _ _ = _
      unfold f_X6_setNumber_b2
      rw [show (4 : Int32) = nI 4 from rfl, if_neg (nI_ge (by omega) (by omega)), nI_add, if_neg (nI_pos (by omega)), h1, if_neg (nI_ge (by omega) (by omega)), show (60000 : Int32) = nI 60000 from rfl, if_neg (nI_ge (by omega) (by omega)), ix_in (j := l + (4 - (i + 1))) (nI_pos (by omega)) (nI_clamp (by omega)) (by omega), lb_eq, nI_1, show 4 - (i + 1) + 1 = 4 - i by omega]
    have e2 : f_X12_written_l272 (n' + (i + 1) + 1) (nI p) strip len (nI s) (nI (4 - (i + 1))) m = f_X12_written_l272 (n' + i + 1) (nI p) strip len (nI s) (nI (4 - i)) (uA m 161 (l + (4 - (i + 1))) (((nI s) >>> (((8 : Int32) * nI (4 - (i + 1))) &&& 31)).toInt8.toInt32.toInt8.toInt32)) := by
      show f_X12_written_b272 (f_X12_written_l272 (n' + i + 1)) _ _ _ _ _ _ = _
      unfold f_X12_written_b272
      rw [show (4 : Int32) = nI 4 from rfl, if_neg (nI_ge (by omega) (by omega)), e, nI_add, ix_in (j := l + (4 - (i + 1))) (nI_pos (by omega)) (nI_clamp (by omega)) (by omega), lb_eq, nI_1, show 4 - (i + 1) + 1 = 4 - i by omega]
    rw [e1, e2, sbyte (by omega)]
    refine ih n n' _ _ (by omega) ⟨h1, h2, h3, fun j hj => ?_, h5, h6⟩ e (fun c' m' kk g1 g2 g3 => hk c' m' kk g1 (Fr.trans (Fr.refl.uA _ _ rfl) g2) (Fr.trans (Fr.refl.uA _ _ rfl) g3))
    rw [gA_uA, gA_uA]
    by_cases q : j = l + (4 - (i + 1))
    · rw [if_pos ⟨rfl, q⟩, if_pos ⟨rfl, q⟩]
    · rw [if_neg (fun z => q z.2), if_neg (fun z => q z.2)]; exact h4 j hj
def cDirF (f i : Nat) : Bool := i == 5 && (f == 601 || f == 603 || f == 607)
def mDirF (f i : Nat) : Bool := i == 133 && (f == 1242 || f == 1233 || f == 1266)
theorem out_dir {c c' : Mm} (f : Fr cOutF cOutA c c') : Fr cDirF cOutA c c' := f.weak (fun f i e => by simp only [cDirF, cOutF] at *; simp_all) (fun _ e => e)
theorem out_dirm {c c' : Mm} (f : Fr mOutF mOutA c c') : Fr mDirF mOutA c c' := f.weak (fun f i e => by simp only [mDirF, mOutF] at *; simp_all) (fun _ e => e)
theorem bd_assoc {γ δ ε : Type} (a : Option (γ × Mm)) (f : γ → Mm → Option (δ × Mm)) (g : δ → Mm → Option (ε × Mm)) : bd (bd a f) g = bd a (fun u T => bd (f u T) g) := by cases a <;> rfl
/-- the DIRECTORY on both sides -/
theorem P2_dir {z : Nat} {w h p s st ln l : Nat} {c m : Mm} (hp : p < 12) (hw : w ≤ 640) (hh : h ≤ 800) (hst : st ≤ 60000) (hln : ln ≤ 60000) (hl : l + 4 ≤ s) (hW : WR z s false c m) (e1 : gI c 607 5 = nI l) (e2 : gI m 1266 133 = nI l) (e3 : gI m 1260 133 = nI w) (e4 : gA m 160 p = nI h) :
    P2 (f_X6_writeDirectory (nI w) (nI h) (nI st) (nI ln) c) (f_X12_written_l272 FU (nI p) (nI st) (nI ln) (nI s) 0 m) (fun _ c' _ m' => (∃ s' y', WR z s' y' c' m' ∧ ∃ l', gI c' 607 5 = nI l' ∧ gI m' 1266 133 = nI l' ∧ (y' = false → l' + 4 ≤ s')) ∧ Fr cDirF cOutA c c' ∧ Fr mDirF mOutA m m') := by
  have hs : s ≤ 60000 := hW.2.2.1
  unfold f_X6_writeDirectory
  rw [e1, hW.1]
  unfold f_X6_setNumber
  refine P2_link (i := 4) (n := 3999999995) (n' := 3999999995) hl c m (by omega) hW e2 ?_
  intro c1 m1 kk W1 f1 g1
  rw [lb_eq, W1.1]
  unfold f_X12_written_b272
  rw [if_pos (by decide)]
  have ev : nI s + 2 + 156 + 4 = nI (s + 162) := by
    rw [show nI s + 2 = nI (s + 2) from nI_add s 2, show nI (s + 2) + 156 = nI (s + 158) from nI_add (s + 2) 156]
    exact nI_add (s + 158) 4
  rw [ev]
  rw [show f_X6_putNumber 13 2 = f_X6_putNumber_l2 (3999999997 + 1 + 1 + 1) (nI 13) (nI 2) (nI 0) from rfl, show (13 : Int64) = lN 13 from rfl]
  refine P2_num2 (K := fun z => bd z _) (k := 0) (by omega) (by omega) (fun i hi => by simp) ⟨s, false, W1⟩ (by omega) (by omega) (fun a f => bd_assoc _ _ _) ?_
  intro c2 m2 h2 f2 g2
  rw [show 0 + 2 = 2 from rfl, num_end, bd_eq]
  have q260 : gI m2 1260 133 = nI w := (g2.i rfl).trans ((g1.i rfl).trans e3)
  rw [q260, show (256 : Int32) = nI 256 from rfl, show (4 : Int32) = nI 4 from rfl, show (257 : Int32) = nI 257 from rfl, show (258 : Int32) = nI 258 from rfl, show (3 : Int32) = nI 3 from rfl, show (259 : Int32) = nI 259 from rfl, show (262 : Int32) = nI 262 from rfl, show (273 : Int32) = nI 273 from rfl, show (277 : Int32) = nI 277 from rfl, show (278 : Int32) = nI 278 from rfl, show (279 : Int32) = nI 279 from rfl, show (282 : Int32) = nI 282 from rfl, show (283 : Int32) = nI 283 from rfl, show (293 : Int32) = nI 293 from rfl, show (296 : Int32) = nI 296 from rfl, show (5 : Int32) = nI 5 from rfl, show (2 : Int32) = nI 2 from rfl, show (1 : Int32) = nI 1 from rfl]
  have q160 : ∀ {m' : Mm}, Fr mDirF mOutA m m' → gA m' 160 p = nI h := fun f => by rw [f.a rfl]; exact e4
  have fc : Fr cDirF cOutA c c2 := Fr.trans (f1.weak (fun _ _ _ => rfl) (fun _ e => e)) (out_dir f2)
  have fm : Fr mDirF mOutA m m2 := Fr.trans (g1.weak (fun _ _ _ => rfl) (fun _ e => e)) (out_dirm g2)
  clear f1 g1 f2 g2
  refine P2_bd (P2_entry (by omega) (by omega) (by omega) (by decide) h2) ?_
  rintro _ c3 _ m3 ⟨h3, f, g⟩
  replace fc := fc.trans (out_dir f); replace fm := fm.trans (out_dirm g)
  rw [ix_in (j := p) (nI_pos (by omega)) (nI_clamp (by omega)) hp, q160 fm]
  refine P2_bd (P2_entry (by omega) (by omega) (by omega) (by decide) h3) ?_
  rintro _ c4 _ m4 ⟨h4, f, g⟩
  replace fc := fc.trans (out_dir f); replace fm := fm.trans (out_dirm g)
  refine P2_bd (P2_entry (by omega) (by omega) (by omega) (by decide) h4) ?_
  rintro _ c5 _ m5 ⟨h5, f, g⟩
  replace fc := fc.trans (out_dir f); replace fm := fm.trans (out_dirm g)
  refine P2_bd (P2_entry (by omega) (by omega) (by omega) (by decide) h5) ?_
  rintro _ c6 _ m6 ⟨h6, f, g⟩
  replace fc := fc.trans (out_dir f); replace fm := fm.trans (out_dirm g)
  refine P2_bd (P2_entry (v := 0) (by omega) (by omega) (by omega) (by decide) h6) ?_
  rintro _ c7 _ m7 ⟨h7, f, g⟩
  replace fc := fc.trans (out_dir f); replace fm := fm.trans (out_dirm g)
  refine P2_bd (P2_entry (by omega) (by omega) (by omega) (by decide) h7) ?_
  rintro _ c8 _ m8 ⟨h8, f, g⟩
  replace fc := fc.trans (out_dir f); replace fm := fm.trans (out_dirm g)
  refine P2_bd (P2_entry (by omega) (by omega) (by omega) (by decide) h8) ?_
  rintro _ c9 _ m9 ⟨h9, f, g⟩
  replace fc := fc.trans (out_dir f); replace fm := fm.trans (out_dirm g)
  rw [ix_in (j := p) (nI_pos (by omega)) (nI_clamp (by omega)) hp, q160 fm]
  refine P2_bd (P2_entry (by omega) (by omega) (by omega) (by decide) h9) ?_
  rintro _ c10 _ m10 ⟨h10, f, g⟩
  replace fc := fc.trans (out_dir f); replace fm := fm.trans (out_dirm g)
  refine P2_bd (P2_entry (by omega) (by omega) (by omega) (by decide) h10) ?_
  rintro _ c11 _ m11 ⟨h11, f, g⟩
  replace fc := fc.trans (out_dir f); replace fm := fm.trans (out_dirm g)
  refine P2_bd (P2_entry (by omega) (by omega) (by omega) (by decide) h11) ?_
  rintro _ c12 _ m12 ⟨h12, f, g⟩
  replace fc := fc.trans (out_dir f); replace fm := fm.trans (out_dirm g)
  refine P2_bd (P2_entry (by omega) (by omega) (by omega) (by decide) h12) ?_
  rintro _ c13 _ m13 ⟨h13, f, g⟩
  replace fc := fc.trans (out_dir f); replace fm := fm.trans (out_dirm g)
  refine P2_bd (P2_entry (v := 0) (by omega) (by omega) (by omega) (by decide) h13) ?_
  rintro _ c14 _ m14 ⟨h14, f, g⟩
  replace fc := fc.trans (out_dir f); replace fm := fm.trans (out_dirm g)
  refine P2_bd (P2_entry (by omega) (by omega) (by omega) (by decide) h14) ?_
  rintro _ c15 _ m15 ⟨⟨s', y', h15⟩, f, g⟩
  replace fc := fc.trans (out_dir f); replace fm := fm.trans (out_dirm g)
  rw [lb_eq, lb_eq, h15.1, h15.2.1]
  have W16 : WR z s' y' (uI c15 607 5 (nI s')) (uI m15 1266 133 (nI s')) := h15.fr (PF := fun f i => i == 5 && f == 607) (PA := fun _ => false) (QF := fun f i => i == 133 && f == 1266) (QA := fun _ => false) (Fr.refl.uI _ rfl) (Fr.refl.uI _ rfl) rfl rfl rfl rfl rfl rfl
  have k1 : gI (uI c15 607 5 (nI s')) 607 5 = nI s' := by rw [gI_uI, if_pos ⟨rfl, rfl⟩]
  have k2 : gI (uI m15 1266 133 (nI s')) 1266 133 = nI s' := by rw [gI_uI, if_pos ⟨rfl, rfl⟩]
  replace fc : Fr cDirF cOutA c (uI c15 607 5 (nI s')) := fc.trans (Fr.refl.uI _ rfl)
  replace fm : Fr mDirF mOutA m (uI m15 1266 133 (nI s')) := fm.trans (Fr.refl.uI _ rfl)
  refine P2_bd (P2_num4S (N := 0) (by omega) W16) ?_
  rintro _ c17 _ m17 ⟨⟨s2, y2, h17, hy2, _⟩, f, g⟩
  have k1' : gI c17 607 5 = nI s' := (f.i rfl).trans k1
  have k2' : gI m17 1266 133 = nI s' := (g.i rfl).trans k2
  replace fc := fc.trans (out_dir f); replace fm := fm.trans (out_dirm g)
  refine P2_bd (P2_num4S (N := 75) (by omega) h17) ?_
  rintro _ c18 _ m18 ⟨⟨s3, y3, h18, hy3, _⟩, f, g⟩
  replace k1' : gI c18 607 5 = nI s' := (f.i rfl).trans k1'
  replace k2' : gI m18 1266 133 = nI s' := (g.i rfl).trans k2'
  replace fc := fc.trans (out_dir f); replace fm := fm.trans (out_dirm g)
  refine P2_bd (P2_num4S (N := 1) (by omega) h18) ?_
  rintro _ c19 _ m19 ⟨⟨s4, y4, h19, hy4, _⟩, f, g⟩
  replace fc := fc.trans (out_dir f); replace fm := fm.trans (out_dirm g)
  refine P2_ret ⟨⟨s4, y4, h19, s', (f.i rfl).trans k1', (g.i rfl).trans k2', fun e => ?_⟩, fc, fm⟩
  have q1 := hy4 e
  have q2 := hy3 q1.1
  have q3 := hy2 q2.1
  omega
/-- what is left when a page came -/
def CQ (p : Nat) (c0 m0 : Mm) : Unit → Mm → Unit → Mm → Prop := fun _ c' _ m' => (∃ y, gI c' 603 5 = cI y ∧ gI m' 1233 133 = cI y ∧ gI c' 602 5 = nI (p + 1) ∧ (y = false → Sh c' m')) ∧ Fr cShF cShA c0 c' ∧ Fr mShF mShA m0 m'
theorem cS {PF : Nat → Nat → Bool} {c c' : Mm} (f : Fr PF cOutA c c') (h : ∀ f i, PF f i = true → i = 5) : Fr cShF cShA c c' := f.weak (fun g i e => by
    cases q : PF g i with
    | false => rfl
    | true => rw [h g i q] at e; exact absurd e (by simp [cShF])) (fun a e => by simp only [cShA, cOutA] at *; simp_all)
theorem P2_tail {w h p st l : Nat} {c0 m0 c m : Mm} (hp : p < 12) (hw1 : 1 ≤ w) (hw : w ≤ 640) (hh1 : 1 ≤ h) (hh : h ≤ 800) (hl : l + 4 ≤ st) (hX : WX st c m) (fc : Fr cShF cShA c0 c) (fm : Fr mShF mShA m0 m)
    (e0 : gI c 602 5 = nI p) (e00 : gI m 1240 133 = nI (p + 1)) (e1 : gI c 607 5 = nI l) (e2 : gI m 1266 133 = nI l) (e3 : gI m 1260 133 = nI w) (e4 : gA m 160 p = nI h) (e5 : gA m 159 p = nI w) (hpg : ∀ i, i < p → Pg c m i)
    (hpp : (∀ y, y < h → ∀ x, x < w → bt (gA m 158 (p * 64000 + 80 * y + x / 8)) (7 - x % 8) = dotW (gA c (10 + p)) (20 * y) x) ∧ (∀ y, y < h → ∀ x, w ≤ x → x < 640 → dotW (gA c (10 + p)) (20 * y) x = false)) :
    P2 (f_X6_come_102 (nI w) (nI h) (nI st) c) (f_X12_written_203 (nI p) (nI st) m) (CQ p c0 m0) := by
  unfold f_X6_come_102 f_X12_written_203
  refine P2_bd (P2_bits (q := 1) (n := 12) (by omega) (by decide) hX) ?_
  rintro _ c1 _ m1 ⟨h1, f1, g1⟩
  refine P2_bd (P2_bits (q := 1) (n := 12) (by omega) (by decide) h1) ?_
  rintro _ c2 _ m2 ⟨h2, f2, g2⟩
  replace f1 := f1.trans f2; replace g1 := g1.trans g2
  clear f2 g2 h1
  obtain ⟨hO, b, pv, hb, hpv, k1, k2, k3, k4⟩ := h2
  rw [k1, k2, show (8 : Int32) - nI b = nI (8 - b) from pk_sub (a := 8) (by omega), show (7 : Int32) = nI 7 from rfl, pk_andN (n := 8 - b) (by omega) 3 (by decide)]
  -- the odd byte, and what follows
  have rest : ∀ c3 m3, WX st c3 m3 → Fr cBitF cOutA c c3 → Fr mBitF mOutA m m3 → P2 (lb ((gI c3 601 5) - nI st) fun v4 => if (v4 &&& 1) = 0 then (f_X6_come_151 (nI w) (nI h) (nI st) v4 c3) else (bd (f_X6_putByte 0 c3) fun _ T5 => f_X6_come_151 (nI w) (nI h) (nI st) v4 T5)) (f_X12_written_236 (nI p) (nI st) m3) (CQ p c0 m0) := by
    intro c3 m3 ⟨⟨s, y, hW⟩, _⟩ f3 g3
    have hs : s ≤ 60000 := hW.2.2.1
    have hst : st ≤ s := hW.2.2.2.2.2.2
    unfold f_X12_written_236
    rw [hW.1, hW.2.1, lb_eq, lb_eq, pk_sub hst]
    -- behind the odd byte
    have fin : ∀ c4 m4, (∃ s y, WR st s y c4 m4) → Fr cBitF cOutA c c4 → Fr mBitF mOutA m m4 → P2 (f_X6_come_151 (nI w) (nI h) (nI st) (nI (s - st)) c4) (f_X12_written_255 (nI p) (nI st) (nI (s - st)) m4) (CQ p c0 m0) := by
      intro c4 m4 ⟨s4, y4, W4⟩ f4 g4
      unfold f_X12_written_255
      rw [W4.2.2.2.2.2.1, W4.2.1]
      have t0 : gI c4 602 5 = nI p := (f4.i rfl).trans e0
      have fc4 : Fr cShF cShA c0 c4 := fc.trans (cS f4 (fun g i e => by simp only [cBitF] at e; simp_all))
      have fm4 : Fr mShF mShA m0 m4 := fm.trans (g4.weak (fun g i e => by simp only [mShF, mBitF] at *; simp_all) (fun a e => by simp only [mShA, mOutA] at *; simp_all))
      cases y4 with
      | true =>
        rw [if_neg (by decide)]
        refine wp_P2 (wp_mono (ms_dir hp t0 ⟨⟨s4, W4.2.2.1, W4.1⟩, W4.2.2.2.2.1⟩) ?_)
        rintro _ c5 ⟨q1, q2, q3⟩
        exact ⟨⟨true, q1, W4.2.2.2.2.2.1, q2, fun e => by cases e⟩, fc4.trans q3, fm4⟩
      | false =>
        rw [if_pos (by decide), lb_eq]
        unfold f_X6_come_151
        have hs4 : st ≤ s4 := W4.2.2.2.2.2.2
        have hd := P2_dir (z := st) (st := st) (ln := s - st) hp hw hh (by omega) (by omega) (by omega : l + 4 ≤ s4) W4 ((f4.i rfl).trans e1) ((g4.i rfl).trans e2) ((g4.i rfl).trans e3) (by rw [g4.a rfl]; exact e4)
        obtain ⟨_, c5, _, m5, q1, q2, ⟨s5, y5, W5, l5, q3, q4, q5⟩, f5, g5⟩ := hd
        rw [q1, q2, bd_eq]
        have t5 : gI c5 602 5 = nI p := (f5.i rfl).trans t0
        rw [t5, ix_in (j := p) (nI_pos (by omega)) (nI_clamp (by omega)) hp, lb_eq, gI_uA, t5, ix_in (j := p) (nI_pos (by omega)) (nI_clamp (by omega)) hp, lb_eq, lb_eq, gI_uA, gI_uA, t5, nI_1]
        have fc5 : Fr cShF cShA c0 c5 := fc4.trans (cS f5 (fun g i e => by simp only [cDirF] at e; simp_all))
        have fm5 : Fr mShF mShA m0 m5 := fm4.trans (g5.weak (fun g i e => by simp only [mShF, mDirF] at *; simp_all) (fun a e => by simp only [mShA, mOutA] at *; simp_all))
        have fo5 : Fr (fun _ i => i == 5) (fun a => a == 6) c c5 := (f4.weak (fun g i e => by simp only [cBitF]; simp_all) (fun a e => e)).trans (f5.weak (fun g i e => by simp only [cDirF]; simp_all) (fun a e => e))
        have fmo5 : Fr mShF mOutA m m5 := (g4.weak (fun g i e => by simp only [mShF, mBitF] at *; simp_all) (fun a e => e)).trans (g5.weak (fun g i e => by simp only [mShF, mDirF] at *; simp_all) (fun a e => e))
        refine P2_ret ⟨⟨y5, W5.2.2.2.2.1, W5.2.2.2.2.2.1, by rw [gI_uI, if_pos ⟨rfl, rfl⟩], fun ey => ?_⟩, fc5.trans (((Fr.refl.uA _ _ rfl).uA _ _ rfl).uI _ rfl), fm5⟩
        subst ey
        have W6 : WR 0 s5 false (uI (uA (uA c5 7 p (nI w)) 8 p (nI h)) 602 5 (nI (p + 1))) m5 := (W5.z (Nat.zero_le _)).fr (PF := fun f i => i == 5 && f == 602) (PA := fun a => a == 7 || a == 8) (QF := fun _ _ => false) (QA := fun _ => false) (((Fr.refl.uA _ _ rfl).uA _ _ rfl).uI _ rfl) Fr.refl rfl rfl rfl rfl rfl rfl
        refine ⟨s5, p + 1, W6, by rw [gI_uI, if_pos ⟨rfl, rfl⟩], ?_, by omega, fun i hi => ?_, fun _ => ⟨l5, ?_, q4, q5 rfl⟩, fun e => absurd e (by omega)⟩
        · rw [g5.i rfl, g4.i rfl]; exact e00
        · have ca : ∀ a, a ≠ 6 → gA c5 a = gA c a := fun a ha => fo5.a (by simp [ha])
          have ma : ∀ a, a ≠ 161 → gA m5 a = gA m a := fun a ha => fmo5.a (by simp [mOutA, ha])
          have u7 : ∀ j, gA (uI (uA (uA c5 7 p (nI w)) 8 p (nI h)) 602 5 (nI (p + 1))) 7 j = if j = p then nI w else gA c 7 j := fun j => by
            rw [gA_uI, gA_uA, if_neg (by omega), gA_uA, ca 7 (by decide)]; simp
          have u8 : ∀ j, gA (uI (uA (uA c5 7 p (nI w)) 8 p (nI h)) 602 5 (nI (p + 1))) 8 j = if j = p then nI h else gA c 8 j := fun j => by
            rw [gA_uI, gA_uA, gA_uA, ca 8 (by decide)]; simp
          have u10 : ∀ i, gA (uI (uA (uA c5 7 p (nI w)) 8 p (nI h)) 602 5 (nI (p + 1))) (10 + i) = gA c (10 + i) := fun i => funext fun j => by
            rw [gA_uI, gA_uA, if_neg (by omega), gA_uA, if_neg (by omega), ca (10 + i) (by omega)]
          by_cases hip : i = p
          · subst hip
            refine ⟨w, h, hw1, hw, hh1, hh, by rw [u7, if_pos rfl], by rw [u8, if_pos rfl], by rw [ma 159 (by decide)]; exact e5, by rw [ma 160 (by decide)]; exact e4, fun y hy x hx => ?_, fun y hy x h1 h2 => ?_⟩
            · rw [ma 158 (by decide), u10]; exact hpp.1 y hy x hx
            · rw [u10]; exact hpp.2 y hy x h1 h2
          · obtain ⟨w', h', a1, a2, a3, a4, a5, a6, a7, a8, a9, a10⟩ := hpg i (by omega)
            refine ⟨w', h', a1, a2, a3, a4, by rw [u7, if_neg hip]; exact a5, by rw [u8, if_neg hip]; exact a6, by rw [ma 159 (by decide)]; exact a7, by rw [ma 160 (by decide)]; exact a8, fun y hy x hx => ?_, fun y hy x h1 h2 => ?_⟩
            · rw [ma 158 (by decide), u10]; exact a9 y hy x hx
            · rw [u10]; exact a10 y hy x h1 h2
        · rw [gI_uI, if_neg (by decide), gI_uA, gI_uA]; exact q3
    have e1' : nI (s - st) &&& 1 = nI ((s - st) % 2) := pk_andN (n := s - st) (by omega) 1 (by decide)
    have e2' : nI (s - st) - nI (s - st) / 2 * 2 = nI ((s - st) % 2) := pk_rem (d := 2) (by omega) (by decide) (by decide)
    rw [e1', e2']
    rcases Nat.mod_two_eq_zero_or_one (s - st) with q | q
    · rw [q, if_pos (by decide), if_neg (by decide)]
      exact fin c3 m3 ⟨s, y, hW⟩ f3 g3
    · rw [q, if_neg (by decide), if_pos (by decide)]
      refine P2_bd (P2_byte hW rfl) ?_
      rintro _ c4 _ m4 ⟨W4, f4, g4⟩
      refine fin c4 m4 W4 (f3.trans (f4.weak (fun g i e => by simp only [cBitF, cOutF] at *; simp_all) (fun _ e => e))) (g3.trans (g4.weak (fun g i e => by simp only [mBitF, mOutF] at *; simp_all) (fun _ e => e)))
  rcases Nat.eq_zero_or_pos b with hb0 | hb0
  · subst hb0
    rw [if_pos (by decide : nI 0 ≤ 0)]
    have e9 : f_X12_written_236 (nI p) (nI st) m2 = bd (f_X12_bits (nI 0) (nI 0) m2) (fun _ T => f_X12_written_236 (nI p) (nI st) T) := by rw [bits0]; rfl
    rw [e9]
    refine P2_bd (P2_bits (q := 0) (n := 0) (by omega) (by decide) ⟨hO, 0, pv, hb, hpv, k1, k2, k3, k4⟩) ?_
    rintro _ c3 _ m3 ⟨h3, f2, g2⟩
    exact rest c3 m3 h3 (f1.trans f2) (g1.trans g2)
  · rw [if_neg (nI_nle hb0 (by omega)), Nat.mod_eq_of_lt (by omega : 8 - b < 2 ^ 3)]
    refine P2_bd (P2_bits (q := 0) (n := 8 - b) (by omega) (Nat.two_pow_pos _) ⟨hO, b, pv, hb, hpv, k1, k2, k3, k4⟩) ?_
    rintro _ c3 _ m3 ⟨h3, f2, g2⟩
    exact rest c3 m3 h3 (f1.trans f2) (g1.trans g2)
