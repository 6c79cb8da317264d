/-! The rows of a page, on both sides. -/
theorem uA_vA (T : Mm) (a j : Nat) (g : Nat → Int32) (v : Int32) : uA (vA T a g) a j v = vA T a (fun i => if i = j then v else g i) := by
  have e : up2 (va_up (gA T) a g) a j v = va_up (gA T) a (fun i => if i = j then v else g i) := funext fun x => funext fun i => by
    show (if x = a ∧ i = j then v else va_up (gA T) a g x i) = va_up (gA T) a (fun i => if i = j then v else g i) x i
    by_cases h : x = a
    · subst h
      rw [va_up_self, va_up_self]
      by_cases h2 : i = j
      · rw [if_pos ⟨rfl, h2⟩, if_pos h2]
      · rw [if_neg (fun q => h2 q.2), if_neg h2]
    · rw [va_up_ne _ _ h, va_up_ne _ _ h, if_neg (fun q => h q.1)]
  show (gI T, gJ T, gR T, up2 (va_up (gA T) a g) a j v, gB T) = _
  rw [e]; rfl
theorem vA_id (T : Mm) (a : Nat) : vA T a (gA T a) = T := by
  have e : va_up (gA T) a (gA T a) = gA T := funext fun x => by
    by_cases h : x = a
    · subst h; rw [va_up_self]
    · rw [va_up_ne _ _ h]
  show (gI T, gJ T, gR T, va_up (gA T) a (gA T a), gB T) = _
  rw [e]; rfl
theorem gA_vA_s (T : Mm) (a : Nat) (g : Nat → Int32) : gA (vA T a g) a = g := funext fun j => by rw [gA_vA, if_pos rfl]
theorem gA_vA_o (T : Mm) {a b : Nat} (g : Nat → Int32) (h : b ≠ a) : gA (vA T a g) b = gA T b := funext fun j => by rw [gA_vA, if_neg h]
theorem sdot (x : Int32) {n : Nat} (hn : n < 32) : (x >>> (nI n &&& 31)) &&& 1 = cI (bt x n) := by
  rw [and1_bt, b_sshr n hn x (by omega)]
  simp [hn]
theorem i8_bt (x : Int32) {i : Nat} (hi : i < 8) : bt x.toInt8.toInt32 i = bt x i := by
  unfold bt
  rw [Int8.toBitVec_toInt32, Int32.toBitVec_toInt8, BitVec.getLsbD_signExtend, BitVec.getLsbD_signExtend, if_pos hi, if_pos (show i < 32 by omega), decide_eq_true (show i < 32 by omega), decide_eq_true hi]
  simp
theorem div8 {k : Nat} (h : k < 2 ^ 20) : nI k / 8 = nI (k / 8) := pk_div (d := 8) (by omega) (by decide) (by decide)
theorem rem8 {k : Nat} (h : k < 2 ^ 20) : nI k - nI k / 8 * 8 = nI (k % 8) := pk_rem (d := 8) (by omega) (by decide) (by decide)
/-- the loop that fills the first w of a row with zeros -/
theorem m_zero {w : Nat} (hw : w ≤ 640) {a1 a2 : Int32} : ∀ (n i : Nat) (T : Mm), i ≤ w → w - i < n → gI T 1260 133 = nI w → (∀ j, j < i → gA T 167 j = 0) → ∃ T', f_X12_written_l65 n a1 a2 (nI i) T = f_X12_written_l88 FU a1 a2 0 T' ∧ Fr (fun _ _ => false) (fun a => a == 167) T T' ∧ ∀ j, j < w → gA T' 167 j = 0 := by
  intro n
  induction n with
  | zero => intro i T _ h; omega
  | succ n ih =>
    intro i T hi hn h0 hz
    have e : f_X12_written_l65 (n + 1) a1 a2 (nI i) T = f_X12_written_b65 (f_X12_written_l65 n) a1 a2 (nI i) T := rfl
    rw [e]; unfold f_X12_written_b65
    rw [h0]
    rcases Nat.lt_or_ge i w with hlt | hge
    · rw [if_neg (nI_ge hlt (by omega)), ix_in (j := i) (nI_pos (by omega)) (nI_clamp (by omega)) (by omega), lb_eq, nI_1]
      obtain ⟨T', e2, f, g⟩ := ih (i + 1) (uA T 167 i 0) (by omega) (by omega) h0 (fun j hj => by
        rw [gA_uA]
        by_cases q : j = i
        · rw [if_pos ⟨rfl, q⟩]
        · rw [if_neg (fun z => q z.2)]; exact hz j (by omega))
      exact ⟨T', e2, Fr.trans (Fr.refl.uA _ _ rfl) f, g⟩
    · rw [if_pos (nI_le hge (by omega))]
      exact ⟨T, rfl, Fr.refl, fun j hj => hz j (by omega)⟩
/-- the row at hand out of the page that came -/
theorem m_now {w p y : Nat} (hw : w ≤ 640) (hp : p < 12) (hy : y < 800) {a2 : Int32} {k88 : Int32 → Int32 → Int32 → Mm → Option (Unit × Mm)} : ∀ (n i : Nat) (T : Mm), i ≤ w → w - i < n → gI T 1260 133 = nI w → (∀ j, j < i → gA T 168 j = cI (bt (gA T 158 (p * 64000 + 80 * y + j / 8)) (7 - j % 8))) → ∃ T', f_X12_written_l108 k88 n (nI p) a2 (nI y) (nI i) T = bd (f_X12_writeRow T') (fun _ T1 => f_X12_written_l168 k88 FU (nI p) a2 (nI y) 0 T1) ∧ Fr (fun _ _ => false) (fun a => a == 168) T T' ∧ ∀ j, j < w → gA T' 168 j = cI (bt (gA T 158 (p * 64000 + 80 * y + j / 8)) (7 - j % 8)) := by
  intro n
  induction n with
  | zero => intro i T _ h; omega
  | succ n ih =>
    intro i T hi hn h0 hz
    have e : f_X12_written_l108 k88 (n + 1) (nI p) a2 (nI y) (nI i) T = f_X12_written_b108 k88 (f_X12_written_l108 k88 n) (nI p) a2 (nI y) (nI i) T := rfl
    rw [e]; unfold f_X12_written_b108
    rw [h0]
    rcases Nat.lt_or_ge i w with hlt | hge
    · rw [if_neg (nI_ge hlt (by omega)), div8 (by omega), show nI p * 64000 = nI (p * 64000) from pk_mul p 64000, show (80 : Int32) * nI y = nI (80 * y) from pk_mul 80 y, nI_add, nI_add, ix_in (j := p * 64000 + 80 * y + i / 8) (nI_pos (by omega)) (nI_clamp (by omega)) (by omega), ix_in (j := i) (nI_pos (by omega)) (nI_clamp (by omega)) (by omega), lb_eq, nI_1]
      have ev : (gA T 158 (p * 64000 + 80 * y + i / 8) >>> (((7 : Int32) - (nI i - nI (i / 8) * 8)) &&& 31)) &&& 1 = cI (bt (gA T 158 (p * 64000 + 80 * y + i / 8)) (7 - i % 8)) := by
        have := rem8 (k := i) (by omega)
        rw [div8 (by omega)] at this
        rw [this, show (7 : Int32) - nI (i % 8) = nI (7 - i % 8) from pk_sub (a := 7) (by omega), sdot _ (by omega)]
      rw [ev]
      obtain ⟨T', e2, f, g⟩ := ih (i + 1) (uA T 168 i (cI (bt (gA T 158 (p * 64000 + 80 * y + i / 8)) (7 - i % 8)))) (by omega) (by omega) h0 (fun j hj => by
        rw [gA_uA, gA_uA, if_neg (fun z => by omega : ¬ (158 = 168 ∧ p * 64000 + 80 * y + j / 8 = i))]
        by_cases q : j = i
        · rw [if_pos ⟨rfl, q⟩, q]
        · rw [if_neg (fun z => q z.2)]; exact hz j (by omega))
      refine ⟨T', e2, Fr.trans (Fr.refl.uA _ _ rfl) f, fun j hj => ?_⟩
      rw [g j hj, gA_uA, if_neg (fun z => by omega)]
    · rw [if_pos (nI_le hge (by omega))]
      exact ⟨T, rfl, Fr.refl, fun j hj => hz j (by omega)⟩
/-- and the row before is the row at hand -/
theorem m_bef {w : Nat} (hw : w ≤ 640) {a1 a2 a3 : Int32} {k88 : Int32 → Int32 → Int32 → Mm → Option (Unit × Mm)} : ∀ (n i : Nat) (T : Mm), i ≤ w → w - i < n → gI T 1260 133 = nI w → (∀ j, j < i → gA T 167 j = gA T 168 j) → ∃ T', f_X12_written_l168 k88 n a1 a2 a3 (nI i) T = k88 a1 a2 (a3 + 1) T' ∧ Fr (fun _ _ => false) (fun a => a == 167) T T' ∧ ∀ j, j < w → gA T' 167 j = gA T 168 j := by
  intro n
  induction n with
  | zero => intro i T _ h; omega
  | succ n ih =>
    intro i T hi hn h0 hz
    have e : f_X12_written_l168 k88 (n + 1) a1 a2 a3 (nI i) T = f_X12_written_b168 k88 (f_X12_written_l168 k88 n) a1 a2 a3 (nI i) T := rfl
    rw [e]; unfold f_X12_written_b168
    rw [h0]
    rcases Nat.lt_or_ge i w with hlt | hge
    · rw [if_neg (nI_ge hlt (by omega)), ix_in (j := i) (nI_pos (by omega)) (nI_clamp (by omega)) (by omega), ix_in (j := i) (nI_pos (by omega)) (nI_clamp (by omega)) (by omega), lb_eq, nI_1]
      obtain ⟨T', e2, f, g⟩ := ih (i + 1) (uA T 167 i (gA T 168 i)) (by omega) (by omega) h0 (fun j hj => by
        rw [gA_uA, gA_uA, if_neg (fun z => by omega : ¬ (168 = 167 ∧ j = i))]
        by_cases q : j = i
        · rw [if_pos ⟨rfl, q⟩, q]
        · rw [if_neg (fun z => q z.2)]; exact hz j (by omega))
      refine ⟨T', e2, Fr.trans (Fr.refl.uA _ _ rfl) f, fun j hj => ?_⟩
      rw [g j hj, gA_uA, if_neg (fun z => by omega)]
    · rw [if_pos (nI_le hge (by omega))]
      exact ⟨T, rfl, Fr.refl, fun j hj => hz j (by omega)⟩
def mWrF (f i : Nat) : Bool := i == 133 && (f == 1242 || f == 1233 || f == 1264 || f == 1265 || f == 1261 || f == 1262 || f == 1263)
def mWrA (a : Nat) : Bool := a == 161 || a == 167 || a == 168
/-- all rows of a page -/
theorem P2_rows {z : Nat} {a p w h : Nat} {strip : Int32} (ha : a ≠ 6) (hN : LN a = 16000) (hp : p < 12) (hw : w ≤ 640) (hw1 : 1 ≤ w) (hh : h ≤ 800) {Q : Unit → Mm → Unit → Mm → Prop} {c0 m0 : Mm}
    (tail : ∀ c m, Fr cBitF cOutA c0 c → Fr mWrF mWrA m0 m → WX z c m → P2 (f_X6_come_102 (nI w) (nI h) strip c) (f_X12_written_203 (nI p) strip m) Q) :
    ∀ (n n' y : Nat) (c m : Mm), h - y < n → h - y < n' → y ≤ h → Fr cBitF cOutA c0 c → Fr mWrF mWrA m0 m → WX z c m → Tab m → gI m 1260 133 = nI w → gA m 160 p = nI h →
      (∀ y, y < h → ∀ x, x < w → bt (gA m 158 (p * 64000 + 80 * y + x / 8)) (7 - x % 8) = dotW (gA c a) (20 * y) x) → (∀ x, x < w → gA m 167 x = cI (if y = 0 then false else dotW (gA c a) (20 * (y - 1)) x)) →
      P2 (f_X6_come_l74 n (nI w) (nI h) strip a (nI y) c) (f_X12_written_l88 n' (nI p) strip (nI y) m) Q := by
  intro n
  induction n with
  | zero => intro n' y c m h; omega
  | succ n ih =>
    intro n' y c m hn hn' hy fc fm hX hT hw0 hh0 hpg hbef
    obtain ⟨n', rfl⟩ : ∃ k, n' = k + 1 := ⟨n' - 1, by omega⟩
    show P2 (f_X6_come_b74 (f_X6_come_l74 n) _ _ _ _ _ _) (f_X12_written_b88 (f_X12_written_l88 n') _ _ _ _) Q
    unfold f_X6_come_b74 f_X12_written_b88
    rw [ix_in (j := p) (nI_pos (by omega)) (nI_clamp (by omega)) hp, hh0]
    rcases Nat.lt_or_ge y h with hlt | hge
    · obtain ⟨⟨s, yy, hWR⟩, hWB⟩ := hX
      rw [if_neg (nI_ge hlt (by omega)), if_neg (nI_ge hlt (by omega)), hWR.2.2.2.2.1, hWR.2.2.2.2.2.1]
      cases yy with
      | true =>
        rw [if_neg (by decide), if_neg (by decide)]
        exact tail c m fc fm ⟨⟨s, true, hWR⟩, hWB⟩
      | false =>
        rw [if_pos (by decide), if_pos (by decide)]
        obtain ⟨m2, e2, f2, g2⟩ := m_now (k88 := f_X12_written_l88 n') (a2 := strip) hw hp (by omega : y < 800) FU 0 m (by omega) (FU_gt (by omega)) hw0 (fun j hj => by omega)
        rw [show (0 : Int32) = nI 0 from rfl, e2]
        have hX2 : WX z c m2 := WX.fr ⟨⟨s, false, hWR⟩, hWB⟩ (PF := fun _ _ => false) (PA := fun _ => false) Fr.refl f2 rfl rfl rfl rfl rfl rfl rfl rfl rfl rfl
        have hR2 : RwN m2 w (dotW (gA c a) (20 * y)) (fun x => if y = 0 then false else dotW (gA c a) (20 * (y - 1)) x) := by
          refine ⟨(f2.i rfl).trans hw0, fun k hk => ?_, fun k hk => ?_⟩
          · rw [g2 k hk, hpg y hlt k hk]
          · rw [f2.a rfl]; exact hbef k hk
        have hlnN : LN a < 2 ^ 26 := by rw [hN]; decide
        have hRP1 : RP (gA c a) (nI (20 * y)) (dotW (gA c a) (20 * y)) w (LN a) := Or.inr ⟨20 * y, rfl, rfl, by rw [hN]; omega⟩
        have wr : P2 (f_X6_writeRow a (nI y) (nI w) c) (f_X12_writeRow m2) (fun _ c' _ m' => WX z c' m' ∧ Fr cBitF cOutA c c' ∧ Fr mRowF mOutA m2 m') := by
          unfold f_X6_writeRow f_X12_writeRow
          rw [show nI y * 20 = nI (20 * y) from by rw [show (20 : Int32) = nI 20 from rfl, pk_mul y 20]; congr 1; omega, lb_eq, lb_eq, lb_eq, lb_eq]
          have k1 : gI (uI (uI (uI m2 1261 133 0) 1262 133 1) 1263 133 0) 1261 133 = nI 0 := by rw [gI_uI, if_neg (by decide), gI_uI, if_neg (by decide), gI_uI, if_pos ⟨rfl, rfl⟩]; rfl
          have k2 : gI (uI (uI (uI m2 1261 133 0) 1262 133 1) 1263 133 0) 1262 133 = cI true := by rw [gI_uI, if_neg (by decide), gI_uI, if_pos ⟨rfl, rfl⟩]; rfl
          have k3 : gI (uI (uI (uI m2 1261 133 0) 1262 133 1) 1263 133 0) 1263 133 = cI false := by rw [gI_uI, if_pos ⟨rfl, rfl⟩]; rfl
          have hX3 := ((hX2.mI (f := 1261) 0 (by decide)).mI (f := 1262) 1 (by decide)).mI (f := 1263) 0 (by decide)
          have fr3 : Fr mRowF mOutA m2 (uI (uI (uI m2 1261 133 0) 1262 133 1) 1263 133 0) := ((Fr.refl.uI _ rfl).uI _ rfl).uI _ rfl
          have go : ∀ ra : Int32, RP (gA c a) ra (fun x => if y = 0 then false else dotW (gA c a) (20 * (y - 1)) x) w (LN a) → P2 (f_X6_writeRow_l30 FU a (nI w) (nI (20 * y)) ra (-1) 0 0 c) (f_X12_writeRow_l15 FU (uI (uI (uI m2 1261 133 0) 1262 133 1) 1263 133 0)) (fun _ c' _ m' => WX z c' m' ∧ Fr cBitF cOutA c c' ∧ Fr mRowF mOutA m2 m') := by
            intro ra hra
            have := P2_wrow ha hlnN hw hw1 FU FU 0 0 true false 0 c _ (FU_gt (by omega)) (FU_gt (by omega)) rfl (fun _ => rfl) (by omega) (by omega) (fun q => by cases q) hRP1 hra (hR2.fr fr3 rfl rfl rfl) ((hT.fr f2 rfl rfl).fr fr3 rfl rfl) hX3 k1 k2 k3
            refine P2_mono this ?_
            rintro _ c3 _ m3 ⟨h3, f3, f4⟩
            exact ⟨h3, f3, fr3.trans f4⟩
          by_cases hy0 : y = 0
          · subst hy0
            rw [if_pos nI_0]
            exact go (-1) (Or.inl ⟨rfl, rfl⟩)
          · rw [if_neg (nI_ne0 (by omega) (by omega)), show nI (20 * y) - 20 = nI (20 * (y - 1)) from by rw [show (20 : Int32) = nI 20 from rfl, pk_sub (by omega)]; congr 1; omega, lb_eq]
            refine go _ (Or.inr ⟨20 * (y - 1), rfl, funext fun x => if_neg hy0, by rw [hN]; omega⟩)
        refine P2_bd wr ?_
        rintro _ c3 _ m3 ⟨hX3, f3, f4⟩
        obtain ⟨m4, e4, f5, g5⟩ := m_bef (k88 := f_X12_written_l88 n') (a1 := nI p) (a2 := strip) (a3 := nI y) hw FU 0 m3 (by omega) (FU_gt (by omega)) ((f4.i rfl).trans ((f2.i rfl).trans hw0)) (fun j hj => by omega)
        rw [show (0 : Int32) = nI 0 from rfl, e4, nI_1]
        have ea : gA c3 a = gA c a := f3.a (by simp [cOutA, ha])
        have fm4 : Fr mWrF mWrA m m4 := ((f2.weak (fun _ _ _ => rfl) (fun a e => by simp only [mWrA] at e; simp_all)).trans (f4.weak (fun _ _ e => e) (fun a e => by simp only [mWrA, mOutA] at *; simp_all))).trans (f5.weak (fun _ _ _ => rfl) (fun a e => by simp only [mWrA] at e; simp_all))
        refine ih n' (y + 1) c3 m4 (by omega) (by omega) (by omega) (fc.trans f3) (fm.trans fm4) (WX.fr hX3 (PF := fun _ _ => false) (PA := fun _ => false) Fr.refl f5 rfl rfl rfl rfl rfl rfl rfl rfl rfl rfl) (hT.fr fm4 rfl rfl) ((fm4.i rfl).trans hw0) (by rw [fm4.a rfl]; exact hh0) (fun y' hy' x hx => by rw [fm4.a rfl, ea]; exact hpg y' hy' x hx) (fun x hx => ?_)
        rw [g5 x hx, f4.a rfl, if_neg (by omega), ea, Nat.add_sub_cancel]
        exact hR2.2.1 x hx
    · rw [if_pos (nI_le hge (by omega)), if_pos (nI_le hge (by omega))]
      exact tail c m fc fm hX
