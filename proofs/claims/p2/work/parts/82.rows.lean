/-! The rows of a strip. -/
def mStA (b : Nat) : Bool := b == 157 || b == 167 || b == 168
/-- y rows of the picture are there -/
def SI (c m : Mm) (a w y : Nat) (inv : Bool) : Prop := (∀ v, v < y → ∀ x, x < w → bt (gA m 157 (80 * v + x / 8)) (7 - x % 8) = xor (dotW (gA c a) (20 * v) x) inv) ∧ (∀ v, v < y → ∀ x, w ≤ x → x < 640 → dotW (gA c a) (20 * v) x = false) ∧ (∀ v, y ≤ v → v < 800 → ∀ x, x < 640 → dotW (gA c a) (20 * v) x = false) ∧ (∀ v, y ≤ v → v < 800 → ∀ x, x < 640 → bt (gA m 157 (80 * v + x / 8)) (7 - x % 8) = false)
theorem dotW_eq {A A' : Nat → Int32} {v x : Nat} (h : A' (20 * v + x / 32) = A (20 * v + x / 32)) : dotW A' (20 * v) x = dotW A (20 * v) x := by
  unfold dotW; rw [h]
section STR
variable {β : Type} {Q : β → Mm → Int32 → Mm → Prop} {K : Unit → Mm → Option (β × Mm)} {a w h y0 off sz nb rps : Nat} {bs : Nat → Bool} {inv : Bool} {c0 m0 : Mm} {k17 : Nat → Int32 → Int32 → Mm → Option (Unit × Mm)} {k552 : Int32 → Int32 → Int64 → Int32 → Int32 → Int32 → Mm → Option (Int32 × Mm)} {a3 a7 a9 : Int32}
theorem P2_srows (sc : StC c0 nb bs) (sm : StM m0 nb bs) (rt : RunT c0) (tb : Tab m0) (wm : gI m0 1260 133 = nI w) (wc : gJ c0 309 129 = lN w) (f0 : gI c0 304 129 = 0) (szc : gI c0 303 129 = nI sz) (cf : gI m0 1276 133 = nI off) (hoff : off ≤ sz) (hsz : sz < 2 ^ 30) (hph : gB m0 171 262 = 0 ↔ inv = false) (hw1 : 1 ≤ w) (hw : w ≤ 640) (hh : h ≤ 800) (ha1 : 10 ≤ a) (ha2 : a ≤ 22) (hN : LN a = 16000) (hrps : rps < 2 ^ 40) (ye : Nat) (hye : ye = if y0 + rps ≤ h then y0 + rps else h)
    (good : ∀ c' m', Fr cRdF (fun b => b == a) c0 c' → Fr mRdF mStA m0 m' → SI c' m' a w ye inv → P2 (bd (k17 a (nI ye) (a3 + 1) c') K) (k552 (nI w) (nI h) (lN rps) a7 (nI ye) (a9 + 1) m') Q)
    (bad : ∀ c' m', Fr cRdF (fun b => b == a) c0 c' → Fr mRdF mStA m0 m' → P2 (bd (k17 a (nI ye) (a3 + 1) (uI (uI c' 304 129 5) 305 129 (nI off))) K) (some (0, uI (uI m' 1243 133 5) 1245 133 (nI off))) Q) :
    ∀ n y q c m, ye - y < n → y0 ≤ y → y ≤ ye → Fr cRdF (fun b => b == a) c0 c → Fr mRdF mStA m0 m → q ≤ nb → gI c 318 129 = nI q → gJ m 1278 133 = lN q → SI c m a w y inv → (∀ x, x < w → gA m 167 x = cI (if y = y0 then false else dotW (gA c a) (20 * (y - 1)) x)) → P2 (bd (f_X3_readStrips_l118 k17 n a (nI y0) a3 (lN off) (nI ye) 1 (nI y) c) K) (f_X12_directory_l707 k552 n (nI w) (nI h) (lN rps) a7 (nI y) a9 (lN (y - y0)) m) Q := by
  intro n
  induction n with
  | zero => intro y q c m hh; omega
  | succ n ih =>
    intro y q c m hn hy0 hy fc fm hq cq mq S B
    have hyh : ye ≤ h := by rw [hye]; split <;> omega
    have evc : f_X3_readStrips_l118 k17 (n + 1) a (nI y0) a3 (lN off) (nI ye) 1 (nI y) c = f_X3_readStrips_b118 k17 (f_X3_readStrips_l118 k17 n) a (nI y0) a3 (lN off) (nI ye) 1 (nI y) c := rfl
    have evm : f_X12_directory_l707 k552 (n + 1) (nI w) (nI h) (lN rps) a7 (nI y) a9 (lN (y - y0)) m = f_X12_directory_b707 k552 (f_X12_directory_l707 k552 n) (nI w) (nI h) (lN rps) a7 (nI y) a9 (lN (y - y0)) m := rfl
    rw [evc, evm]
    unfold f_X3_readStrips_b118 f_X12_directory_b707
    rw [if_neg (show ¬ (1 : Int32) = 0 by decide)]
    have t173 : ∀ T, f_X3_readStrips_173 k17 a a3 (lN off) (nI ye) 1 T = k17 a (nI ye) (a3 + 1) T := fun T => by unfold f_X3_readStrips_173; rw [if_neg (by decide)]
    rcases Nat.lt_or_ge y ye with hlt | hge
    · have hm1 : ¬ 0 ≤ lg_cmp (lN (y - y0)) (lN rps) := by
        rw [c_ge, pk_lLE (by omega) (by omega)]; rw [hye] at hlt; split at hlt <;> omega
      rw [if_neg (nI_ge hlt (by omega)), if_neg (show ¬ (800 : Int32) ≤ nI y from nI_ge (b := 800) (by omega) (by omega)), if_neg hm1, if_neg (show ¬ nI h ≤ nI y from nI_ge (by omega) (by omega))]
      have e20 : nI y * 20 = nI (20 * y) := by rw [show nI y * 20 = nI (y * 20) from pk_mul y 20, Nat.mul_comm]
      -- class: which row is before
      have hra : ∃ ra, (if nI y = nI y0 then bd (f_X3_readRow a (nI y * 20) (-1) c) fun v3 T4 => f_X3_readStrips_l118 k17 n a (nI y0) a3 (lN off) (nI ye) v3 (nI y + 1) T4 else bd (f_X3_readRow a (nI y * 20) ((nI y - 1) * 20) c) fun v1 T2 => f_X3_readStrips_l118 k17 n a (nI y0) a3 (lN off) (nI ye) v1 (nI y + 1) T2) = (bd (f_X3_readRow a (nI (20 * y)) ra c) fun v3 T4 => f_X3_readStrips_l118 k17 n a (nI y0) a3 (lN off) (nI ye) v3 (nI (y + 1)) T4) ∧ ((ra = -1 ∧ ∀ x, x < w → (if y = y0 then false else dotW (gA c a) (20 * (y - 1)) x) = false) ∨ ∃ rb : Nat, ra = nI rb ∧ (∀ x, x < w → dotW (gA c a) rb x = (if y = y0 then false else dotW (gA c a) (20 * (y - 1)) x)) ∧ rb + 20 ≤ 20 * y) := by
        rw [e20, nI_1]
        by_cases z : y = y0
        · exact ⟨-1, by rw [if_pos (by rw [z])], Or.inl ⟨rfl, fun x _ => by rw [if_pos z]⟩⟩
        · refine ⟨nI (20 * (y - 1)), ?_, Or.inr ⟨20 * (y - 1), rfl, fun x _ => by rw [if_neg z], by omega⟩⟩
          rw [if_neg (fun q => z ((nI_eq (by omega) (by omega)).mp q)), show nI y - 1 = nI (y - 1) from pk_sub (b := 1) (by omega), show nI (y - 1) * 20 = nI ((y - 1) * 20) from pk_mul (y - 1) 20, Nat.mul_comm (y - 1) 20]
      obtain ⟨ra, er, hB⟩ := hra
      rw [er]
      have L : LC c m a (20 * y) w nb ra bs (fun x => if y = y0 then false else dotW (gA c a) (20 * (y - 1)) x) := LC_mk (sc := sc.fr fc rfl (by show (131 == a) = false; simp; omega)) (sm := sm.fr fm rfl rfl rfl rfl rfl) (rt := rt.fr fc (by show (132 == a) = false; simp; omega)) (tb := tb.fr fm rfl rfl) (wm := by rw [fm.i rfl]; exact wm) (bm := B) (hw := hw) (hw1 := hw1) (ha1 := ha1) (ha2 := ha2) (hN := hN) (hrw := by omega) (hra := hB)
      rw [bd_assoc]
      refine P2_bd (P2_readRow L hq cq mq (by rw [fc.j rfl]; exact wc) (fun x hx => S.2.2.1 y (Nat.le_refl _) (by omega) x hx)) ?_
      rintro r c1 s m1 ⟨hres, hout, g1, g2⟩
      have f1 : Fr cRdF (fun b => b == a) c0 c1 := fc.trans g1
      have f2 : Fr mRdF mStA m0 m1 := fm.trans (g2.weak (fun _ _ e => e) (fun b e => by unfold mStA at e; revert e; simp))
      rcases hres with ⟨rfl, rfl⟩ | ⟨rfl, rfl, N, q', h1, h2, h3, h4, h5, h6⟩
      · -- a bad row
        rw [if_pos (show (0 : Int32) = 0 from rfl), m_wrong, show gI m1 1276 133 = nI off from by rw [f2.i rfl]; exact cf]
        have stop : ∀ n, 0 < n → f_X3_readStrips_l118 k17 n a (nI y0) a3 (lN off) (nI ye) 0 (nI (y + 1)) c1 = k17 a (nI ye) (a3 + 1) (uI (uI c1 304 129 5) 305 129 (nI off)) := by
          intro n hn
          obtain ⟨n', rfl⟩ : ∃ n', n = n' + 1 := ⟨n - 1, by omega⟩
          show f_X3_readStrips_b118 k17 (f_X3_readStrips_l118 k17 n') _ _ _ _ _ _ _ _ = _
          unfold f_X3_readStrips_b118
          rw [if_pos rfl]
          unfold f_X3_readStrips_173
          rw [if_pos rfl, f_fail (sz := sz) (by rw [f1.i rfl]; exact f0) (by rw [f1.i rfl]; exact szc) (by omega) hsz, bd_eq, if_neg (show ¬ sz < off by omega)]
        rw [stop n (by omega)]
        exact bad c1 m1 f1 f2
      · rw [if_neg (show ¬ (1 : Int32) = 0 by decide)]
        have hx157 : ∀ x, x < 640 → bt (gA m1 157 (80 * y + x / 8)) (7 - x % 8) = if x < 0 then xor (N x) inv else false := fun x hx => by
          rw [g2.a rfl, if_neg (by omega)]; exact S.2.2.2 y (Nat.le_refl _) (by omega) x hx
        obtain ⟨m2, em, u1, u2, u3, u4⟩ := m_copy (a4 := nI h) (a7 := a7) (a9 := a9) (a5 := lN rps) (a10 := lN (y - y0)) (k707 := f_X12_directory_l707 k552 n) (inv := inv) (N := N) (w := w) (y := y) hw (by omega) FU 0 m1 (by omega) (FU_gt (by omega)) (by rw [f2.b rfl]; exact hph) h5 (fun x hx => by omega) hx157
        rw [show (0 : Int32) = nI 0 from rfl, em, lN_1]
        have hyy : y - y0 + 1 = y + 1 - y0 := by omega
        rw [hyy]
        have f3 : Fr mRdF mStA m0 m2 := f2.trans (u1.weak (fun _ _ _ => rfl) (fun b e => by unfold mStA at e; unfold mCpA; revert e; simp; omega))
        have dold : ∀ v, v ≠ y → ∀ x, x < 640 → dotW (gA c1 a) (20 * v) x = dotW (gA c a) (20 * v) x := fun v hv x hx => dotW_eq (hout _ (by omega))
        refine ih (y + 1) q' c1 m2 (by omega) (by omega) (by omega) f1 f3 h1 h2 (by rw [u1.j rfl]; exact h3) ⟨fun v hv x hx => ?_, fun v hv x hx1 hx2 => ?_, fun v hv hv2 x hx => ?_, fun v hv hv2 x hx => ?_⟩ (fun x hx => ?_)
        · by_cases z : v = y
          · subst z
            rw [u3 x (by omega), if_pos hx, h4 x (by omega)]
          · rw [u4 _ (by omega), g2.a rfl, dold v z x (by omega)]
            exact S.1 v (by omega) x hx
        · by_cases z : v = y
          · subst z; rw [h4 x hx2]; exact h6 x hx1 hx2
          · rw [dold v z x hx2]; exact S.2.1 v (by omega) x hx1 hx2
        · rw [dold v (by omega) x hx]; exact S.2.2.1 v (by omega) hv2 x hx
        · rw [u4 _ (by omega), g2.a rfl]; exact S.2.2.2 v (by omega) hv2 x hx
        · rw [u2 x hx, if_neg (by omega), show y + 1 - 1 = y by omega, h4 x (by omega)]
    · have e : y = ye := by omega
      subst e
      rw [if_pos (nI_le (Nat.le_refl _) (by omega)), t173]
      by_cases z : rps ≤ y - y0
      · rw [if_pos (by rw [c_ge, pk_lLE (by omega) (by omega)]; exact z)]
        exact good c m fc fm S
      · have : h ≤ y := by rw [hye]; rw [hye] at z; split <;> rename_i g <;> simp [g] at z <;> omega
        rw [if_neg (by rw [c_ge, pk_lLE (by omega) (by omega)]; exact z), if_pos (nI_le this (by omega))]
        exact good c m fc fm S
end STR
