/-! readRow of the class beside the reference's. -/
def cRdF (f i : Nat) : Bool := i == 129 && f == 318
def mRdF (f i : Nat) : Bool := i == 133 && (f == 1261 || f == 1262 || f == 1263 || f == 1278)
theorem runR_lt {bs : Nat → Bool} {nb q n q2 : Nat} {col : Bool} (h : runR bs nb col q = some (n, q2)) : n < 1000 ∧ q ≤ q2 ∧ q2 ≤ nb := by
  unfold runR at h
  cases ho : oneR bs nb col q with
  | none => rw [ho] at h; cases h
  | some kq =>
    obtain ⟨k, qq⟩ := kq
    have hl := oneR_lt ho
    rw [ho] at h
    by_cases g : k < 64
    · simp only [if_pos g] at h
      have := (Prod.mk.injEq _ _ _ _).mp (Option.some.inj h)
      omega
    · simp only [if_neg g] at h
      cases hp : oneR bs nb col qq with
      | none => rw [hp] at h; cases h
      | some kq2 =>
        obtain ⟨k2, qq2⟩ := kq2
        have hl2 := oneR_lt hp
        rw [hp] at h
        by_cases g2 : k2 < 64
        · simp only [if_pos g2] at h
          have := (Prod.mk.injEq _ _ _ _).mp (Option.some.inj h)
          omega
        · simp only [if_neg g2] at h; cases h
theorem modes : ∀ v, v < 128 → 2 ≤ v → (mcode v = 8 ∧ mmode v = 4) ∨ (mcode v = 9 ∧ mmode v = 5) ∨ (-3 ≤ mcode v ∧ mcode v ≤ 3 ∧ mmode v = mcode v) := by decide +kernel
theorem ml_1 : ∀ v, v < 128 → 1 ≤ ml v ∧ ml v ≤ 7 := by decide +kernel
/-- a turn of the row's loop: class and reference stand alike -/
def LI (c0 m0 : Mm) (a rw w nb : Nat) (c m : Mm) (q a0 : Nat) (first col : Bool) (N : Nat → Bool) : Prop := (q ≤ nb) ∧ (gI c 318 129 = nI q) ∧ (gJ m 1278 133 = lN q) ∧ (gI m 1261 133 = nI a0) ∧ (gI m 1262 133 = cI first) ∧ (gI m 1263 133 = cI col) ∧ (a0 ≤ w) ∧ (first = true → a0 = 0) ∧ (∀ x, x < 640 → dotW (gA c a) rw x = N x) ∧ (∀ x, x < a0 → gA m 168 x = cI (N x)) ∧ (∀ x, a0 ≤ x → x < 640 → N x = false) ∧ (∀ j, j < rw ∨ rw + 20 ≤ j → gA c a j = gA c0 a j) ∧ (Fr cRdF (fun b => b == a) c0 c) ∧ (Fr mRdF (fun b => b == 168) m0 m)
theorem LI.hq {c0 m0 : Mm} {a rw w nb : Nat} {c m : Mm} {q a0 : Nat} {first col : Bool} {N : Nat → Bool} (h : LI c0 m0 a rw w nb c m q a0 first col N) : q ≤ nb := h.1
theorem LI.cq {c0 m0 : Mm} {a rw w nb : Nat} {c m : Mm} {q a0 : Nat} {first col : Bool} {N : Nat → Bool} (h : LI c0 m0 a rw w nb c m q a0 first col N) : gI c 318 129 = nI q := h.2.1
theorem LI.mq {c0 m0 : Mm} {a rw w nb : Nat} {c m : Mm} {q a0 : Nat} {first col : Bool} {N : Nat → Bool} (h : LI c0 m0 a rw w nb c m q a0 first col N) : gJ m 1278 133 = lN q := h.2.2.1
theorem LI.m1 {c0 m0 : Mm} {a rw w nb : Nat} {c m : Mm} {q a0 : Nat} {first col : Bool} {N : Nat → Bool} (h : LI c0 m0 a rw w nb c m q a0 first col N) : gI m 1261 133 = nI a0 := h.2.2.2.1
theorem LI.m2 {c0 m0 : Mm} {a rw w nb : Nat} {c m : Mm} {q a0 : Nat} {first col : Bool} {N : Nat → Bool} (h : LI c0 m0 a rw w nb c m q a0 first col N) : gI m 1262 133 = cI first := h.2.2.2.2.1
theorem LI.m3 {c0 m0 : Mm} {a rw w nb : Nat} {c m : Mm} {q a0 : Nat} {first col : Bool} {N : Nat → Bool} (h : LI c0 m0 a rw w nb c m q a0 first col N) : gI m 1263 133 = cI col := h.2.2.2.2.2.1
theorem LI.ha {c0 m0 : Mm} {a rw w nb : Nat} {c m : Mm} {q a0 : Nat} {first col : Bool} {N : Nat → Bool} (h : LI c0 m0 a rw w nb c m q a0 first col N) : a0 ≤ w := h.2.2.2.2.2.2.1
theorem LI.hf {c0 m0 : Mm} {a rw w nb : Nat} {c m : Mm} {q a0 : Nat} {first col : Bool} {N : Nat → Bool} (h : LI c0 m0 a rw w nb c m q a0 first col N) : first = true → a0 = 0 := h.2.2.2.2.2.2.2.1
theorem LI.dc {c0 m0 : Mm} {a rw w nb : Nat} {c m : Mm} {q a0 : Nat} {first col : Bool} {N : Nat → Bool} (h : LI c0 m0 a rw w nb c m q a0 first col N) : ∀ x, x < 640 → dotW (gA c a) rw x = N x := h.2.2.2.2.2.2.2.2.1
theorem LI.dm {c0 m0 : Mm} {a rw w nb : Nat} {c m : Mm} {q a0 : Nat} {first col : Bool} {N : Nat → Bool} (h : LI c0 m0 a rw w nb c m q a0 first col N) : ∀ x, x < a0 → gA m 168 x = cI (N x) := h.2.2.2.2.2.2.2.2.2.1
theorem LI.dz {c0 m0 : Mm} {a rw w nb : Nat} {c m : Mm} {q a0 : Nat} {first col : Bool} {N : Nat → Bool} (h : LI c0 m0 a rw w nb c m q a0 first col N) : ∀ x, a0 ≤ x → x < 640 → N x = false := h.2.2.2.2.2.2.2.2.2.2.1
theorem LI.out {c0 m0 : Mm} {a rw w nb : Nat} {c m : Mm} {q a0 : Nat} {first col : Bool} {N : Nat → Bool} (h : LI c0 m0 a rw w nb c m q a0 first col N) : ∀ j, j < rw ∨ rw + 20 ≤ j → gA c a j = gA c0 a j := h.2.2.2.2.2.2.2.2.2.2.2.1
theorem LI.fc {c0 m0 : Mm} {a rw w nb : Nat} {c m : Mm} {q a0 : Nat} {first col : Bool} {N : Nat → Bool} (h : LI c0 m0 a rw w nb c m q a0 first col N) : Fr cRdF (fun b => b == a) c0 c := h.2.2.2.2.2.2.2.2.2.2.2.2.1
theorem LI.fm {c0 m0 : Mm} {a rw w nb : Nat} {c m : Mm} {q a0 : Nat} {first col : Bool} {N : Nat → Bool} (h : LI c0 m0 a rw w nb c m q a0 first col N) : Fr mRdF (fun b => b == 168) m0 m := h.2.2.2.2.2.2.2.2.2.2.2.2.2
theorem LI_mk {c0 m0 : Mm} {a rw w nb : Nat} {c m : Mm} {q a0 : Nat} {first col : Bool} {N : Nat → Bool} (hq : q ≤ nb) (cq : gI c 318 129 = nI q) (mq : gJ m 1278 133 = lN q) (m1 : gI m 1261 133 = nI a0) (m2 : gI m 1262 133 = cI first) (m3 : gI m 1263 133 = cI col) (ha : a0 ≤ w) (hf : first = true → a0 = 0) (dc : ∀ x, x < 640 → dotW (gA c a) rw x = N x) (dm : ∀ x, x < a0 → gA m 168 x = cI (N x)) (dz : ∀ x, a0 ≤ x → x < 640 → N x = false) (out : ∀ j, j < rw ∨ rw + 20 ≤ j → gA c a j = gA c0 a j) (fc : Fr cRdF (fun b => b == a) c0 c) (fm : Fr mRdF (fun b => b == 168) m0 m) : LI c0 m0 a rw w nb c m q a0 first col N := ⟨hq, cq, mq, m1, m2, m3, ha, hf, dc, dm, dz, out, fc, fm⟩
def RQ (c0 m0 : Mm) (a rw w nb : Nat) : Int32 → Mm → Int32 → Mm → Prop := fun r c' s m' => ((r = 0 ∧ s = 0) ∨ (r = 1 ∧ s = 1 ∧ ∃ (N : Nat → Bool) (q' : Nat), q' ≤ nb ∧ gI c' 318 129 = nI q' ∧ gJ m' 1278 133 = lN q' ∧ (∀ x, x < 640 → dotW (gA c' a) rw x = N x) ∧ (∀ x, x < w → gA m' 168 x = cI (N x)) ∧ (∀ x, w ≤ x → x < 640 → N x = false))) ∧ (∀ j, j < rw ∨ rw + 20 ≤ j → gA c' a j = gA c0 a j) ∧ Fr cRdF (fun b => b == a) c0 c' ∧ Fr mRdF (fun b => b == 168) m0 m'
theorem StC.fr {c c' : Mm} {nb : Nat} {bs : Nat → Bool} {PF : Nat → Nat → Bool} {PA : Nat → Bool} (h : StC c nb bs) (f : Fr PF PA c c') (e1 : PF 319 129 = false) (e2 : PA 131 = false) : StC c' nb bs := by
  unfold StC; rw [f.i e1, f.a e2]; exact h
theorem RunT.fr {c c' : Mm} {PF : Nat → Nat → Bool} {PA : Nat → Bool} (h : RunT c) (f : Fr PF PA c c') (e2 : PA 132 = false) : RunT c' := by
  unfold RunT; rw [f.a e2]; exact h
theorem StM.fr {m m' : Mm} {nb : Nat} {bs : Nat → Bool} {PF : Nat → Nat → Bool} {PA : Nat → Bool} (h : StM m nb bs) (f : Fr PF PA m m') (e1 : PF 1277 133 = false) (e2 : PF 1267 133 = false) (e3 : PF 1276 133 = false) (e4 : PF 1279 133 = false) (e5 : PA 152 = false) : StM m' nb bs := by
  unfold StM; rw [f.j e1, f.i e2, f.i e3, f.i e4, f.a e5]; exact h
/-- what stands while a row is read -/
def LC (c0 m0 : Mm) (a rw w nb : Nat) (ra : Int32) (bs B : Nat → Bool) : Prop := (StC c0 nb bs) ∧ (StM m0 nb bs) ∧ (RunT c0) ∧ (Tab m0) ∧ (gI m0 1260 133 = nI w) ∧ (∀ x, x < w → gA m0 167 x = cI (B x)) ∧ (w ≤ 640) ∧ (1 ≤ w) ∧ (10 ≤ a) ∧ (a ≤ 22) ∧ (LN a = 16000) ∧ (rw + 20 ≤ 16000) ∧ ((ra = -1 ∧ ∀ x, x < w → B x = false) ∨ ∃ rb : Nat, ra = nI rb ∧ (∀ x, x < w → dotW (gA c0 a) rb x = B x) ∧ rb + 20 ≤ rw)
theorem LC.sc {c0 m0 : Mm} {a rw w nb : Nat} {ra : Int32} {bs B : Nat → Bool} (h : LC c0 m0 a rw w nb ra bs B) : StC c0 nb bs := h.1
theorem LC.sm {c0 m0 : Mm} {a rw w nb : Nat} {ra : Int32} {bs B : Nat → Bool} (h : LC c0 m0 a rw w nb ra bs B) : StM m0 nb bs := h.2.1
theorem LC.rt {c0 m0 : Mm} {a rw w nb : Nat} {ra : Int32} {bs B : Nat → Bool} (h : LC c0 m0 a rw w nb ra bs B) : RunT c0 := h.2.2.1
theorem LC.tb {c0 m0 : Mm} {a rw w nb : Nat} {ra : Int32} {bs B : Nat → Bool} (h : LC c0 m0 a rw w nb ra bs B) : Tab m0 := h.2.2.2.1
theorem LC.wm {c0 m0 : Mm} {a rw w nb : Nat} {ra : Int32} {bs B : Nat → Bool} (h : LC c0 m0 a rw w nb ra bs B) : gI m0 1260 133 = nI w := h.2.2.2.2.1
theorem LC.bm {c0 m0 : Mm} {a rw w nb : Nat} {ra : Int32} {bs B : Nat → Bool} (h : LC c0 m0 a rw w nb ra bs B) : ∀ x, x < w → gA m0 167 x = cI (B x) := h.2.2.2.2.2.1
theorem LC.hw {c0 m0 : Mm} {a rw w nb : Nat} {ra : Int32} {bs B : Nat → Bool} (h : LC c0 m0 a rw w nb ra bs B) : w ≤ 640 := h.2.2.2.2.2.2.1
theorem LC.hw1 {c0 m0 : Mm} {a rw w nb : Nat} {ra : Int32} {bs B : Nat → Bool} (h : LC c0 m0 a rw w nb ra bs B) : 1 ≤ w := h.2.2.2.2.2.2.2.1
theorem LC.ha1 {c0 m0 : Mm} {a rw w nb : Nat} {ra : Int32} {bs B : Nat → Bool} (h : LC c0 m0 a rw w nb ra bs B) : 10 ≤ a := h.2.2.2.2.2.2.2.2.1
theorem LC.ha2 {c0 m0 : Mm} {a rw w nb : Nat} {ra : Int32} {bs B : Nat → Bool} (h : LC c0 m0 a rw w nb ra bs B) : a ≤ 22 := h.2.2.2.2.2.2.2.2.2.1
theorem LC.hN {c0 m0 : Mm} {a rw w nb : Nat} {ra : Int32} {bs B : Nat → Bool} (h : LC c0 m0 a rw w nb ra bs B) : LN a = 16000 := h.2.2.2.2.2.2.2.2.2.2.1
theorem LC.hrw {c0 m0 : Mm} {a rw w nb : Nat} {ra : Int32} {bs B : Nat → Bool} (h : LC c0 m0 a rw w nb ra bs B) : rw + 20 ≤ 16000 := h.2.2.2.2.2.2.2.2.2.2.2.1
theorem LC.hra {c0 m0 : Mm} {a rw w nb : Nat} {ra : Int32} {bs B : Nat → Bool} (h : LC c0 m0 a rw w nb ra bs B) : (ra = -1 ∧ ∀ x, x < w → B x = false) ∨ ∃ rb : Nat, ra = nI rb ∧ (∀ x, x < w → dotW (gA c0 a) rb x = B x) ∧ rb + 20 ≤ rw := h.2.2.2.2.2.2.2.2.2.2.2.2
theorem LC_mk {c0 m0 : Mm} {a rw w nb : Nat} {ra : Int32} {bs B : Nat → Bool} (sc : StC c0 nb bs) (sm : StM m0 nb bs) (rt : RunT c0) (tb : Tab m0) (wm : gI m0 1260 133 = nI w) (bm : ∀ x, x < w → gA m0 167 x = cI (B x)) (hw : w ≤ 640) (hw1 : 1 ≤ w) (ha1 : 10 ≤ a) (ha2 : a ≤ 22) (hN : LN a = 16000) (hrw : rw + 20 ≤ 16000) (hra : (ra = -1 ∧ ∀ x, x < w → B x = false) ∨ ∃ rb : Nat, ra = nI rb ∧ (∀ x, x < w → dotW (gA c0 a) rb x = B x) ∧ rb + 20 ≤ rw) : LC c0 m0 a rw w nb ra bs B := ⟨sc, sm, rt, tb, wm, bm, hw, hw1, ha1, ha2, hN, hrw, hra⟩
theorem LC.row {c0 m0 : Mm} {a rw w nb : Nat} {ra : Int32} {bs B : Nat → Bool} (L : LC c0 m0 a rw w nb ra bs B) {c : Mm} (h : ∀ j, j < rw ∨ rw + 20 ≤ j → gA c a j = gA c0 a j) : ∃ P, RP (gA c a) ra P w (LN a) ∧ ∀ x, x < w → P x = B x := by
  have hw := L.hw; have hrw := L.hrw
  rcases L.hra with ⟨rfl, hB⟩ | ⟨rb, rfl, hB, h2⟩
  · exact ⟨fun _ => false, Or.inl ⟨rfl, rfl⟩, fun x hx => (hB x hx).symm⟩
  · refine ⟨dotW (gA c a) rb, Or.inr ⟨rb, rfl, rfl, by rw [L.hN]; omega⟩, fun x hx => ?_⟩
    rw [← hB x hx]
    unfold dotW
    rw [h _ (Or.inl (by omega))]
theorem P2_rloop {c0 m0 : Mm} {a rw w nb : Nat} {ra : Int32} {bs B : Nat → Bool} (L : LC c0 m0 a rw w nb ra bs B) : ∀ (n q k a0 : Nat) (first col : Bool) (N : Nat → Bool) (c m : Mm), nb - q < n → k + (nb - q) < 1000000 → LI c0 m0 a rw w nb c m q a0 first col N → P2 (f_X3_readRow_l16 n a (nI rw) ra (nI w) (if first then -1 else nI a0) (cI col) (nI k) c) (f_X12_readRow__l15 n m) (RQ c0 m0 a rw w nb) := by
  intro n
  induction n with
  | zero => intro q k a0 first col N c m h; omega
  | succ n ih =>
    intro q k a0 first col N c m hn hk I
    have hw := L.hw; have hw1 := L.hw1; have hrw := L.hrw; have ha1 := L.ha1; have ha2 := L.ha2
    have hnb := L.sc.2.1
    have hq := I.hq; have haw := I.ha
    have a131 : (fun b => b == a) 131 = false := by show (131 == a) = false; simp; omega
    have a132 : (fun b => b == a) 132 = false := by show (132 == a) = false; simp; omega
    have sc : StC c nb bs := L.sc.fr I.fc rfl a131
    have rt : RunT c := L.rt.fr I.fc a132
    have sm : StM m nb bs := L.sm.fr I.fm rfl rfl rfl rfl rfl
    have tb : Tab m := L.tb.fr I.fm rfl rfl
    have wm : gI m 1260 133 = nI w := by rw [I.fm.i rfl]; exact L.wm
    have bm : ∀ x, x < w → gA m 167 x = cI (B x) := fun x hx => by rw [I.fm.a rfl]; exact L.bm x hx
    have evc : f_X3_readRow_l16 (n + 1) a (nI rw) ra (nI w) (if first then -1 else nI a0) (cI col) (nI k) c = f_X3_readRow_b16 (f_X3_readRow_l16 n) a (nI rw) ra (nI w) (if first then -1 else nI a0) (cI col) (nI k) c := rfl
    have evm : f_X12_readRow__l15 (n + 1) m = f_X12_readRow__b15 (f_X12_readRow__l15 n) m := rfl
    rw [evc, evm]
    have hz : ∃ az : Int, (if first then -1 else nI a0 : Int32) = iz az ∧ az = (if first then -1 else (a0 : Int)) := by
      cases first
      · exact ⟨a0, nI_iz a0, rfl⟩
      · exact ⟨-1, iz_m1, rfl⟩
    have hfr : (if first then -1 else nI a0 : Int32) = nI (if first then 0 else a0 + 1) - 1 := by
      cases first
      · exact (pk_sub (a := a0 + 1) (b := 1) (by omega)).symm
      · rfl
    have hmx : (if (if first then -1 else nI a0 : Int32) < 0 then 0 else (if first then -1 else nI a0 : Int32)) = nI a0 := by
      cases hf : first
      · rw [if_neg (show ¬ (if false then -1 else nI a0 : Int32) < 0 from nI_pos (by omega))]; rfl
      · rw [I.hf hf]; rfl
    have stop : RQ c0 m0 a rw w nb 1 c 1 m ∨ a0 < w := by
      rcases Nat.lt_or_ge a0 w with h | h
      · exact Or.inr h
      · have e : a0 = w := by omega
        refine Or.inl ⟨Or.inr ⟨rfl, rfl, N, q, hq, I.cq, I.mq, I.dc, fun x hx => I.dm x (by omega), fun x h1 h2 => I.dz x (by omega) h2⟩, I.out, I.fc, I.fm⟩
    unfold f_X3_readRow_b16 f_X12_readRow__b15
    rw [if_neg (show ¬ (1000000 : Int32) ≤ nI k from nI_ge (b := 1000000) (by omega) (by omega)), wm, I.m1]
    rcases Nat.lt_or_ge a0 w with hlt | hge
    · obtain ⟨az, ez, dz⟩ := hz
      have baz : -1 ≤ az ∧ az ≤ 640 := by rw [dz]; split <;> omega
      rw [if_neg (show ¬ nI w ≤ (if first then -1 else nI a0 : Int32) from by rw [ez, nI_iz, iz_le (by omega) (by omega) (by omega) (by omega), dz]; split <;> omega), if_neg (nI_ge hlt (by omega)), f_max, bd_eq, hmx]
      obtain ⟨P, hP, hPB⟩ := L.row (c := c) I.out
      have hfr2 : (if first then 0 else a0 + 1) ≤ w := by split <;> omega
      rw [hfr, f_fc hP (by rw [L.hN]; omega) (by omega) hfr2, bd_eq, fch_congr hfr2 hPB]
      generalize hfrv : (if first then 0 else a0 + 1) = fr at hfr hfr2
      have hb1 := fch_le (B := B) (col := col) (k := fr) (w := w)
      have hb1g := fch_ge (B := B) (col := col) hfr2
      have hb1c := fch_col (B := B) (col := col) (k := fr) (w := w)
      have hfa : a0 ≤ fr := by
        rw [← hfrv]; cases hf : first
        · simp
        · rw [I.hf hf]; simp
      generalize hb1v : fch B col fr w = b1 at hb1 hb1g hb1c
      have hb1m : ∀ m', gI m' 1260 133 = nI w → (∀ x, x < w → gA m' 167 x = cI (B x)) → gI m' 1261 133 = nI a0 → gI m' 1262 133 = cI first → gI m' 1263 133 = cI col → f_X12_b1 m' = some (nI b1, m') := fun m' h1 h2 h3 h4 h5 => by rw [n_b1 h1 h2 hw h3 h4 h5 hfrv.symm (by omega), hb1v]
      have hv := pkb_lt bs q 7
      obtain ⟨x, em, ex⟩ := m_mode sm I.mq (by omega) sc.2.2.2.2
      rw [c_mode sc I.cq (by omega), em]
      generalize pkb bs q 7 = v at hv ex
      have hml := ml_1 v hv
      have bad : ∀ cx x', RQ c0 m0 a rw w nb 0 (uI c 318 129 cx) 0 (uJ m 1278 133 x') := fun cx x' => ⟨Or.inl ⟨rfl, rfl⟩, I.out, I.fc.uI cx (by rfl), I.fm.uJ x' (by rfl)⟩
      by_cases good : 2 ≤ v ∧ q + ml v ≤ nb
      · obtain ⟨g1, g2⟩ := good
        rw [if_neg (show ¬ v < 2 by omega), if_pos g2, bd_eq, if_pos (show 2 ≤ v ∧ q + ml v ≤ nb from ⟨g1, g2⟩), bd_eq, ex ⟨g1, g2⟩]
        generalize hL : ml v = l at g2 hml
        -- the states after the mode
        have sc1 : StC (uI c 318 129 (nI (q + l))) nb bs := sc
        have sm1 : StM (uJ m 1278 133 (lN (q + l))) nb bs := sm
        -- one turn more
        have go : ∀ (q' t1 t2 : Nat) (v5 : Int32) (m' : Mm) (N' : Nat → Bool) (cx : Int32), q + l ≤ q' → q' ≤ nb → cx = nI q' → a0 ≤ t1 → t1 ≤ t2 → t2 ≤ w → (∀ x, N' x = (N x || (if a0 ≤ x ∧ x < t1 then col else if t1 ≤ x ∧ x < t2 then !col else false))) → gJ m' 1278 133 = lN q' → gI m' 1261 133 = nI t2 → gI m' 1262 133 = 0 → gI m' 1263 133 = cI (if 3 < v5 then col else !col) → (∀ x, x < t2 → gA m' 168 x = cI (N' x)) → Fr mRdF (fun b => b == 168) m0 m' → P2 (f_X3_readRow_181 (f_X3_readRow_l16 n) a (nI rw) ra (nI w) (nI t2) (cI col) (nI k) (nI a0) v5 (nI t1) (uI c 318 129 cx)) (f_X12_readRow__l15 n m') (RQ c0 m0 a rw w nb) := by
          intro q' t1 t2 v5 m' N' cx hq1 hq2 hcx h1 h2 h3 hN' e1 e2 e3 e4 e5 hf'
          obtain ⟨g, eg, r1, r2⟩ := c_181 (a := a) (rw := rw) (w := w) (col := col) (c := uI c 318 129 cx) (ra := ra) (k := nI k) (v5 := v5) L.hN hrw hw h1 h2 h3 (f_X3_readRow_l16 n)
          rw [eg, nI_1]
          have := ih q' (k + 1) t2 false (if 3 < v5 then col else !col) N' (vA (uI c 318 129 cx) a g) m' (by omega) (by omega)
            (LI_mk (hq := hq2)
              (cq := by rw [show gI (vA (uI c 318 129 cx) a g) 318 129 = gI (uI c 318 129 cx) 318 129 from rfl, gI_uI, if_pos ⟨rfl, rfl⟩, hcx])
              (mq := e1)
              (m1 := e2)
              (m2 := e3)
              (m3 := e4)
              (ha := h3)
              (hf := fun z => by cases z)
              (dc := fun x hx => by rw [gA_vA_s, r1 x, hN' x, show gA (uI c 318 129 cx) a = gA c a from rfl, I.dc x hx])
              (dm := e5)
              (dz := fun x hx1 hx2 => by rw [hN' x, I.dz x (by omega) hx2, if_neg (by omega), if_neg (by omega)]; rfl)
              (out := fun j hj => by rw [gA_vA_s, r2 j hj]; exact I.out j hj)
              (fc := (I.fc.uI cx (by rfl)).vA g (by show (a == a) = true; simp))
              (fm := hf'))
          exact this
        rcases modes v hv g1 with ⟨d1, d2⟩ | ⟨d1, d2⟩ | ⟨d1, d1', d2⟩
        · -- pass
          rw [d1, d2, if_pos (show iz 8 = 8 from rfl), if_neg (show ¬ iz 4 = 6 by decide), if_neg (show ¬ iz 4 = 5 by decide), if_pos (show iz 4 = 4 from rfl)]
          obtain ⟨P1, hP1, hPB1⟩ := L.row (c := uI c 318 129 (nI (q + l))) I.out
          rw [one_cI, f_fo' hP1 (by rw [L.hN]; omega) (by omega) (by omega), bd_eq, fo_congr hb1 hPB1]
          rw [hb1m (uJ m 1278 133 (lN (q + l))) wm bm I.m1 I.m2 I.m3, bd_eq, n_b2 (B := B) (col := col) (m := uJ m 1278 133 (lN (q + l))) wm bm hw hb1 hb1c, bd_eq]
          have hg := fo_ge (P := B) (c := !col) hb1
          have hle := fo_le (P := B) (c := !col) (fr := b1) (wd := w)
          generalize fo B b1 w (!col) = b2 at hg hle
          obtain ⟨m', r1, r2, r3, r4⟩ := n_paint (a0 := a0) (t := b2) (b := col) (m := uJ m 1278 133 (lN (q + l))) (by omega) (by omega) I.m1
          rw [show gI (uJ m 1278 133 (lN (q + l))) 1263 133 = cI col from I.m3, r1, bd_eq, lb_eq]
          refine go (q + l) b2 b2 8 _ (fun x => if a0 ≤ x ∧ x < b2 then col else N x) _ (Nat.le_refl _) g2 rfl (by omega) (Nat.le_refl _) hle (fun x => ?_) ?_ ?_ ?_ ?_ (fun x hx => ?_) ?_
          · show (if a0 ≤ x ∧ x < b2 then col else N x) = _
            by_cases z : a0 ≤ x ∧ x < b2
            · rw [if_pos z, if_pos z, I.dz x z.1 (by omega), Bool.false_or]
            · rw [if_neg z, if_neg z, if_neg (by omega), Bool.or_false]
          · show gJ m' 1278 133 = _
            rw [r4.j rfl, gJ_uJ, if_pos ⟨rfl, rfl⟩]
          · rw [gI_uI, if_neg (by decide)]; exact r2
          · rw [gI_uI, if_pos ⟨rfl, rfl⟩]
          · rw [gI_uI, if_neg (by decide), r4.i rfl, if_pos (show (3 : Int32) < 8 by decide)]; exact I.m3
          · show gA m' 168 x = cI (if a0 ≤ x ∧ x < b2 then col else N x)
            rw [r3 x]
            by_cases z : a0 ≤ x ∧ x < b2
            · rw [if_pos z, if_pos z]
            · rw [if_neg z, if_neg z]; exact I.dm x (by omega)
          · exact ((I.fm.uJ (lN (q + l)) (by rfl)).trans (r4.weak (fun f i e => by unfold mRdF at e; unfold mPtF; revert e; simp; omega) (fun _ e => e))).uI 0 (by rfl)
        · -- horizontal
          rw [d1, d2, if_neg (show ¬ iz 9 = 8 by decide), if_pos (show iz 9 = 9 from rfl), if_neg (show ¬ iz 5 = 6 by decide), if_pos (show iz 5 = 5 from rfl)]
          have rt1 : RunT (uI c 318 129 (nI (q + l))) := rt
          have tb1 : Tab (uJ m 1278 133 (lN (q + l))) := tb
          obtain ⟨q1, w1, w2, w3⟩ := c_readRun (c := uI c 318 129 (nI (q + l))) (q := q + l) sc1 rt1 (by rw [gI_uI, if_pos ⟨rfl, rfl⟩]) (by omega) col
          obtain ⟨y1, u2, u3⟩ := m_readRun (m := uJ m 1278 133 (lN (q + l))) (q := q + l) sm1 tb1 (by rw [gJ_uJ, if_pos ⟨rfl, rfl⟩]) (by omega) col
          rw [w2, bd_eq, one_cI, uI_same, show gI (uJ m 1278 133 (lN (q + l))) 1263 133 = cI col from I.m3, u2, bd_eq, uJ_same]
          have sc2 : StC (uI c 318 129 (nI q1)) nb bs := sc
          have rt2 : RunT (uI c 318 129 (nI q1)) := rt
          obtain ⟨q2, w4, w5, w6⟩ := c_readRun (c := uI c 318 129 (nI q1)) (q := q1) sc2 rt2 (by rw [gI_uI, if_pos ⟨rfl, rfl⟩]) (by omega) (!col)
          rw [w5, bd_eq, lb_eq, lb_eq, uI_same]
          cases ho : runR bs nb col (q + l) with
          | none =>
            rw [show rrv none = -1 from rfl, if_pos (show (-1 : Int32) < 0 by decide), if_pos (show (-1 : Int32) = -1 from rfl)]
            unfold f_X12_readRow__72
            rw [if_pos rfl]
            exact P2_ret (bad _ _)
          | some rq =>
            obtain ⟨r1, p1⟩ := rq
            have e1 := w3 r1 p1 ho
            have e2 := u3 r1 p1 ho
            subst e1; subst e2
            have hr1 := runR_lt ho
            have sm2 : StM (uJ m 1278 133 (lN q1)) nb bs := sm
            have tb2 : Tab (uJ m 1278 133 (lN q1)) := tb
            obtain ⟨y2, u5, u6⟩ := m_readRun (m := uJ m 1278 133 (lN q1)) (q := q1) sm2 tb2 (by rw [gJ_uJ, if_pos ⟨rfl, rfl⟩]) (by omega) (!col)
            have hm1 : ∀ k, k < 1000 → ¬ nI k = -1 := fun k hk e => by
              have h1 : ¬ nI k < 0 := nI_pos (by omega)
              rw [e] at h1; exact h1 (by decide)
            rw [show rrv (some (r1, q1)) = nI r1 from rfl, if_neg (show ¬ nI r1 < 0 from nI_pos (by omega)), if_neg (hm1 r1 hr1.1), show gI (uJ m 1278 133 (lN q1)) 1263 133 = cI col from I.m3, one_cI, u5, bd_eq, uJ_same]
            unfold f_X12_readRow__72
            cases hp : runR bs nb (!col) q1 with
            | none =>
              rw [show rrv none = -1 from rfl, if_pos (show (-1 : Int32) < 0 by decide), if_pos (show (-1 : Int32) = -1 from rfl)]
              exact P2_ret (bad _ _)
            | some rq =>
              obtain ⟨r2, p2⟩ := rq
              have e1 := w6 r2 p2 hp
              have e2 := u6 r2 p2 hp
              subst e1; subst e2
              have hr2 := runR_lt hp
              rw [show rrv (some (r2, q2)) = nI r2 from rfl, if_neg (show ¬ nI r2 < 0 from nI_pos (by omega)), if_neg (hm1 r2 hr2.1), show gI (uJ m 1278 133 (lN q2)) 1261 133 = nI a0 from I.m1, show gI (uJ m 1278 133 (lN q2)) 1260 133 = nI w from wm, nI_add, nI_add]
              by_cases z : a0 + r1 + r2 ≤ w
              · rw [if_pos (nI_le z (by omega)), if_pos (nI_le z (by omega))]
                obtain ⟨m', s1, s2, s3, s4⟩ := n_paint (a0 := a0) (t := a0 + r1) (b := col) (m := uJ m 1278 133 (lN q2)) (by omega) (by omega) I.m1
                rw [show gI (uJ m 1278 133 (lN q2)) 1263 133 = cI col from I.m3, s1, bd_eq, s2, nI_add, s4.i rfl, show gI (uJ m 1278 133 (lN q2)) 1263 133 = cI col from I.m3, one_cI]
                obtain ⟨m2, s5, s6, s7, s8⟩ := n_paint (a0 := a0 + r1) (t := a0 + r1 + r2) (b := !col) (m := m') (by omega) (by omega) s2
                rw [s5, bd_eq, lb_eq]
                refine go q2 (a0 + r1) (a0 + r1 + r2) (iz 9) _ (fun x => if a0 ≤ x ∧ x < a0 + r1 then col else if a0 + r1 ≤ x ∧ x < a0 + r1 + r2 then !col else N x) _ (by omega) hr2.2.2 rfl (by omega) (by omega) z (fun x => ?_) ?_ ?_ ?_ ?_ (fun x hx => ?_) ?_
                · show (if a0 ≤ x ∧ x < a0 + r1 then col else if a0 + r1 ≤ x ∧ x < a0 + r1 + r2 then !col else N x) = _
                  by_cases z1 : a0 ≤ x ∧ x < a0 + r1
                  · rw [if_pos z1, if_pos z1, I.dz x z1.1 (by omega), Bool.false_or]
                  · rw [if_neg z1, if_neg z1]
                    by_cases z2 : a0 + r1 ≤ x ∧ x < a0 + r1 + r2
                    · rw [if_pos z2, if_pos z2, I.dz x (by omega) (by omega), Bool.false_or]
                    · rw [if_neg z2, if_neg z2, Bool.or_false]
                · show gJ m2 1278 133 = _
                  rw [s8.j rfl, s4.j rfl, gJ_uJ, if_pos ⟨rfl, rfl⟩]
                · rw [gI_uI, if_neg (by decide)]; exact s6
                · rw [gI_uI, if_pos ⟨rfl, rfl⟩]
                · rw [gI_uI, if_neg (by decide), s8.i rfl, s4.i rfl, if_pos (show (3 : Int32) < iz 9 by decide)]; exact I.m3
                · show gA m2 168 x = cI (if a0 ≤ x ∧ x < a0 + r1 then col else if a0 + r1 ≤ x ∧ x < a0 + r1 + r2 then !col else N x)
                  rw [s7 x, s3 x]
                  by_cases z1 : a0 ≤ x ∧ x < a0 + r1
                  · rw [if_pos z1, if_neg (by omega), if_pos z1]
                  · rw [if_neg z1]
                    by_cases z2 : a0 + r1 ≤ x ∧ x < a0 + r1 + r2
                    · rw [if_pos z2, if_neg z1, if_pos z2]
                    · rw [if_neg z2, if_neg z2, if_neg z1]; exact I.dm x (by omega)
                · have wk : ∀ f i, mRdF f i = false → mPtF f i = false := fun f i e => by unfold mRdF at e; unfold mPtF; revert e; simp; omega
                  exact (((I.fm.uJ (lN q2) (by rfl)).trans (s4.weak wk (fun _ e => e))).trans (s8.weak wk (fun _ e => e))).uI 0 (by rfl)
              · rw [if_neg (nI_ge (by omega) (by omega)), if_neg (nI_ge (by omega) (by omega))]
                exact P2_ret (bad _ _)
        · -- vertical
          rw [d2]
          generalize mcode v = d at d1 d1'
          have ne : ∀ e : Int, 4 ≤ e → e < 100 → ¬ iz d = iz e := fun e h1 h2 h3 => by
            rw [iz_inj (by omega) (by omega) (by omega) (by omega)] at h3; omega
          rw [if_neg (show ¬ iz d = 8 from ne 8 (by omega) (by omega)), if_neg (show ¬ iz d = 9 from ne 9 (by omega) (by omega)), lb_eq, if_neg (show ¬ iz d = 10 from ne 10 (by omega) (by omega)), if_neg (show ¬ iz d = 6 from ne 6 (by omega) (by omega)), if_neg (show ¬ iz d = 5 from ne 5 (by omega) (by omega)), if_neg (show ¬ iz d = 4 from ne 4 (by omega) (by omega))]
          rw [hb1m (uJ m 1278 133 (lN (q + l))) wm bm I.m1 I.m2 I.m3, bd_eq, lb_eq, show nI b1 + iz d = iz ((b1 : Int) + d) from by rw [nI_iz, iz_add], show gI (uJ m 1278 133 (lN (q + l))) 1260 133 = nI w from wm, show gI (uJ m 1278 133 (lN (q + l))) 1261 133 = nI a0 from I.m1, show gI (uJ m 1278 133 (lN (q + l))) 1262 133 = cI first from I.m2, ← hfr, ez]
          generalize hz : (b1 : Int) + d = z
          have haz : az ≤ (a0 : Int) ∧ (a0 : Int) ≤ az + 1 := by
            rw [dz]; cases hf : first
            · exact ⟨by simp, by simp; omega⟩
            · rw [I.hf hf]; simp
          have lw : iz z ≤ nI w ↔ z ≤ (w : Int) := by rw [nI_iz]; exact iz_le (by omega) (by omega) (by omega) (by omega)
          have gw : nI w < iz z ↔ (w : Int) < z := by rw [nI_iz]; exact iz_lt (by omega) (by omega) (by omega) (by omega)
          have la : iz z ≤ iz az ↔ z ≤ az := iz_le (by omega) (by omega) (by omega) (by omega)
          have l0 : iz z < nI a0 ↔ z < (a0 : Int) := by rw [nI_iz]; exact iz_lt (by omega) (by omega) (by omega) (by omega)
          have eq0 : iz z = nI a0 ↔ z = (a0 : Int) := by rw [nI_iz]; exact iz_inj (by omega) (by omega) (by omega) (by omega)
          by_cases zok : az < z ∧ z ≤ (w : Int)
          · obtain ⟨z1, z2⟩ := zok
            obtain ⟨t, ht⟩ : ∃ t : Nat, z = (t : Int) := ⟨z.toNat, by omega⟩
            subst ht
            have hat : a0 ≤ t := by omega
            rw [if_neg (fun y => by have := la.mp y; omega), if_pos (lw.mpr z2), if_neg (fun y => by have := gw.mp y; omega), if_neg (fun y => by have := l0.mp y; omega)]
            have e192 : (if iz (t : Int) = nI a0 then if cI first = 0 then some ((0 : Int32), uJ m 1278 133 (lN (q + l))) else f_X12_readRow__192 (f_X12_readRow__l15 n) (iz (t : Int)) (uJ m 1278 133 (lN (q + l))) else f_X12_readRow__192 (f_X12_readRow__l15 n) (iz (t : Int)) (uJ m 1278 133 (lN (q + l)))) = f_X12_readRow__192 (f_X12_readRow__l15 n) (nI t) (uJ m 1278 133 (lN (q + l))) := by
              rw [← nI_iz]
              by_cases y : nI t = nI a0
              · have y2 := eq0.mp (by rw [← nI_iz]; exact y)
                have hft : first = true := by
                  cases hf : first
                  · rw [hf] at dz; simp at dz; omega
                  · rfl
                rw [if_pos y, hft, if_neg (by decide)]
              · rw [if_neg y]
            rw [e192, ← nI_iz]
            unfold f_X12_readRow__192
            have htw : t ≤ w := by omega
            obtain ⟨m', r1, r2, r3, r4⟩ := n_paint (a0 := a0) (t := t) (b := col) (m := uJ m 1278 133 (lN (q + l))) hat (by omega) I.m1
            rw [show gI (uJ m 1278 133 (lN (q + l))) 1263 133 = cI col from I.m3, r1, bd_eq, lb_eq, lb_eq, r4.i rfl, show gI (uJ m 1278 133 (lN (q + l))) 1263 133 = cI col from I.m3, one_cI]
            refine go (q + l) t t (iz d) _ (fun x => if a0 ≤ x ∧ x < t then col else N x) _ (Nat.le_refl _) g2 rfl hat (Nat.le_refl _) htw (fun x => ?_) ?_ ?_ ?_ ?_ (fun x hx => ?_) ?_
            · show (if a0 ≤ x ∧ x < t then col else N x) = _
              by_cases y : a0 ≤ x ∧ x < t
              · rw [if_pos y, if_pos y, I.dz x y.1 (by omega), Bool.false_or]
              · rw [if_neg y, if_neg y, if_neg (by omega), Bool.or_false]
            · show gJ m' 1278 133 = _
              rw [r4.j rfl, gJ_uJ, if_pos ⟨rfl, rfl⟩]
            · rw [gI_uI, if_neg (by decide), gI_uI, if_neg (by decide)]; exact r2
            · rw [gI_uI, if_pos ⟨rfl, rfl⟩]
            · rw [gI_uI, if_neg (by decide), gI_uI, if_pos ⟨rfl, rfl⟩, if_neg (show ¬ (3 : Int32) < iz d from fun y => by rw [show (3 : Int32) = iz 3 from rfl, iz_lt (by omega) (by omega) (by omega) (by omega)] at y; omega)]
            · show gA m' 168 x = cI (if a0 ≤ x ∧ x < t then col else N x)
              rw [r3 x]
              by_cases y : a0 ≤ x ∧ x < t
              · rw [if_pos y, if_pos y]
              · rw [if_neg y, if_neg y]; exact I.dm x (by omega)
            · exact (((I.fm.uJ (lN (q + l)) (by rfl)).trans (r4.weak (fun f i e => by unfold mRdF at e; unfold mPtF; revert e; simp; omega) (fun _ e => e))).uI _ (by rfl)).uI 0 (by rfl)
          · have ec : ∀ X : Option (Int32 × Mm), (if iz z ≤ iz az then some ((0 : Int32), uI c 318 129 (nI (q + l))) else if iz z ≤ nI w then X else some ((0 : Int32), uI c 318 129 (nI (q + l)))) = some ((0 : Int32), uI c 318 129 (nI (q + l))) := by
              intro X
              by_cases y : iz z ≤ iz az
              · rw [if_pos y]
              · rw [if_neg y, if_neg]
                intro y2
                have := lw.mp y2
                exact zok ⟨by have : ¬ z ≤ az := fun e => y (la.mpr e); omega, this⟩
            have em2 : ∀ X : Option (Int32 × Mm), (if nI w < iz z then some ((0 : Int32), uJ m 1278 133 (lN (q + l))) else if iz z < nI a0 then some ((0 : Int32), uJ m 1278 133 (lN (q + l))) else if iz z = nI a0 then if cI first = 0 then some ((0 : Int32), uJ m 1278 133 (lN (q + l))) else X else X) = some ((0 : Int32), uJ m 1278 133 (lN (q + l))) := by
              intro X
              by_cases y : (w : Int) < z
              · rw [if_pos (gw.mpr y)]
              · rw [if_neg (fun e => y (gw.mp e))]
                by_cases y2 : z < (a0 : Int)
                · rw [if_pos (l0.mpr y2)]
                · have hle : z ≤ az := by
                    by_cases y3 : z ≤ az
                    · exact y3
                    · exact absurd ⟨by omega, by omega⟩ zok
                  have : z = (a0 : Int) := by omega
                  have hff : first = false := by
                    cases hf : first
                    · rfl
                    · rw [hf] at dz; simp at dz; omega
                  rw [if_neg (fun e => y2 (l0.mp e)), if_pos (eq0.mpr this), hff, if_pos (by decide)]
            rw [ec, em2]
            exact P2_ret (bad _ _)
      · by_cases h2 : v < 2
        · rw [if_pos h2, bd_eq, if_neg good, bd_eq, if_neg (show ¬ (10 : Int32) = 8 by decide), if_neg (show ¬ (10 : Int32) = 9 by decide), lb_eq, if_pos (show (10 : Int32) = 10 from rfl), if_pos (show (6 : Int32) = 6 from rfl)]
          exact P2_ret ⟨Or.inl ⟨rfl, rfl⟩, I.out, I.fc, I.fm.uJ x (by rfl)⟩
        · rw [if_neg h2, if_neg (show ¬ q + ml v ≤ nb from fun y => good ⟨by omega, y⟩), bd_eq, if_neg good, bd_eq, if_neg (show ¬ (10 : Int32) = 8 by decide), if_neg (show ¬ (10 : Int32) = 9 by decide), lb_eq, if_pos (show (10 : Int32) = 10 from rfl), if_pos (show (6 : Int32) = 6 from rfl)]
          exact P2_ret (bad _ _)
    · have e : a0 = w := by omega
      rw [if_pos (nI_le hge (by omega))]
      refine P2_el (a' := some (1, c)) ?_ (P2_ret (stop.resolve_right (by omega)))
      cases hf : first
      · rw [if_pos (show nI w ≤ (if false then -1 else nI a0 : Int32) from nI_le (by omega) (by omega))]
      · have := I.hf hf; omega
