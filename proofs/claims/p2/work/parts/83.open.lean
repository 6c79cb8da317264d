/-! A strip is opened, on both sides. -/
def stB (F : Nat → Nat) (off len : Nat) (tu : Bool) (t : Nat) : Bool := if t < 8 * len then (F (off + t / 8)).testBit (if tu then t % 8 else 7 - t % 8) else false
def cOpF (f i : Nat) : Bool := i == 129 && (f == 318 || f == 319)
def rv8 (v : Int32) : Int32 := (((((((v &&& 240) >>> ((4 : Int32) &&& 31)) ||| ((v &&& 15) <<< ((4 : Int32) &&& 31))) &&& 204) >>> ((2 : Int32) &&& 31)) ||| (((((v &&& 240) >>> ((4 : Int32) &&& 31)) ||| ((v &&& 15) <<< ((4 : Int32) &&& 31))) &&& 51) <<< ((2 : Int32) &&& 31))) &&& 170) >>> ((1 : Int32) &&& 31) ||| ((((((((v &&& 240) >>> ((4 : Int32) &&& 31)) ||| ((v &&& 15) <<< ((4 : Int32) &&& 31))) &&& 204) >>> ((2 : Int32) &&& 31)) ||| (((((v &&& 240) >>> ((4 : Int32) &&& 31)) ||| ((v &&& 15) <<< ((4 : Int32) &&& 31))) &&& 51) <<< ((2 : Int32) &&& 31))) &&& 85) <<< ((1 : Int32) &&& 31))
set_option maxRecDepth 100000 in
theorem rv8_bt : ∀ v, v < 256 → ∀ k, k < 8 → bt (rv8 (nI v)) k = v.testBit (7 - k) := by decide +kernel
theorem c_open {c : Mm} {st sz off len fo : Nat} {F : Nat → Nat} (h : PicC c st sz F) (hl : off + len ≤ sz) (hfo : gJ c 313 129 = lN fo) (hfo2 : fo < 2 ^ 40) : ∃ c', f_X3_openStrip (nI off) (nI len) c = some ((), c') ∧ StC c' (8 * len) (stB F off len (decide (fo = 2))) ∧ gI c' 318 129 = nI 0 ∧ Fr cOpF (fun b => b == 131) c c' := by
  have hsz := h.2.2.2.1
  have hF := h.2.2.2.2.2.1
  have hq : lg_cmp (lN fo) 2 = 0 ↔ fo = 2 := by
    rw [c_eq]
    constructor
    · intro e
      have h1 : lN fo ≤ lN 2 := by rw [e]; exact Int64.le_refl _
      have h2 : lN 2 ≤ lN fo := by rw [e]; exact Int64.le_refl _
      rw [pk_lLE (by omega) (by omega)] at h1 h2
      omega
    · intro e; rw [e]; rfl
  have go : ∀ n i T, i ≤ len → len - i < n → Fr (fun _ _ => false) (fun b => b == 131) c T → (∀ t, t < 8 * i → bt (gA T 131 (t / 8)) (7 - t % 8) = stB F off len (decide (fo = 2)) t) → ∃ T', f_X3_openStrip_l2 n (nI off) (nI len) (nI i) T = f_X3_openStrip_106 (nI len) T' ∧ Fr (fun _ _ => false) (fun b => b == 131) c T' ∧ (∀ t, t < 8 * len → bt (gA T' 131 (t / 8)) (7 - t % 8) = stB F off len (decide (fo = 2)) t) := by
    intro n
    induction n with
    | zero => intro i T _ h; omega
    | succ n ih =>
      intro i T hi hn f hb
      have ev : f_X3_openStrip_l2 (n + 1) (nI off) (nI len) (nI i) T = f_X3_openStrip_b2 (f_X3_openStrip_l2 n) (nI off) (nI len) (nI i) T := rfl
      rw [ev]
      unfold f_X3_openStrip_b2
      rcases Nat.lt_or_ge i len with hlt | hge
      · rw [if_neg (nI_ge hlt (by omega)), if_neg (show ¬ (12000 : Int32) ≤ nI i from nI_ge (b := 12000) (by omega) (by omega)), nI_add, nI_l (by omega), pic_byte (h.fr f rfl rfl rfl rfl) (by omega), bd_eq, show gJ T 313 129 = lN fo from by rw [f.j rfl]; exact hfo]
        have hFi := hF (off + i)
        have st : ∀ v : Int32, (∀ k, k < 8 → bt v k = (F (off + i)).testBit (if fo = 2 then 7 - k else k)) → ∃ T', f_X3_openStrip_l2 n (nI off) (nI len) (nI i + 1) (uA T 131 i (v.toInt8.toInt32).toInt8.toInt32) = f_X3_openStrip_106 (nI len) T' ∧ Fr (fun _ _ => false) (fun b => b == 131) c T' ∧ (∀ t, t < 8 * len → bt (gA T' 131 (t / 8)) (7 - t % 8) = stB F off len (decide (fo = 2)) t) := by
          intro v hv
          rw [nI_1]
          refine ih (i + 1) _ (by omega) (by omega) (f.uA i _ (by rfl)) (fun t ht => ?_)
          rw [gA_uA]
          by_cases z : t / 8 = i
          · rw [if_pos ⟨rfl, z⟩, i8_bt _ (by omega), i8_bt _ (by omega), hv _ (by omega)]
            unfold stB
            rw [if_pos (show t < 8 * len by omega), z]
            by_cases g : fo = 2
            · rw [if_pos g, decide_eq_true g, if_pos rfl, show 7 - (7 - t % 8) = t % 8 by omega]
            · rw [if_neg g, decide_eq_false g, if_neg (by decide)]
          · rw [if_neg (fun y => z y.2)]; exact hb t (by omega)
        by_cases g : fo = 2
        · rw [if_pos (hq.mpr g), lb_eq, lb_eq, lb_eq, ix_in (j := i) (nI_pos (by omega)) (nI_clamp (by omega)) (by omega), lb_eq]
          exact st (rv8 (nI (F (off + i)))) (fun k hk => by rw [rv8_bt _ hFi k hk, if_pos g])
        · rw [if_neg (fun y => g (hq.mp y)), ix_in (j := i) (nI_pos (by omega)) (nI_clamp (by omega)) (by omega), lb_eq]
          exact st (nI (F (off + i))) (fun k hk => by rw [nI_bt (by omega), if_neg g])
      · have : i = len := by omega
        subst this
        rw [if_pos (nI_le (Nat.le_refl _) (by omega))]
        exact ⟨T, rfl, f, hb⟩
  obtain ⟨T', e, f, hb⟩ := go FU 0 c (by omega) (FU_gt (by omega)) Fr.refl (fun t ht => by omega)
  unfold f_X3_openStrip
  rw [show (0 : Int32) = nI 0 from rfl, e]
  unfold f_X3_openStrip_106
  rw [lb_eq, f_min, bd_eq, lb_eq, if_neg (show ¬ (12000 : Int32) < nI len from nI_nlt (a := 12000) (b := len) (by omega) (by omega)), show (8 : Int32) * nI len = nI (8 * len) from pk_mul 8 len]
  refine ⟨_, rfl, ⟨?_, by omega, by omega, hb, fun t ht => by unfold stB; rw [if_neg (by omega)]⟩, ?_, ?_⟩
  · rw [gI_uI, if_pos ⟨rfl, rfl⟩]
  · rw [gI_uI, if_neg (by decide), gI_uI, if_pos ⟨rfl, rfl⟩]; rfl
  · exact ((f.weak (fun _ _ _ => rfl) (fun _ e => e)).uI _ (by rfl)).uI _ (by rfl)
def mOpF (f i : Nat) : Bool := i == 133 && (f == 1276 || f == 1277 || f == 1278 || f == 1279 || f == 1260)
theorem m_open {m : Mm} {st sz off len fo w s : Nat} {F : Nat → Nat} {a4 a7 a8 : Int32} {a5 : Int64} {k552 : Int32 → Int32 → Int64 → Int32 → Int32 → Int32 → Mm → Option (Int32 × Mm)} (h : PicM m st sz F) (hl : off + len ≤ sz) (hfo : gB m 171 266 = lN fo) (hfo2 : fo < 2 ^ 40) (hw : w ≤ 640) (hs : s < 40) (ho : gB m 172 s = lN off) (hn : gB m 173 s = lN len) : ∃ m', f_X12_directory_l623 k552 FU (nI w) a4 a5 a7 a8 (nI s) 0 m = f_X12_directory_l707 k552 FU (nI w) a4 a5 a7 a8 (nI s) 0 m' ∧ StM m' (8 * len) (stB F off len (decide (fo = 2))) ∧ gJ m' 1278 133 = lN 0 ∧ gI m' 1276 133 = nI off ∧ gI m' 1260 133 = nI w ∧ (∀ x, x < w → gA m' 167 x = 0) ∧ Fr mOpF (fun b => b == 167) m m' := by
  have hsz := h.2.2.1
  have hq : lg_cmp (lN fo) 2 = 0 ↔ fo = 2 := by
    rw [c_eq]
    constructor
    · intro e
      have h1 : lN fo ≤ lN 2 := by rw [e]; exact Int64.le_refl _
      have h2 : lN 2 ≤ lN fo := by rw [e]; exact Int64.le_refl _
      rw [pk_lLE (by omega) (by omega)] at h1 h2
      omega
    · intro e; rw [e]; rfl
  have go : ∀ n i T, i ≤ w → w - i < n → Fr (fun _ _ => false) (fun b => b == 167) m T → (∀ x, x < i → gA T 167 x = 0) → ∃ m', f_X12_directory_l623 k552 n (nI w) a4 a5 a7 a8 (nI s) (nI i) T = f_X12_directory_l707 k552 FU (nI w) a4 a5 a7 a8 (nI s) 0 m' ∧ StM m' (8 * len) (stB F off len (decide (fo = 2))) ∧ gJ m' 1278 133 = lN 0 ∧ gI m' 1276 133 = nI off ∧ gI m' 1260 133 = nI w ∧ (∀ x, x < w → gA m' 167 x = 0) ∧ Fr mOpF (fun b => b == 167) m m' := by
    intro n
    induction n with
    | zero => intro i T _ h; omega
    | succ n ih =>
      intro i T hi hnn f hb
      have ev : f_X12_directory_l623 k552 (n + 1) (nI w) a4 a5 a7 a8 (nI s) (nI i) T = f_X12_directory_b623 k552 (f_X12_directory_l623 k552 n) (nI w) a4 a5 a7 a8 (nI s) (nI i) T := rfl
      rw [ev]
      unfold f_X12_directory_b623
      rcases Nat.lt_or_ge i w with hlt | hge
      · rw [if_neg (nI_ge hlt (by omega)), ix_in (j := i) (nI_pos (by omega)) (nI_clamp (by omega)) (by omega), lb_eq, nI_1]
        refine ih (i + 1) _ (by omega) (by omega) (f.uA i _ (by rfl)) (fun x hx => ?_)
        rw [gA_uA]
        by_cases z : x = i
        · rw [if_pos ⟨rfl, z⟩]
        · rw [if_neg (fun y => z y.2)]; exact hb x (by omega)
      · have : i = w := by omega
        subst this
        have hT := h.fr f rfl rfl rfl
        rw [if_pos (nI_le (Nat.le_refl _) (by omega)), ix_in (j := s) (nI_pos (by omega)) (nI_clamp (by omega)) (by omega)]
        rw [show gB T 172 s = lN off from by rw [f.b rfl]; exact ho, lN_i, lb_eq, ix_in (j := s) (nI_pos (by omega)) (nI_clamp (by omega)) (by omega), show gB (uI T 1276 133 (nI off)) 173 s = lN len from by show gB T 173 s = _; rw [f.b rfl]; exact hn, lb_eq, lb_eq, show gB (uJ (uJ (uI T 1276 133 (nI off)) 1277 133 (8 * lN len)) 1278 133 0) 171 266 = lN fo from by show gB T 171 266 = _; rw [f.b rfl]; exact hfo, show (8 : Int64) * lN len = lN (8 * len) from lN_mul 8 len]
        have fin : ∀ tu : Bool, tu = decide (fo = 2) → ∃ m', f_X12_directory_l707 k552 FU (nI i) a4 a5 a7 a8 (nI s) 0 (uI (uI (uJ (uJ (uI T 1276 133 (nI off)) 1277 133 (lN (8 * len))) 1278 133 0) 1279 133 (cI tu)) 1260 133 (nI i)) = f_X12_directory_l707 k552 FU (nI i) a4 a5 a7 a8 (nI s) 0 m' ∧ StM m' (8 * len) (stB F off len (decide (fo = 2))) ∧ gJ m' 1278 133 = lN 0 ∧ gI m' 1276 133 = nI off ∧ gI m' 1260 133 = nI i ∧ (∀ x, x < i → gA m' 167 x = 0) ∧ Fr mOpF (fun b => b == 167) m m' := by
          intro tu htu
          refine ⟨_, rfl, ⟨?_, by omega, st, off, tu, ?_, ?_, ?_, by omega, by omega, fun t ht => ?_⟩, ?_, ?_, ?_, hb, ?_⟩
          · show gJ (uJ (uJ (uI T 1276 133 (nI off)) 1277 133 (lN (8 * len))) 1278 133 0) 1277 133 = _
            rw [gJ_uJ, if_neg (by decide), gJ_uJ, if_pos ⟨rfl, rfl⟩]
          · rw [gI_uI, if_neg (by decide), gI_uI, if_neg (by decide)]
            show gI (uI T 1276 133 (nI off)) 1267 133 = _
            rw [gI_uI, if_neg (by decide)]; exact hT.1
          · rw [gI_uI, if_neg (by decide), gI_uI, if_neg (by decide)]
            show gI (uI T 1276 133 (nI off)) 1276 133 = _
            rw [gI_uI, if_pos ⟨rfl, rfl⟩]
          · rw [gI_uI, if_neg (by decide), gI_uI, if_pos ⟨rfl, rfl⟩]
          · show bt (gA T 152 (st + off + t / 8)) (if tu then t % 8 else 7 - t % 8) = _
            have hb8 : (if tu = true then t % 8 else 7 - t % 8) < 8 := by split <;> omega
            have e1 := hT.2.2.2.1 (off + t / 8) (by omega)
            have e2 : bt (gA T 152 (st + off + t / 8)) (if tu then t % 8 else 7 - t % 8) = bt (gA T 152 (st + (off + t / 8)) &&& 255) (if tu then t % 8 else 7 - t % 8) := by
              rw [b_and, b_255, decide_eq_true hb8, Bool.and_true, Nat.add_assoc]
            rw [e2, e1, nI_bt (by omega)]
            unfold stB
            rw [if_pos ht, htu]
          · show gJ (uJ (uJ (uI T 1276 133 (nI off)) 1277 133 (lN (8 * len))) 1278 133 0) 1278 133 = _
            rw [gJ_uJ, if_pos ⟨rfl, rfl⟩]; rfl
          · rw [gI_uI, if_neg (by decide), gI_uI, if_neg (by decide)]
            show gI (uI T 1276 133 (nI off)) 1276 133 = _
            rw [gI_uI, if_pos ⟨rfl, rfl⟩]
          · rw [gI_uI, if_pos ⟨rfl, rfl⟩]
          · exact (((((f.weak (QF := mOpF) (fun _ _ _ => rfl) (fun _ e => e)).uI _ (by rfl)).uJ _ (by rfl)).uJ _ (by rfl)).uI _ (by rfl)).uI _ (by rfl)
        by_cases g : fo = 2
        · rw [if_pos (hq.mpr g), lb_eq, lb_eq]
          exact fin true (by rw [decide_eq_true g])
        · rw [if_neg (fun y => g (hq.mp y)), lb_eq, lb_eq]
          exact fin false (by rw [decide_eq_false g])
  exact go FU 0 m (by omega) (FU_gt (by omega)) Fr.refl (fun x hx => by omega)
