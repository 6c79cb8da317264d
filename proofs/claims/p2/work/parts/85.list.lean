/-! Lists of a directory's entry, on both sides. -/
def lk (F : Nat → Nat) (lo : Bool) (p : Nat) : Nat := if nm F lo (p + 2) 2 = 3 then 2 else 4
def lbs (F : Nat → Nat) (lo : Bool) (p : Nat) : Nat := if nm F lo (p + 4) 4 * lk F lo p ≤ 4 then p + 8 else nm F lo (p + 8) 4
def lsv (F : Nat → Nat) (lo : Bool) (p s : Nat) : Nat := nm F lo (lbs F lo p + s * lk F lo p) (lk F lo p)
theorem nm_lt {F : Nat → Nat} (hF : ∀ i, F i < 256) {lo : Bool} {a n : Nat} (hn : n ≤ 4) : nm F lo a n < 2 ^ 32 := Nat.lt_of_lt_of_le (nmr_lt hF n) (p256 n hn)
theorem lk_le (F : Nat → Nat) (lo : Bool) (p : Nat) : lk F lo p ≤ 4 := by unfold lk; split <;> omega
theorem lN3 {n : Nat} (h : n < 2 ^ 62) (k : Nat) (hk : k < 2 ^ 62) : lN n = lN k ↔ n = k := by
  constructor
  · intro e
    have h1 : lN n ≤ lN k := by rw [e]; exact Int64.le_refl _
    have h2 : lN k ≤ lN n := by rw [e]; exact Int64.le_refl _
    rw [pk_lLE (by omega) (by omega)] at h1 h2
    omega
  · intro e; rw [e]
theorem c_listed {c : Mm} {st sz p s : Nat} {F : Nat → Nat} {lo : Bool} (h : PicC c st sz F) (hl : gI c 306 129 = cI lo) (hp : p < 2 ^ 40) (hs : s < 40) : f_X3_listed (lN p) (nI s) c = some (lN (lsv F lo p s), c) := by
  have hF := h.2.2.2.2.2.1
  have b1 := nm_lt hF (lo := lo) (a := p + 2) (n := 2) (by omega)
  have b2 := nm_lt hF (lo := lo) (a := p + 4) (n := 4) (by omega)
  have b3 := nm_lt hF (lo := lo) (a := p + 8) (n := 4) (by omega)
  unfold f_X3_listed
  rw [show lN p + 2 = lN (p + 2) from lN_add p 2, show (2 : Int32) = nI 2 from rfl, pic_num h hl (by omega) (by omega), bd_eq]
  have t22 : f_X3_listed_22 (lN p) (nI s) (nI (lk F lo p)) c = some (lN (lsv F lo p s), c) := by
    have hk := lk_le F lo p
    unfold f_X3_listed_22
    rw [show lN p + 8 = lN (p + 8) from lN_add p 8, lb_eq, show lN p + 4 = lN (p + 4) from lN_add p 4, show (4 : Int32) = nI 4 from rfl, pic_num h hl (by omega) (by omega), bd_eq, nI_l (by omega), show lN (nm F lo (p + 4) 4) * lN (lk F lo p) = lN (nm F lo (p + 4) 4 * lk F lo p) from lN_mul _ _]
    have hm : nm F lo (p + 4) 4 * lk F lo p < 2 ^ 40 := Nat.lt_of_le_of_lt (Nat.mul_le_mul (Nat.le_of_lt b2) hk) (by decide)
    have t61 : ∀ b, b < 2 ^ 42 → f_X3_listed_61 (nI s) (nI (lk F lo p)) (lN b) c = some (lN (nm F lo (b + s * lk F lo p) (lk F lo p)), c) := by
      intro b hb
      have : s * lk F lo p ≤ 40 * 4 := Nat.mul_le_mul (by omega) hk
      unfold f_X3_listed_61
      rw [nI_l (by omega), nI_l (by omega), show lN s * lN (lk F lo p) = lN (s * lk F lo p) from lN_mul _ _, lN_add, pic_num h hl (by omega) hk, bd_eq]
    by_cases z : nm F lo (p + 4) 4 * lk F lo p ≤ 4
    · rw [if_pos (by rw [c_le]; exact (pk_lLE (b := 4) (by omega) (by omega)).mpr z), t61 _ (by omega)]
      unfold lsv lbs; rw [if_pos z]
    · rw [if_neg (fun y => z (by rw [c_le] at y; exact (pk_lLE (b := 4) (by omega) (by omega)).mp y)), pic_num h hl (by omega) (by omega), bd_eq, t61 _ (by omega)]
      unfold lsv lbs; rw [if_neg z]
  by_cases z : nm F lo (p + 2) 2 = 3
  · have : lk F lo p = 2 := by unfold lk; rw [if_pos z]
    rw [this] at t22
    rw [if_pos (by rw [c_eq]; exact (lN3 (by omega) 3 (by omega)).mpr z)]
    exact t22
  · have : lk F lo p = 4 := by unfold lk; rw [if_neg z]
    rw [this] at t22
    rw [if_neg (fun y => z (by rw [c_eq] at y; exact (lN3 (by omega) 3 (by omega)).mp y))]
    exact t22
theorem m_valueOf {m : Mm} {st sz p s : Nat} {F : Nat → Nat} {lo : Bool} (h : PicM m st sz F) (hl : gI m 1269 133 = cI (!lo)) (hp : p + 12 ≤ sz) (hs : s < 40) (hb : lbs F lo p + s * lk F lo p + lk F lo p ≤ sz) : f_X12_valueOf (nI p) (nI s) m = some (lN (lsv F lo p s), m) := by
  have hF := h.2.2.2.2
  have hsz := h.2.2.1
  have b1 := nm_lt hF (lo := lo) (a := p + 2) (n := 2) (by omega)
  have b2 := nm_lt hF (lo := lo) (a := p + 4) (n := 4) (by omega)
  have b3 := nm_lt hF (lo := lo) (a := p + 8) (n := 4) (by omega)
  unfold f_X12_valueOf
  rw [show nI p + 2 = nI (p + 2) from nI_add p 2, show (2 : Int32) = nI 2 from rfl, picm_num h hl (by omega) (by omega), bd_eq]
  have t20 : f_X12_valueOf_20 (nI p) (nI s) (nI (lk F lo p)) m = some (lN (lsv F lo p s), m) := by
    have hk := lk_le F lo p
    have hm : nm F lo (p + 4) 4 * lk F lo p < 2 ^ 40 := Nat.lt_of_le_of_lt (Nat.mul_le_mul (Nat.le_of_lt b2) hk) (by decide)
    unfold f_X12_valueOf_20
    rw [show nI p + 4 = nI (p + 4) from nI_add p 4, show (4 : Int32) = nI 4 from rfl, picm_num h hl (by omega) (by omega), bd_eq, nI_l (by omega), show lN (nm F lo (p + 4) 4) * lN (lk F lo p) = lN (nm F lo (p + 4) 4 * lk F lo p) from lN_mul _ _]
    have t60 : ∀ b, b = lbs F lo p → f_X12_valueOf_60 (nI s) (nI (lk F lo p)) (nI b) m = some (lN (lsv F lo p s), m) := by
      intro b eb
      subst eb
      unfold f_X12_valueOf_60
      rw [show nI (lk F lo p) * nI s = nI (lk F lo p * s) from pk_mul _ _, nI_add, Nat.mul_comm, picm_num h hl hb hk, bd_eq]
      rfl
    by_cases z : nm F lo (p + 4) 4 * lk F lo p ≤ 4
    · rw [if_neg (fun y => by rw [c_gt] at y; have := (pk_lLT (a := 4) (by omega) (by omega)).mp y; omega), show nI p + 8 = nI (p + 8) from nI_add p 8]
      exact t60 _ (by unfold lbs; rw [if_pos z])
    · rw [if_pos (by rw [c_gt]; exact (pk_lLT (a := 4) (by omega) (by omega)).mpr (by omega)), show nI p + 8 = nI (p + 8) from nI_add p 8, picm_num h hl (by omega) (by omega), bd_eq, lN_i]
      exact t60 _ (by unfold lbs; rw [if_neg z])
  by_cases z : nm F lo (p + 2) 2 = 3
  · have : lk F lo p = 2 := by unfold lk; rw [if_pos z]
    rw [this] at t20
    rw [if_pos (by rw [c_eq]; exact (lN3 (by omega) 3 (by omega)).mpr z)]
    exact t20
  · have : lk F lo p = 4 := by unfold lk; rw [if_neg z]
    rw [this] at t20
    rw [if_neg (fun y => z (by rw [c_eq] at y; exact (lN3 (by omega) 3 (by omega)).mp y))]
    exact t20
