/-! The value of a field, and the fields that move the cursor, on both sides. -/
section C4
variable {c c' c0 c1 c2 m m' m0 m1 m2 T : Mm} {d w b : Nat} {ov ov' ng sg : Bool} {g L : Nat → Int32} {Gc Gm : Gty}
def vz (w : Nat) (ng : Bool) : Int := if ng = true then -(w : Int) else (w : Int)
def ve (w b : Nat) (ng : Bool) : Int := if ng = true then -((10000 * w + b : Nat) : Int) else ((10000 * w + b : Nat) : Int)
/-- the value of a field stands alike on both sides -/
def VL (c m : Mm) (d w b : Nat) (ng sg : Bool) : Prop := w ≤ 32767 ∧ b ≤ 9999 ∧ gI c 509 (125 + d) = nI w ∧ gI c 510 (125 + d) = nI b ∧ gI c 508 (125 + d) = cI ng ∧ gI c 507 (125 + d) = cI sg ∧ gI m 1251 133 = iz (vz w ng) ∧ gJ m 1253 133 = jz (ve w b ng) ∧ gI m 1254 133 = cI sg
theorem vz_b (hw : w ≤ 32767) : -32767 ≤ vz w ng ∧ vz w ng ≤ 32767 := by unfold vz; split <;> omega
theorem ve_b (hw : w ≤ 32767) (hb : b ≤ 9999) : -327679999 ≤ ve w b ng ∧ ve w b ng ≤ 327679999 := by unfold ve; split <;> omega
theorem rd_k (hd : d ≤ 3) : kS true (125 + d) = 5 := by
  rcases (show d = 0 ∨ d = 1 ∨ d = 2 ∨ d = 3 by omega) with rfl | rfl | rfl | rfl <;> decide
theorem rd_eq {γ : Type} (h : RR d ov c m) {k : Nat → Option γ} : rf true (gR c 913 23) 5 k = k (125 + d) := rf_eq h.rd (rd_k h.d3)
theorem VL.n (h : VL c m d w b ng sg) : f_X5_n (125 + d) c = some (iz (vz w ng), c) := by
  unfold f_X5_n vz
  rw [h.2.2.2.2.1, h.2.2.1]
  cases ng
  · rw [if_pos (by rfl), if_neg (by decide), nI_iz]
  · rw [if_neg (by decide), if_pos rfl, nI_iz, iz_neg]
theorem VL.exact (h : VL c m d w b ng sg) : f_X5_exact (125 + d) c = some (jz (ve w b ng), c) := by
  have h1 := h.1
  have h2 := h.2.1
  unfold f_X5_exact ve
  rw [h.2.2.2.2.1, h.2.2.1, h.2.2.2.1, nI_j (by omega), nI_j (by omega), show (10000 : Int64) = jz 10000 from rfl, jz_mul, jz_add, lb_eq, show (w : Int) * 10000 + (b : Int) = ((10000 * w + b : Nat) : Int) by omega]
  cases ng
  · rw [if_pos (by rfl), if_neg (by decide)]
  · rw [if_neg (by decide), if_pos rfl, jz_neg]
def un (w b : Nat) (ng : Bool) (p : Nat) : Int := (ve w b ng * (p : Int)).tdiv 10000
theorem td_b {a B : Int} (h1 : -B ≤ a) (h2 : a ≤ B) : -B ≤ a.tdiv 10000 ∧ a.tdiv 10000 ≤ B := by
  by_cases q : 0 ≤ a
  · rw [Int.tdiv_eq_ediv_of_nonneg q]; omega
  · have e : a.tdiv 10000 = -((-a).tdiv 10000) := by rw [Int.neg_tdiv, Int.neg_neg]
    rw [e, Int.tdiv_eq_ediv_of_nonneg (show 0 ≤ -a by omega)]; omega
theorem un_m {e : Int} {p : Nat} (h1 : -327679999 ≤ e) (h2 : e ≤ 327679999) (hp : p ≤ 32000) : -10485759968000 ≤ e * (p : Int) ∧ e * (p : Int) ≤ 10485759968000 := by
  constructor
  · calc (-10485759968000 : Int) = (-327679999) * 32000 := by decide
      _ ≤ (-327679999) * (p : Int) := by omega
      _ ≤ e * (p : Int) := Int.mul_le_mul_of_nonneg_right h1 (by omega)
  · calc e * (p : Int) ≤ 327679999 * (p : Int) := Int.mul_le_mul_of_nonneg_right h2 (by omega)
      _ ≤ 10485759968000 := by omega
theorem un_b {p : Nat} (hw : w ≤ 32767) (hb : b ≤ 9999) (hp : p ≤ 32000) : -10485759968000 ≤ un w b ng p ∧ un w b ng p ≤ 10485759968000 := by
  have h := un_m (ve_b (ng := ng) hw hb).1 (ve_b (ng := ng) hw hb).2 hp
  exact td_b h.1 h.2
theorem VL.units (h : VL c m d w b ng sg) {p : Nat} (hp : p ≤ 32000) : f_X5_units (125 + d) (nI p) c = some (jz (un w b ng p), c) := by
  have q := un_m (ve_b (ng := ng) h.1 h.2.1).1 (ve_b (ng := ng) h.1 h.2.1).2 hp
  unfold f_X5_units un
  rw [h.exact, bd_eq, nI_j (by omega), jz_mul, show (10000 : Int64) = jz 10000 from rfl, jz_div (by omega) (by omega) (by omega) (by omega)]
theorem VL.munits (h : VL c m d w b ng sg) {p : Nat} (hp : p ≤ 32000) : f_X12_units (jz (p : Int)) m = some (jz (un w b ng p), m) := by
  have q := un_m (ve_b (ng := ng) h.1 h.2.1).1 (ve_b (ng := ng) h.1 h.2.1).2 hp
  unfold f_X12_units un
  rw [h.2.2.2.2.2.2.2.1, jz_mul, show (10000 : Int64) = jz 10000 from rfl, jz_div (by omega) (by omega) (by omega) (by omega)]
theorem VL.sg1 (h : VL c m d w b ng sg) : gI c 507 (125 + d) = cI sg := h.2.2.2.2.2.1
theorem VL.sg2 (h : VL c m d w b ng sg) : gI m 1254 133 = cI sg := h.2.2.2.2.2.2.2.2
theorem VL.nm (h : VL c m d w b ng sg) : gI m 1251 133 = iz (vz w ng) := h.2.2.2.2.2.2.1
/-- the cursor across -/
theorem two_ma {z : Int} (h : RR d ov c m) (v : VL c m d w b ng sg) (h1 : -10485759968000 ≤ z) (h2 : z ≤ 10485759968000) : ∃ c' m', f_X9_moveAcross (jz z) c = some ((), c') ∧ (if gI m 1254 133 = 0 then (bd (f_X12_setX (jz z + 0) m) fun _ T9 => some ((), T9)) else (bd (f_X12_setX (jz z + ((gA m 134 189)).toInt64) m) fun _ T10 => some ((), T10))) = some ((), m') ∧ EP c m c' m' := by
  obtain ⟨x, x1, x2⟩ := h.eb.k189
  unfold f_X9_moveAcross
  rw [rd_eq h, v.sg1, v.sg2, bd_u, bd_u, bd_u, bd_u]
  cases sg
  · obtain ⟨c2, m2, s1, s2, s3, _⟩ := mx (z := z) h.ev h.eb (by omega) (by omega)
    refine ⟨c2, m2, ?_, ?_, s3⟩
    · rw [if_pos (by rfl), s1]
    · rw [if_pos (by rfl), show (0 : Int64) = jz 0 from rfl, jz_add, show z + 0 = z by omega, s2]
  · obtain ⟨c2, m2, s1, s2, s3, _⟩ := mx (z := z + (x : Int)) h.ev h.eb (by omega) (by omega)
    refine ⟨c2, m2, ?_, ?_, s3⟩
    · rw [if_neg (by decide), show gI c 706 46 = nI x from (h.ev.i (706, 1, 189) (by decide)).trans x1, nI_j (by omega), jz_add, show (x : Int) + z = z + (x : Int) by omega, s1]
    · rw [if_neg (by decide), x1, nI_j (by omega), jz_add, s2]
/-- the cursor down -/
theorem two_md {z : Int} {t : Nat} {p3 : Int32} {B : Int64} (h : RR d ov c m) (v : VL c m d w b ng sg) (h1 : -10485759968000 ≤ z) (h2 : z ≤ 10485759968000) (ht : t ≤ 76800) (hp : p3.toInt64 = jz t) (hB : B = jz t) : ∃ c' m', f_X9_moveDown (jz z) p3 c = some ((), c') ∧ (if gI m 1254 133 = 0 then (bd (f_X12_setY (jz z + B) m) fun _ T9 => some ((), T9)) else (bd (f_X12_setY (jz z + ((gA m 134 190)).toInt64) m) fun _ T10 => some ((), T10))) = some ((), m') ∧ EP c m c' m' := by
  obtain ⟨x, x1, x2⟩ := h.eb.k190
  unfold f_X9_moveDown
  rw [rd_eq h, v.sg1, v.sg2, bd_u, bd_u, bd_u, bd_u]
  cases sg
  · obtain ⟨c2, m2, s1, s2, s3, _⟩ := my (z := z + (t : Int)) h.ev h.eb (by omega) (by omega)
    refine ⟨c2, m2, ?_, ?_, s3⟩
    · rw [if_pos (by rfl), hp, jz_add, show (t : Int) + z = z + (t : Int) by omega, s1]
    · rw [if_pos (by rfl), hB, jz_add, s2]
  · obtain ⟨c2, m2, s1, s2, s3, _⟩ := my (z := z + (x : Int)) h.ev h.eb (by omega) (by omega)
    refine ⟨c2, m2, ?_, ?_, s3⟩
    · rw [if_neg (by decide), show gI c 707 46 = nI x from (h.ev.i (707, 1, 190) (by decide)).trans x1, nI_j (by omega), jz_add, show (x : Int) + z = z + (x : Int) by omega, s1]
    · rw [if_neg (by decide), x1, nI_j (by omega), jz_add, s2]
theorem EP.same (h : EVq c 45 (gA m 134)) (e : EB (gA m 134)) {f o k : Nat} (hm : (f, o, k) ∈ plnT) (ho : o ≤ 8) : EP c m (uI c f (45 + o) (gA m 134 k)) m := by
  refine EP_mk ?_ e (Fr.refl.uI _ (by unfold eF; simp; omega)) Fr.refl rfl rfl
  refine (h.setI hm (gA m 134 k)).congr (fun j _ => ?_)
  by_cases q : j = k
  · rw [q, wr_s]
  · rw [wr_o _ q]
/-- the cursor put where it is -/
theorem mx_id {x : Nat} (h : EVq c 45 (gA m 134)) (e : EB (gA m 134)) (hx : gA m 134 189 = nI x) (h2 : x ≤ 76800) : ∃ c', f_X7_moveX 46 (jz (x : Int)) c = some ((), c') ∧ EP c m c' m := by
  have ex := e.x
  rw [hx, nI_iz, iz_int (by omega) (by omega)] at ex
  refine ⟨_, by rw [c_moveX (h.sf e) (by omega) (by omega), clp_id (by omega) (by omega), ← nI_iz, ← hx], ?_⟩
  exact EP.same h e (f := 706) (o := 1) (by decide) (by decide)
end C4
