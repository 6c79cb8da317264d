/-! Tiles made, on the class's side. -/
section B2
variable {c c' c0 T : Mm} {L : Nat → Int32}
def tF (t : Nat) (f i : Nat) : Bool := i == t && (f == 1000 || f == 1001 || f == 1002)
def tA (t : Nat) (a : Nat) : Bool := a == t + 1
/-- a row's word of w dots over and over -/
def RW (R : Int64) (w : Nat) (b : Int32) : Prop := ∀ k, k < 64 → lbt R (63 - k) = bt b (w - 1 - k % w)
theorem c_setRow {t w i : Nat} {b : Int32} (e : gI c 1000 t = nI w) (h1 : 1 ≤ w) (h2 : w ≤ 16) (hi : i < 16) : ∃ R, f_X10_setRow t (nI i) b c = some ((), uB c (t + 1) i R) ∧ RW R w b := by
  have go : ∀ (n fl : Nat) (R : Int64), 64 - fl < n → fl < 128 → w ≤ fl → fl % w = 0 → (∀ k, k < 64 → lbt R (63 - k) = (decide (k < fl) && bt b (w - 1 - k % w))) → ∃ R', f_X10_setRow_l18 n t (nI i) (nI fl) R c = some ((), uB c (t + 1) i R') ∧ RW R' w b := by
    intro n
    induction n with
    | zero => intro fl R h; omega
    | succ n ih =>
      intro fl R g1 g2 g3 g4 g5
      show ∃ R', f_X10_setRow_b18 (f_X10_setRow_l18 n) t (nI i) (nI fl) R c = _ ∧ _
      unfold f_X10_setRow_b18
      by_cases q : 64 ≤ fl
      · rw [if_pos (show (64 : Int32) ≤ nI fl from nI_le (a := 64) q (by omega)), if_neg (nI_pos (by omega)), if_neg (show ¬ (16 : Int32) ≤ nI i from nI_ge (b := 16) (by omega) (by omega)), ix_in (j := i) (nI_pos (by omega)) (nI_clamp (by omega)) (by omega), lb_eq]
        exact ⟨R, rfl, fun k hk => by rw [g5 k hk, decide_eq_true (by omega), Bool.true_and]⟩
      · rw [if_neg (show ¬ (64 : Int32) ≤ nI fl from nI_ge (b := 64) (by omega) (by omega)), lb_eq, show nI fl * (2 : Int32) = nI (fl * 2) from pk_mul fl 2, lb_eq]
        refine ih (fl * 2) _ (by omega) (by omega) (by omega) (by rw [Nat.mul_mod, g4, Nat.zero_mul, Nat.zero_mod]) (fun k hk => ?_)
        rw [l_or, l_ushr fl (by omega), g5 k hk]
        by_cases k1 : k < fl
        · rw [l_big (by omega), decide_eq_true k1, decide_eq_true (show k < fl * 2 by omega), Bool.or_false]
        · rw [decide_eq_false k1, Bool.false_and, Bool.false_or, show fl + (63 - k) = 63 - (k - fl) by omega, g5 (k - fl) (by omega)]
          have : (k - fl) % w = k % w := by
            have e9 : k = (k - fl) + w * (fl / w) := by
              have := Nat.div_add_mod fl w
              omega
            rw [e9, Nat.add_mul_mod_self_left, ← e9]
          rw [this]
          congr 1
          rw [decide_eq_decide]; omega
  unfold f_X10_setRow
  rw [e, f_max, max1 h1 (by omega), bd_eq, show (64 : Int32) - nI w = nI (64 - w) from pk_sub (a := 64) (by omega), lb_eq]
  refine go FU w _ (FU_gt (by omega)) (by omega) (Nat.le_refl w) (Nat.mod_self w) (fun k hk => ?_)
  rw [l_shl (64 - w) (by omega) _ (by omega)]
  by_cases q : k < w
  · rw [decide_eq_true q, decide_eq_true (by omega), Bool.true_and, Bool.true_and, l_of32 _ (by omega), if_pos (by omega), Nat.mod_eq_of_lt q]
    congr 1
    omega
  · rw [decide_eq_false q, decide_eq_false (by omega), Bool.false_and, Bool.false_and]
theorem c_size {t w h : Nat} (h1 : 1 ≤ w) (h2 : w ≤ 16) (h3 : 1 ≤ h) (h4 : h ≤ 16) : f_X10_size t (nI w) (nI h) c = some ((), uI (uI (uI c 1000 t (nI w)) 1001 t (nI h)) 1002 t 0) := by
  have cl : ∀ x : Nat, 1 ≤ x → x ≤ 16 → (if (1 : Int32) < (if (16 : Int32) < nI x then 16 else nI x) then (if (16 : Int32) < nI x then 16 else nI x) else 1) = nI x := fun x x1 x2 => by
    rw [if_neg (show ¬ (16 : Int32) < nI x from nI_nlt (a := 16) x2 (by omega))]
    rcases Nat.eq_or_lt_of_le x1 with e | e
    · rw [← e]; rfl
    · rw [if_pos (show (1 : Int32) < nI x from nI_lt (a := 1) e (by omega))]
  unfold f_X10_size
  rw [f_min, bd_eq, f_max, bd_eq, cl w h1 h2, lb_eq, f_min, bd_eq, f_max, bd_eq, cl h h3 h4, lb_eq, lb_eq]
theorem TR.mk' {t w h : Nat} {P : Nat → Nat → Bool} (a0 : L 0 = 0 ∨ L 0 = 1 ∨ L 0 = 2 ∨ L 0 = 3 ∨ L 0 = 4) (h1 : 1 ≤ w) (h2 : w ≤ 16) (h3 : 1 ≤ h) (h4 : h ≤ 16) (e1 : gI c 1000 t = nI w) (e2 : gI c 1001 t = nI h) (e3 : gI c 1002 t = cI (decide (L 0 = 1))) (e4 : L 0 = 4 → L 2 = nI w ∧ L 3 = nI h) (hr : ∀ i, i < h → ∀ k, k < 48 → lbt (gB c (t + 1) i) (63 - k) = P (k % w) i) (hp : ∀ a b : Int, pd L a b = P (a % w).toNat (b % h).toNat) : TR c t L := by
  refine ⟨a0, w, h, h1, h2, h3, h4, e1, e2, e3, e4, fun a b k hk hak => ?_⟩
  have m1 := Int.emod_nonneg b (show (h : Int) ≠ 0 by omega)
  have m2 := Int.emod_lt_of_pos b (show (0 : Int) < h by omega)
  rw [hr _ (by omega) k hk, hp, hak]
  congr 1
theorem c_solid {t : Nat} (hL : L 0 = 0) : ∃ c', f_X10_solid t c = some ((), c') ∧ Fr (tF t) (tA t) c c' ∧ TR c' t L := by
  unfold f_X10_solid
  rw [show (1 : Int32) = nI 1 from rfl, c_size (by omega) (by omega) (by omega) (by omega), bd_eq]
  have f1 : Fr (tF t) (tA t) c (uI (uI (uI c 1000 t (nI 1)) 1001 t (nI 1)) 1002 t 0) := ((Fr.refl.uI _ (by simp [tF])).uI _ (by simp [tF])).uI _ (by simp [tF])
  have z1 : gI (uI (uI (uI c 1000 t (nI 1)) 1001 t (nI 1)) 1002 t 0) 1000 t = nI 1 := by rw [gI_uI, if_neg (by omega), gI_uI, if_neg (by omega), gI_uI, if_pos ⟨rfl, rfl⟩]
  have z2 : gI (uI (uI (uI c 1000 t (nI 1)) 1001 t (nI 1)) 1002 t 0) 1001 t = nI 1 := by rw [gI_uI, if_neg (by omega), gI_uI, if_pos ⟨rfl, rfl⟩]
  have z3 : gI (uI (uI (uI c 1000 t (nI 1)) 1001 t (nI 1)) 1002 t 0) 1002 t = 0 := by rw [gI_uI, if_pos ⟨rfl, rfl⟩]
  generalize uI (uI (uI c 1000 t (nI 1)) 1001 t (nI 1)) 1002 t 0 = c1 at f1 z1 z2 z3
  obtain ⟨R, r1, r2⟩ := c_setRow (i := 0) (b := nI 1) z1 (by omega) (by omega) (by omega)
  rw [show (0 : Int32) = nI 0 from rfl, r1, bd_eq]
  refine ⟨_, rfl, f1.uB _ _ (by simp [tA]), TR.mk' (w := 1) (h := 1) (P := fun _ _ => true) (Or.inl hL) (by omega) (by omega) (by omega) (by omega) z1 z2 (by rw [hL]; exact z3) (fun e => by rw [hL] at e; exact absurd e (by decide)) (fun i hi k hk => ?_) (fun a b => by unfold pd; rw [if_pos hL])⟩
  rw [gB_uB, if_pos ⟨rfl, by omega⟩, r2 k (by omega), Nat.mod_one]
  rfl
theorem c_white {t : Nat} (hL : L 0 = 1) : ∃ c', f_X10_white t c = some ((), c') ∧ Fr (tF t) (tA t) c c' ∧ TR c' t L := by
  unfold f_X10_white
  rw [show (1 : Int32) = nI 1 from rfl, c_size (by omega) (by omega) (by omega) (by omega), bd_eq]
  have f1 : Fr (tF t) (tA t) c (uI (uI (uI c 1000 t (nI 1)) 1001 t (nI 1)) 1002 t 0) := ((Fr.refl.uI _ (by simp [tF])).uI _ (by simp [tF])).uI _ (by simp [tF])
  have z1 : gI (uI (uI (uI c 1000 t (nI 1)) 1001 t (nI 1)) 1002 t 0) 1000 t = nI 1 := by rw [gI_uI, if_neg (by omega), gI_uI, if_neg (by omega), gI_uI, if_pos ⟨rfl, rfl⟩]
  have z2 : gI (uI (uI (uI c 1000 t (nI 1)) 1001 t (nI 1)) 1002 t 0) 1001 t = nI 1 := by rw [gI_uI, if_neg (by omega), gI_uI, if_pos ⟨rfl, rfl⟩]
  generalize uI (uI (uI c 1000 t (nI 1)) 1001 t (nI 1)) 1002 t 0 = c1 at f1 z1 z2
  obtain ⟨R, r1, r2⟩ := c_setRow (i := 0) (b := nI 0) z1 (by omega) (by omega) (by omega)
  rw [show (0 : Int32) = nI 0 from rfl, r1, bd_eq, lb_eq]
  refine ⟨_, rfl, (f1.uB _ _ (by simp [tA])).uI _ (by simp [tF]), TR.mk' (w := 1) (h := 1) (P := fun _ _ => false) (Or.inr (Or.inl hL)) (by omega) (by omega) (by omega) (by omega) (by rw [gI_uI, if_neg (by omega)]; exact z1) (by rw [gI_uI, if_neg (by omega)]; exact z2) (by rw [gI_uI, if_pos ⟨rfl, rfl⟩, hL]; rfl) (fun e => by rw [hL] at e; exact absurd e (by decide)) (fun i hi k hk => ?_) (fun a b => by unfold pd; rw [hL]; rfl)⟩
  rw [gB_uI, gB_uB, if_pos ⟨rfl, by omega⟩, r2 k (by omega), Nat.mod_one]
  rfl
/-- one more bit -/
theorem more_bit {b : Int32} {u : Bool} {i : Nat} (hi : i < 32) : bt ((b <<< ((1 : Int32) &&& 31)) ||| cI u) i = if i = 0 then u else bt b (i - 1) := by
  rw [b_or, show ((1 : Int32) &&& 31) = (nI 1 &&& 31) from rfl, b_shl 1 (by omega) _ hi]
  have e : bt (cI u) i = (decide (i = 0) && u) := by
    cases u
    · rw [show cI false = 0 from rfl, b_0, Bool.and_false]
    · rw [show cI true = nI 1 from rfl, nI_bt hi, Bool.and_true]
      rcases i with _ | i
      · rfl
      · show Nat.testBit 1 (i + 1) = _
        rw [Nat.testBit_succ]; simp
  rw [e]
  by_cases q : i = 0
  · rw [if_pos q, decide_eq_true q, decide_eq_false (by omega)]; simp
  · rw [if_neg q, decide_eq_false q, decide_eq_true (by omega)]; simp
theorem sh_tab : ∀ j, j < 16 → ∃ s : Nat, st_SHADES.getD j 0 = nI s ∧ s < 16 ∧ (s : Int) = shV ((j % 4 : Nat) : Int) ((j / 4 : Nat) : Int) := by
  intro j hj
  have : ∀ j, j < 16 → st_SHADES.getD j 0 = nI (shV ((j % 4 : Nat) : Int) ((j / 4 : Nat) : Int)).toNat ∧ (shV ((j % 4 : Nat) : Int) ((j / 4 : Nat) : Int)).toNat < 16 ∧ 0 ≤ shV ((j % 4 : Nat) : Int) ((j / 4 : Nat) : Int) := by decide +kernel
  obtain ⟨a, b, d⟩ := this j hj
  exact ⟨_, a, b, by omega⟩
def shP (n a b : Nat) : Bool := decide (100 * shV (a : Int) (b : Int) < 16 * (n : Int))
theorem c_shade {t n : Nat} (hn : n ≤ 100) (hL : L 0 = 2) (hL1 : L 1 = nI n) : ∃ c', f_X10_shade t (nI n) c = some ((), c') ∧ Fr (tF t) (tA t) c c' ∧ TR c' t L := by
  -- a row's bits
  have inner : ∀ (k8 : Nat → Int32 → Int32 → Mm → Option (Unit × Mm)) (b : Nat) (T : Mm), b < 4 → gI T 1000 t = nI 4 → ∀ (N a : Nat) (x : Int32), 4 - a < N → a ≤ 4 → (∀ i, i < a → bt x (a - 1 - i) = shP n i b) → ∃ R, f_X10_shade_l18 k8 N t (nI n) (nI b) x (nI a) T = k8 t (nI n) (nI (b + 1)) (uB T (t + 1) b R) ∧ ∀ k, k < 64 → lbt R (63 - k) = shP n (k % 4) b := by
    intro k8 b T hb h4 N
    induction N with
    | zero => intro a x h; omega
    | succ N ih =>
      intro a x g1 g2 g3
      show ∃ R, f_X10_shade_b18 k8 (f_X10_shade_l18 k8 N) t (nI n) (nI b) x (nI a) T = _ ∧ _
      unfold f_X10_shade_b18
      by_cases q : a = 4
      · subst q
        obtain ⟨R, r1, r2⟩ := c_setRow (i := b) (b := x) h4 (by omega) (by omega) (by omega)
        rw [if_pos (by decide), r1, bd_eq, show nI b + 1 = nI (b + 1) from nI_add b 1]
        refine ⟨R, rfl, fun k hk => ?_⟩
        rw [r2 k hk, ← g3 (k % 4) (by omega)]
      · obtain ⟨s, s1, s2, s3⟩ := sh_tab (4 * b + a) (by omega)
        rw [show (4 * b + a) % 4 = a by omega, show (4 * b + a) / 4 = b by omega] at s3
        rw [if_neg (show ¬ (4 : Int32) ≤ nI a from nI_ge (b := 4) (by omega) (by omega)), show (4 : Int32) * nI b = nI (4 * b) from pk_mul 4 b, nI_add, ix_in (j := 4 * b + a) (nI_pos (by omega)) (nI_clamp (by omega)) (by omega), s1, show (16 : Int32) * nI n = nI (16 * n) from pk_mul 16 n, show (100 : Int32) * nI s = nI (100 * s) from pk_mul 100 s, lb_eq, lb_eq, show nI a + 1 = nI (a + 1) from nI_add a 1]
        have go : ∀ u : Bool, u = shP n a b → ∃ R, f_X10_shade_l18 k8 N t (nI n) (nI b) ((x <<< ((1 : Int32) &&& 31)) ||| cI u) (nI (a + 1)) T = k8 t (nI n) (nI (b + 1)) (uB T (t + 1) b R) ∧ ∀ k, k < 64 → lbt R (63 - k) = shP n (k % 4) b := fun u hu => by
          refine ih (a + 1) _ (by omega) (by omega) (fun i hi => ?_)
          rw [more_bit (by omega)]
          by_cases z : i = a
          · rw [if_pos (by omega), z]; exact hu
          · rw [if_neg (by omega), show a + 1 - 1 - i - 1 = a - 1 - i by omega]; exact g3 i (by omega)
        by_cases z : 16 * n ≤ 100 * s
        · rw [if_pos (nI_le z (by omega))]
          exact go false (by unfold shP; rw [decide_eq_false]; omega)
        · rw [if_neg (nI_ge (by omega) (by omega))]
          exact go true (by unfold shP; rw [decide_eq_true]; omega)
  have f1 : Fr (tF t) (tA t) c (uI (uI (uI c 1000 t (nI 4)) 1001 t (nI 4)) 1002 t 0) := ((Fr.refl.uI _ (by simp [tF])).uI _ (by simp [tF])).uI _ (by simp [tF])
  have z1 : gI (uI (uI (uI c 1000 t (nI 4)) 1001 t (nI 4)) 1002 t 0) 1000 t = nI 4 := by rw [gI_uI, if_neg (by omega), gI_uI, if_neg (by omega), gI_uI, if_pos ⟨rfl, rfl⟩]
  have z2 : gI (uI (uI (uI c 1000 t (nI 4)) 1001 t (nI 4)) 1002 t 0) 1001 t = nI 4 := by rw [gI_uI, if_neg (by omega), gI_uI, if_pos ⟨rfl, rfl⟩]
  have z3 : gI (uI (uI (uI c 1000 t (nI 4)) 1001 t (nI 4)) 1002 t 0) 1002 t = 0 := by rw [gI_uI, if_pos ⟨rfl, rfl⟩]
  unfold f_X10_shade
  rw [show (4 : Int32) = nI 4 from rfl, c_size (by omega) (by omega) (by omega) (by omega), bd_eq]
  generalize uI (uI (uI c 1000 t (nI 4)) 1001 t (nI 4)) 1002 t 0 = c1 at f1 z1 z2 z3
  have outer : ∀ (N b : Nat) (T : Mm), 4 - b < N → b ≤ 4 → Fr nF (tA t) c1 T → (∀ i, i < b → ∀ k, k < 64 → lbt (gB T (t + 1) i) (63 - k) = shP n (k % 4) i) → ∃ c', f_X10_shade_l8 N t (nI n) (nI b) T = some ((), c') ∧ Fr nF (tA t) c1 c' ∧ ∀ i, i < 4 → ∀ k, k < 64 → lbt (gB c' (t + 1) i) (63 - k) = shP n (k % 4) i := by
    intro N
    induction N with
    | zero => intro b T h; omega
    | succ N ih =>
      intro b T g1 g2 g3 g4
      show ∃ c', f_X10_shade_b8 (f_X10_shade_l8 N) t (nI n) (nI b) T = _ ∧ _
      unfold f_X10_shade_b8
      by_cases q : b = 4
      · subst q
        rw [if_pos (by decide)]
        exact ⟨T, rfl, g3, g4⟩
      · rw [if_neg (show ¬ (4 : Int32) ≤ nI b from nI_ge (b := 4) (by omega) (by omega))]
        obtain ⟨R, r1, r2⟩ := inner (f_X10_shade_l8 N) b T (by omega) ((g3.i rfl).trans z1) FU 0 0 (FU_gt (by omega)) (by omega) (fun i hi => by omega)
        have r1' : f_X10_shade_l18 (f_X10_shade_l8 N) FU t (nI n) (nI b) 0 0 T = _ := r1
        rw [r1']
        refine ih (b + 1) _ (by omega) (by omega) (g3.uB _ _ (by simp [tA])) (fun i hi k hk => ?_)
        rw [gB_uB]
        by_cases z : i = b
        · rw [if_pos ⟨rfl, z⟩, r2 k hk, z]
        · rw [if_neg (fun y => z y.2)]; exact g4 i (by omega) k hk
  obtain ⟨c', e1, e2, e3⟩ := outer FU 0 c1 (FU_gt (by omega)) (by omega) Fr.refl (fun i hi => by omega)
  refine ⟨c', e1, f1.trans (e2.weak (fun _ _ _ => rfl) (fun _ e => e)), TR.mk' (w := 4) (h := 4) (P := shP n) (Or.inr (Or.inr (Or.inl hL))) (by omega) (by omega) (by omega) (by omega) ((e2.i rfl).trans z1) ((e2.i rfl).trans z2) (by rw [e2.i rfl, z3, hL]; rfl) (fun e => by rw [hL] at e; exact absurd e (by decide)) (fun i hi k hk => e3 i hi k (by omega)) (fun a b => ?_)⟩
  unfold pd shP
  rw [if_neg (by rw [hL]; decide), if_neg (by rw [hL]; decide), if_pos hL, hL1, nI_toInt (by omega), Int.toNat_of_nonneg (by omega), Int.toNat_of_nonneg (by omega)]
  rfl
def htP (n a b : Nat) : Bool := if n = 1 then decide (b = 0) else if n = 2 then decide (a = 0) else if n = 3 then decide ((a + b) % 8 = 0) else if n = 4 then decide (a = b) else if n = 5 then (decide (a = 0) || decide (b = 0)) else (decide ((a + b) % 8 = 0) || decide (a = b))
theorem c_isH : ∀ n, n < 7 → 1 ≤ n → ∀ a, a < 8 → ∀ b, b < 8 → f_X10_isHatched (nI n) (nI a) (nI b) c = some (cI (htP n a b), c) := by
  have key : ∀ n, n < 7 → 1 ≤ n → ∀ a, a < 8 → ∀ b, b < 8 → (if ((nI a + nI b) &&& 7) = 0 then (if ((nI a - nI b) &&& 7) = 0 then (1, 1) else (1, 0)) else (if ((nI a - nI b) &&& 7) = 0 then (0, 1) else ((0, 0) : Int32 × Int32))) = (cI (decide ((a + b) % 8 = 0)), cI (decide (a = b))) := by decide +kernel
  intro n h1 h2 a ha b hb
  have kk := key n h1 h2 a ha b hb
  have za : (nI a = 0) ↔ a = 0 := nI_eq (b := 0) (by omega) (by omega)
  have zb : (nI b = 0) ↔ b = 0 := nI_eq (b := 0) (by omega) (by omega)
  have e29 : ∀ p q : Bool, f_X10_isHatched_29 (nI n) (nI a) (nI b) (cI p) (cI q) c = some (cI (if n = 1 then decide (b = 0) else if n = 2 then decide (a = 0) else if n = 3 then p else if n = 4 then q else if n = 5 then (decide (a = 0) || decide (b = 0)) else (p || q)), c) := by
    intro p q
    unfold f_X10_isHatched_29
    rcases (show n = 1 ∨ n = 2 ∨ n = 3 ∨ n = 4 ∨ n = 5 ∨ n = 6 by omega) with rfl | rfl | rfl | rfl | rfl | rfl
    · rw [if_pos (by rfl), if_pos rfl]
      by_cases z : b = 0
      · rw [if_pos (zb.mpr z), decide_eq_true z]; rfl
      · rw [if_neg (fun y => z (zb.mp y)), decide_eq_false z]; rfl
    · show (if nI a = 0 then some ((1 : Int32), c) else some (0, c)) = some (cI (decide (a = 0)), c)
      by_cases z : a = 0
      · rw [if_pos (za.mpr z), decide_eq_true z]; rfl
      · rw [if_neg (fun y => z (za.mp y)), decide_eq_false z]; rfl
    · cases p <;> rfl
    · cases q <;> rfl
    · show (if nI a = 0 then some ((1 : Int32), c) else if nI b = 0 then some (1, c) else some (0, c)) = some (cI (decide (a = 0) || decide (b = 0)), c)
      by_cases z : a = 0
      · rw [if_pos (za.mpr z), decide_eq_true z]; rfl
      · rw [if_neg (fun y => z (za.mp y)), decide_eq_false z, Bool.false_or]
        by_cases z : b = 0
        · rw [if_pos (zb.mpr z), decide_eq_true z]; rfl
        · rw [if_neg (fun y => z (zb.mp y)), decide_eq_false z]; rfl
    · cases p <;> cases q <;> rfl
  unfold f_X10_isHatched f_X10_isHatched_14 htP
  rw [← e29]
  have k1 := congrArg Prod.fst kk
  have k2 := congrArg Prod.snd kk
  dsimp only at k1 k2
  rw [← k1, ← k2]
  by_cases u : ((nI a + nI b) &&& 7) = 0
  · simp only [if_pos u]
    by_cases v : ((nI a - nI b) &&& 7) = 0
    · simp only [if_pos v]
    · simp only [if_neg v]
  · simp only [if_neg u]
    by_cases v : ((nI a - nI b) &&& 7) = 0
    · simp only [if_pos v]
    · simp only [if_neg v]
theorem c_hatch {t n : Nat} (hn1 : 1 ≤ n) (hn : n ≤ 6) (hL : L 0 = 3) (hL1 : L 1 = nI n) : ∃ c', f_X10_hatch t (nI n) c = some ((), c') ∧ Fr (tF t) (tA t) c c' ∧ TR c' t L := by
  have inner : ∀ (k8 : Nat → Int32 → Int32 → Mm → Option (Unit × Mm)) (b : Nat) (T : Mm), b < 8 → gI T 1000 t = nI 8 → ∀ (N a : Nat) (x : Int32), 8 - a < N → a ≤ 8 → (∀ i, i < a → bt x (a - 1 - i) = htP n i b) → ∃ R, f_X10_hatch_l21 k8 N t (nI n) (nI b) x (nI a) T = k8 t (nI n) (nI (b + 1)) (uB T (t + 1) b R) ∧ ∀ k, k < 64 → lbt R (63 - k) = htP n (k % 8) b := by
    intro k8 b T hb h4 N
    induction N with
    | zero => intro a x h; omega
    | succ N ih =>
      intro a x g1 g2 g3
      show ∃ R, f_X10_hatch_b21 k8 (f_X10_hatch_l21 k8 N) t (nI n) (nI b) x (nI a) T = _ ∧ _
      unfold f_X10_hatch_b21
      by_cases q : a = 8
      · subst q
        obtain ⟨R, r1, r2⟩ := c_setRow (i := b) (b := x) h4 (by omega) (by omega) (by omega)
        rw [if_pos (by decide), r1, bd_eq, show nI b + 1 = nI (b + 1) from nI_add b 1]
        refine ⟨R, rfl, fun k hk => ?_⟩
        rw [r2 k hk, ← g3 (k % 8) (by omega)]
      · rw [if_neg (show ¬ (8 : Int32) ≤ nI a from nI_ge (b := 8) (by omega) (by omega)), c_isH n (by omega) hn1 a (by omega) b hb, bd_eq, lb_eq, lb_eq, show nI a + 1 = nI (a + 1) from nI_add a 1]
        have go : ∀ u : Bool, u = htP n a b → ∃ R, f_X10_hatch_l21 k8 N t (nI n) (nI b) ((x <<< ((1 : Int32) &&& 31)) ||| cI u) (nI (a + 1)) T = k8 t (nI n) (nI (b + 1)) (uB T (t + 1) b R) ∧ ∀ k, k < 64 → lbt R (63 - k) = htP n (k % 8) b := fun u hu => by
          refine ih (a + 1) _ (by omega) (by omega) (fun i hi => ?_)
          rw [more_bit (by omega)]
          by_cases z : i = a
          · rw [if_pos (by omega), z]; exact hu
          · rw [if_neg (by omega), show a + 1 - 1 - i - 1 = a - 1 - i by omega]; exact g3 i (by omega)
        cases z : htP n a b
        · rw [if_pos (by rfl)]
          exact go false z.symm
        · rw [if_neg (by decide)]
          exact go true z.symm
  have f1 : Fr (tF t) (tA t) c (uI (uI (uI c 1000 t (nI 8)) 1001 t (nI 8)) 1002 t 0) := ((Fr.refl.uI _ (by simp [tF])).uI _ (by simp [tF])).uI _ (by simp [tF])
  have z1 : gI (uI (uI (uI c 1000 t (nI 8)) 1001 t (nI 8)) 1002 t 0) 1000 t = nI 8 := by rw [gI_uI, if_neg (by omega), gI_uI, if_neg (by omega), gI_uI, if_pos ⟨rfl, rfl⟩]
  have z2 : gI (uI (uI (uI c 1000 t (nI 8)) 1001 t (nI 8)) 1002 t 0) 1001 t = nI 8 := by rw [gI_uI, if_neg (by omega), gI_uI, if_pos ⟨rfl, rfl⟩]
  have z3 : gI (uI (uI (uI c 1000 t (nI 8)) 1001 t (nI 8)) 1002 t 0) 1002 t = 0 := by rw [gI_uI, if_pos ⟨rfl, rfl⟩]
  unfold f_X10_hatch
  rw [show (8 : Int32) = nI 8 from rfl, c_size (by omega) (by omega) (by omega) (by omega), bd_eq]
  generalize uI (uI (uI c 1000 t (nI 8)) 1001 t (nI 8)) 1002 t 0 = c1 at f1 z1 z2 z3
  have outer : ∀ (N b : Nat) (T : Mm), 8 - b < N → b ≤ 8 → Fr nF (tA t) c1 T → (∀ i, i < b → ∀ k, k < 64 → lbt (gB T (t + 1) i) (63 - k) = htP n (k % 8) i) → ∃ c', f_X10_hatch_l10 N t (nI n) (nI b) T = some ((), c') ∧ Fr nF (tA t) c1 c' ∧ ∀ i, i < 8 → ∀ k, k < 64 → lbt (gB c' (t + 1) i) (63 - k) = htP n (k % 8) i := by
    intro N
    induction N with
    | zero => intro b T h; omega
    | succ N ih =>
      intro b T g1 g2 g3 g4
      show ∃ c', f_X10_hatch_b10 (f_X10_hatch_l10 N) t (nI n) (nI b) T = _ ∧ _
      unfold f_X10_hatch_b10
      by_cases q : b = 8
      · subst q
        rw [if_pos (by decide)]
        exact ⟨T, rfl, g3, g4⟩
      · rw [if_neg (show ¬ (8 : Int32) ≤ nI b from nI_ge (b := 8) (by omega) (by omega))]
        obtain ⟨R, r1, r2⟩ := inner (f_X10_hatch_l10 N) b T (by omega) ((g3.i rfl).trans z1) FU 0 0 (FU_gt (by omega)) (by omega) (fun i hi => by omega)
        have r1' : f_X10_hatch_l21 (f_X10_hatch_l10 N) FU t (nI n) (nI b) 0 0 T = _ := r1
        rw [r1']
        refine ih (b + 1) _ (by omega) (by omega) (g3.uB _ _ (by simp [tA])) (fun i hi k hk => ?_)
        rw [gB_uB]
        by_cases z : i = b
        · rw [if_pos ⟨rfl, z⟩, r2 k hk, z]
        · rw [if_neg (fun y => z y.2)]; exact g4 i (by omega) k hk
  obtain ⟨c', e1, e2, e3⟩ := outer FU 0 c1 (FU_gt (by omega)) (by omega) Fr.refl (fun i hi => by omega)
  refine ⟨c', e1, f1.trans (e2.weak (fun _ _ _ => rfl) (fun _ e => e)), TR.mk' (w := 8) (h := 8) (P := htP n) (Or.inr (Or.inr (Or.inr (Or.inl hL)))) (by omega) (by omega) (by omega) (by omega) ((e2.i rfl).trans z1) ((e2.i rfl).trans z2) (by rw [e2.i rfl, z3, hL]; rfl) (fun e => by rw [hL] at e; exact absurd e (by decide)) (fun i hi k hk => e3 i hi k (by omega)) (fun a b => ?_)⟩
  unfold pd htP
  rw [if_neg (by rw [hL]; decide), if_neg (by rw [hL]; decide), if_neg (by rw [hL]; decide), if_pos hL, hL1]
  rcases (show n = 1 ∨ n = 2 ∨ n = 3 ∨ n = 4 ∨ n = 5 ∨ n = 6 by omega) with rfl | rfl | rfl | rfl | rfl | rfl
  · rw [if_pos (by rfl), if_pos rfl, decide_eq_decide]; omega
  · rw [if_neg (by decide), if_pos (by rfl), if_neg (by decide), if_pos rfl, decide_eq_decide]; omega
  · rw [if_neg (by decide), if_neg (by decide), if_pos (by rfl), if_neg (by decide), if_neg (by decide), if_pos rfl, decide_eq_decide]; omega
  · rw [if_neg (by decide), if_neg (by decide), if_neg (by decide), if_pos (by rfl), if_neg (by decide), if_neg (by decide), if_neg (by decide), if_pos rfl, decide_eq_decide]; omega
  · rw [if_neg (by decide), if_neg (by decide), if_neg (by decide), if_neg (by decide), if_pos (by rfl), if_neg (by decide), if_neg (by decide), if_neg (by decide), if_neg (by decide), if_pos rfl]
    congr 1 <;> (rw [decide_eq_decide]; omega)
  · rw [if_neg (by decide), if_neg (by decide), if_neg (by decide), if_neg (by decide), if_neg (by decide), if_neg (by decide), if_neg (by decide), if_neg (by decide), if_neg (by decide), if_neg (by decide)]
    congr 1 <;> (rw [decide_eq_decide]; omega)
theorem TR.copy {t s : Nat} (h : TR c s L) (ne : t ≠ s) (hs : gI c 1002 s = 0 ∨ gI c 1002 s = 1) : ∃ c', f_X10_copy t s c = some ((), c') ∧ Fr (tF t) (tA t) c c' ∧ TR c' t L := by
  unfold f_X10_copy
  have e1 : gI (uI c 1000 t (gI c 1000 s)) 1001 s = gI c 1001 s := by rw [gI_uI, if_neg (by omega)]
  have e2 : gI (uI (uI c 1000 t (gI c 1000 s)) 1001 t (gI c 1001 s)) 1002 s = gI c 1002 s := by rw [gI_uI, if_neg (by omega), gI_uI, if_neg (by omega)]
  have ecp : ∀ {α : Type} (k : Nat → Nat → Nat → Option α), cp 0 0 16 16 16 k = k 0 0 16 := fun k => by
    unfold cp
    rw [if_neg (by decide)]; rfl
  rw [lb_eq, e1, lb_eq, e2, gd_eq hs, lb_eq, ecp, lb_eq]
  have f1 : Fr (tF t) (tA t) c (uI (uI (uI c 1000 t (gI c 1000 s)) 1001 t (gI c 1001 s)) 1002 t (gI c 1002 s)) := ((Fr.refl.uI _ (by simp [tF])).uI _ (by simp [tF])).uI _ (by simp [tF])
  have z1 : gI (uI (uI (uI c 1000 t (gI c 1000 s)) 1001 t (gI c 1001 s)) 1002 t (gI c 1002 s)) 1000 t = gI c 1000 s := by rw [gI_uI, if_neg (by omega), gI_uI, if_neg (by omega), gI_uI, if_pos ⟨rfl, rfl⟩]
  have z2 : gI (uI (uI (uI c 1000 t (gI c 1000 s)) 1001 t (gI c 1001 s)) 1002 t (gI c 1002 s)) 1001 t = gI c 1001 s := by rw [gI_uI, if_neg (by omega), gI_uI, if_pos ⟨rfl, rfl⟩]
  have z3 : gI (uI (uI (uI c 1000 t (gI c 1000 s)) 1001 t (gI c 1001 s)) 1002 t (gI c 1002 s)) 1002 t = gI c 1002 s := by rw [gI_uI, if_pos ⟨rfl, rfl⟩]
  have z4 : gB (uI (uI (uI c 1000 t (gI c 1000 s)) 1001 t (gI c 1001 s)) 1002 t (gI c 1002 s)) = gB c := rfl
  generalize uI (uI (uI c 1000 t (gI c 1000 s)) 1001 t (gI c 1001 s)) 1002 t (gI c 1002 s) = c1 at f1 z1 z2 z3 z4
  obtain ⟨a0, w, hh, a1, a2, a3, a4, a5, a6, a7, a8, a9⟩ := h
  refine ⟨_, rfl, f1.vB _ (by simp [tA]), a0, w, hh, a1, a2, a3, a4, z1.trans a5, z2.trans a6, z3.trans a7, a8, fun a b k hk hak => ?_⟩
  have m1 := Int.emod_nonneg b (show (hh : Int) ≠ 0 by omega)
  have m2 := Int.emod_lt_of_pos b (show (0 : Int) < hh by omega)
  rw [gB_vB, if_pos rfl, z4, show va_cpy (gB c (s + 1)) (gB c (t + 1)) 0 0 16 (b % (hh : Int)).toNat = gB c (s + 1) (b % (hh : Int)).toNat by rw [pk_cpy_in (by omega) (by omega)]; congr 1; omega]
  exact a9 a b k hk hak
end B2
