/-! Run lengths in the fax code, read on both sides. -/
def RunT (c : Mm) : Prop := ∀ (col : Bool) (v : Nat), v < 8192 → (∀ k, k < 74 → v / 2 ^ (13 - rb (74 * bN col + k)) = rc (74 * bN col + k) → gA c 132 (8192 * bN col + v) = nI (74 * bN col + k + 1)) ∧ ((∀ k, k < 74 → v / 2 ^ (13 - rb (74 * bN col + k)) ≠ rc (74 * bN col + k)) → gA c 132 (8192 * bN col + v) = 0)
set_option maxRecDepth 100000 in
theorem run_pf : ∀ c, c < 2 → ∀ i, i < 74 → ∀ j, j < 74 → (rb (74 * c + i) ≤ rb (74 * c + j) ∧ rc (74 * c + j) / 2 ^ (rb (74 * c + j) - rb (74 * c + i)) = rc (74 * c + i)) → i = j := by decide +kernel
theorem run_1 : ∀ j, j < 148 → 1 ≤ rb j := by decide +kernel
def hit (bs : Nat → Bool) (q : Nat) (col : Bool) (k : Nat) : Prop := k < 74 ∧ pkb bs q (rb (74 * bN col + k)) = rc (74 * bN col + k)
theorem pkb_div (bs : Nat → Bool) (q a b : Nat) (h : a ≤ b) : pkb bs q b / 2 ^ (b - a) = pkb bs q a := by
  obtain ⟨d, rfl⟩ := Nat.exists_eq_add_of_le h
  rw [pkb_add, show a + d - a = d by omega, Nat.add_comm, Nat.add_mul_div_right _ _ (Nat.two_pow_pos d), Nat.div_eq_of_lt (pkb_lt _ _ _), Nat.zero_add]
theorem hit_one {bs : Nat → Bool} {q : Nat} {col : Bool} {k l : Nat} (h1 : hit bs q col k) (h2 : hit bs q col l) : k = l := by
  have hc := bN_lt col
  rcases Nat.le_total (rb (74 * bN col + k)) (rb (74 * bN col + l)) with h | h
  · exact run_pf _ hc k h1.1 l h2.1 ⟨h, by rw [← h2.2, ← h1.2]; exact pkb_div _ _ _ _ h⟩
  · exact (run_pf _ hc l h2.1 k h1.1 ⟨h, by rw [← h2.2, ← h1.2]; exact pkb_div _ _ _ _ h⟩).symm
noncomputable def oneR (bs : Nat → Bool) (nb : Nat) (col : Bool) (q : Nat) : Option (Nat × Nat) := @dite _ (∃ k, hit bs q col k ∧ q + rb (74 * bN col + k) ≤ nb) (Classical.propDecidable _) (fun h => some (h.choose, q + rb (74 * bN col + h.choose))) (fun _ => none)
theorem oneR_some {bs : Nat → Bool} {nb q k : Nat} {col : Bool} (h : hit bs q col k) (h2 : q + rb (74 * bN col + k) ≤ nb) : oneR bs nb col q = some (k, q + rb (74 * bN col + k)) := by
  have hx : ∃ k, hit bs q col k ∧ q + rb (74 * bN col + k) ≤ nb := ⟨k, h, h2⟩
  unfold oneR
  rw [dif_pos hx, hit_one hx.choose_spec.1 h]
theorem oneR_none {bs : Nat → Bool} {nb q : Nat} {col : Bool} (h : ∀ k, hit bs q col k → nb < q + rb (74 * bN col + k)) : oneR bs nb col q = none := by
  unfold oneR
  rw [dif_neg]
  rintro ⟨k, h1, h2⟩
  have := h k h1; omega
theorem oneR_lt {bs : Nat → Bool} {nb q k q1 : Nat} {col : Bool} (h : oneR bs nb col q = some (k, q1)) : k < 74 ∧ q ≤ q1 ∧ q1 ≤ nb := by
  unfold oneR at h
  split at h
  · rename_i hx
    have e := Option.some.inj h
    rw [Prod.mk.injEq] at e
    obtain ⟨e1, e2⟩ := e
    have := hx.choose_spec
    rw [← e1, ← e2]
    exact ⟨this.1.1, by omega, this.2⟩
  · cases h
noncomputable def runR (bs : Nat → Bool) (nb : Nat) (col : Bool) (q : Nat) : Option (Nat × Nat) := match oneR bs nb col q with
  | none => none
  | some (k, q1) => if k < 64 then some (k, q1) else match oneR bs nb col q1 with
    | none => none
    | some (k2, q2) => if k2 < 64 then some ((k - 63) * 64 + k2, q2) else none
theorem cI_bN (c : Bool) : cI c = nI (bN c) := by cases c <;> rfl
/-- one code, in the class -/
theorem c_one {c : Mm} {nb q : Nat} {bs : Nat → Bool} (h : StC c nb bs) (hR : RunT c) (hq : gI c 318 129 = nI q) (hq2 : q < 2 ^ 27) (col : Bool) (a2 a3 : Int32) (ha : ¬ (2 : Int32) ≤ a3) (k4 : Int32 → Int32 → Int32 → Mm → Option (Int32 × Mm)) : ∃ q', q' ≤ q + 13 ∧ f_X3_readRun_b4 k4 (cI col) a2 a3 c = (match oneR bs nb col q with | none => some (-1, uI c 318 129 (nI q')) | some (k, _) => if 64 ≤ k then k4 (cI col) (nI ((k - 63) * 64)) (a3 + 1) (uI c 318 129 (nI q')) else some (a2 + nI k, uI c 318 129 (nI q'))) ∧ (∀ k q1, oneR bs nb col q = some (k, q1) → q' = q1) := by
  have hid : uI c 318 129 (nI q) = c := by rw [← hq]; exact uI_id c 318 129
  have hcol := bN_lt col
  unfold f_X3_readRun_b4
  rw [if_neg ha, show (13 : Int32) = nI 13 from rfl, c_peek h hq (by omega) (by omega), bd_eq, cI_bN]
  have hv := pkb_lt bs q 13
  have e13 : nI (bN col) <<< (nI 13 &&& 31) = nI (bN col * 2 ^ 13) := pk_shlN (n := bN col) _ 13 (by decide) (by omega)
  rw [e13, nI_add, lb_eq, if_neg (nI_pos (by omega)), show (16384 : Int32) = nI 16384 from rfl, if_neg (nI_ge (by omega) (by omega)), ix_in (j := bN col * 2 ^ 13 + pkb bs q 13) (nI_pos (by omega)) (nI_clamp (by omega)) (by omega), show bN col * 2 ^ 13 + pkb bs q 13 = 8192 * bN col + pkb bs q 13 by omega]
  obtain ⟨r1, r2⟩ := hR col (pkb bs q 13) hv
  by_cases ex : ∃ k, hit bs q col k
  · obtain ⟨k, hk⟩ := ex
    obtain ⟨_, eb, hb3, _⟩ := run_tab (74 * bN col + k) (by have := hk.1; omega)
    have ebits := (run_tab (74 * bN col + k) (by have := hk.1; omega)).1
    have ek := r1 k hk.1 (by rw [pkb_div bs q _ 13 hb3]; exact hk.2)
    refine ⟨q + rb (74 * bN col + k), by omega, ?_, ?_⟩
    · rw [ek]
      have e1 : nI (74 * bN col + k + 1) - 1 = nI (74 * bN col + k) := pk_sub (a := 74 * bN col + k + 1) (b := 1) (by omega)
      rw [e1]
      unfold f_X3_readRun_50
      have hk74 := hk.1
      rw [if_neg (nI_pos (by omega)), show (148 : Int32) = nI 148 from rfl, if_neg (nI_ge (by omega) (by omega)), ix_in (j := 74 * bN col + k) (nI_pos (by omega)) (nI_clamp (by omega)) (by omega), ebits, c_skip h hq (by omega), bd_eq]
      by_cases z : q + rb (74 * bN col + k) ≤ nb
      · rw [decide_eq_true z, if_neg (by decide), oneR_some hk z]
        have e2 : nI (74 * bN col + k) - nI (bN col) * 74 = nI k := by
          rw [show nI (bN col) * 74 = nI (bN col * 74) from pk_mul (bN col) 74, pk_sub (by omega)]; congr 1; omega
        rw [e2, lb_eq, show (64 : Int32) = nI 64 from rfl]
        by_cases g : 64 ≤ k
        · rw [if_pos (nI_le g (by omega)), lb_eq]
          show _ = if 64 ≤ k then _ else _
          rw [if_pos g, pk_sub g, show nI (k - 64) + 1 = nI (k - 63) from by rw [nI_1]; congr 1; omega, pk_mul]
        · rw [if_neg (nI_ge (by omega) (by omega))]
          show _ = if 64 ≤ k then _ else _
          rw [if_neg g]
      · rw [decide_eq_false z, if_pos (by decide), oneR_none]
        intro l hl
        rw [hit_one hl hk]; omega
    · intro k' q1 e
      by_cases z : q + rb (74 * bN col + k) ≤ nb
      · rw [oneR_some hk z] at e
        have := (Prod.mk.injEq _ _ _ _).mp (Option.some.inj e)
        exact this.2
      · rw [oneR_none (fun l hl => by rw [hit_one hl hk]; omega)] at e; cases e
  · refine ⟨q, by omega, ?_, ?_⟩
    · rw [r2 (fun k hk e => ex ⟨k, hk, by rw [← e, pkb_div bs q _ 13 (run_tab (74 * bN col + k) (by omega)).2.2.1]⟩)]
      unfold f_X3_readRun_50
      rw [if_pos (by decide), oneR_none (fun l hl => absurd ⟨l, hl⟩ ex), hid]
    · intro k' q1 e
      rw [oneR_none (fun l hl => absurd ⟨l, hl⟩ ex)] at e; cases e
def rrv : Option (Nat × Nat) → Int32
  | none => -1
  | some (n, _) => nI n
theorem c_readRun {c : Mm} {nb q : Nat} {bs : Nat → Bool} (h : StC c nb bs) (hR : RunT c) (hq : gI c 318 129 = nI q) (hq2 : q < 2 ^ 26) (col : Bool) : ∃ q', q' ≤ q + 26 ∧ f_X3_readRun (cI col) c = some (rrv (runR bs nb col q), uI c 318 129 (nI q')) ∧ (∀ n q2, runR bs nb col q = some (n, q2) → q' = q2) := by
  unfold f_X3_readRun
  show ∃ q', _ ∧ f_X3_readRun_b4 (f_X3_readRun_l4 3999999999) _ _ _ _ = _ ∧ _
  obtain ⟨q1, h1, e1, f1⟩ := c_one h hR hq (by omega) col 0 0 (by decide) (f_X3_readRun_l4 3999999999)
  rw [e1]
  unfold runR
  cases ho : oneR bs nb col q with
  | none => exact ⟨q1, by omega, rfl, fun n q2 e => by cases e⟩
  | some kq =>
    obtain ⟨k, qq⟩ := kq
    have hl := oneR_lt ho
    have := f1 k qq ho
    subst this
    by_cases g : 64 ≤ k
    · have g2 : ¬ k < 64 := by omega
      simp only [if_pos g, if_neg g2]
      show ∃ q', _ ∧ f_X3_readRun_b4 (f_X3_readRun_l4 3999999998) _ _ _ _ = _ ∧ _
      have h' : StC (uI c 318 129 (nI q1)) nb bs := h
      have hR' : RunT (uI c 318 129 (nI q1)) := hR
      have hq' : gI (uI c 318 129 (nI q1)) 318 129 = nI q1 := by rw [gI_uI, if_pos ⟨rfl, rfl⟩]
      obtain ⟨q2, h2, e2, f2⟩ := c_one h' hR' hq' (by omega) col (nI ((k - 63) * 64)) (0 + 1) (by decide) (f_X3_readRun_l4 3999999998)
      rw [e2]
      have us : ∀ x, uI (uI c 318 129 (nI q1)) 318 129 x = uI c 318 129 x := fun x => uI_same _ _ _ _ _
      cases hp : oneR bs nb col q1 with
      | none => exact ⟨q2, by omega, by simp only [us]; rfl, fun n q2 e => by cases e⟩
      | some kq2 =>
        obtain ⟨k2, qq2⟩ := kq2
        have := f2 k2 qq2 hp
        subst this
        by_cases g3 : 64 ≤ k2
        · have g4 : ¬ k2 < 64 := by omega
          simp only [if_pos g3, if_neg g4, us]
          refine ⟨q2, by omega, ?_, fun n q2 e => by cases e⟩
          show f_X3_readRun_b4 (f_X3_readRun_l4 3999999997) _ _ _ _ = _
          unfold f_X3_readRun_b4
          rw [if_pos (by decide)]; rfl
        · have g4 : k2 < 64 := by omega
          simp only [if_neg g3, if_pos g4, us]
          refine ⟨q2, by omega, ?_, fun n q3 e => ?_⟩
          · rw [nI_add]; rfl
          · have := (Prod.mk.injEq _ _ _ _).mp (Option.some.inj e); exact this.2
    · have g2 : k < 64 := by omega
      simp only [if_neg g, if_pos g2]
      refine ⟨q1, by omega, ?_, fun n q3 e => ?_⟩
      · rw [show (0 : Int32) = nI 0 from rfl, nI_add, Nat.zero_add]; rfl
      · have := (Prod.mk.injEq _ _ _ _).mp (Option.some.inj e); exact this.2
