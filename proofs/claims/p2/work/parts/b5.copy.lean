/-! The environment copied, kept and brought back. -/
def cpF (l : List Nat) (i j : Nat) (T : Mm) : Mm := l.foldl (fun T f => uI T f i (gI T f j)) T
section B5
variable {c c' m m' : Mm} {g : Nat → Int32}
theorem cpF_ok {i j : Nat} (ne : i ≠ j) : ∀ (l : List Nat) (T : Mm), (∀ f, gI (cpF l i j T) f i = if f ∈ l then gI T f j else gI T f i) ∧ Fr (fun _ k => k == i) (fun _ => false) T (cpF l i j T) := by
  intro l
  induction l with
  | nil => intro T; exact ⟨fun f => by rw [if_neg (by simp)]; rfl, Fr.refl⟩
  | cons a l ih =>
    intro T
    obtain ⟨h1, h2⟩ := ih (uI T a i (gI T a j))
    refine ⟨fun f => ?_, (Fr.refl.uI _ (by simp)).trans h2⟩
    show gI (cpF l i j (uI T a i (gI T a j))) f i = _
    rw [h1]
    by_cases e : f ∈ l
    · rw [if_pos e, if_pos (List.mem_cons_of_mem _ e), gI_uI, if_neg (fun z => ne z.2.symm)]
    · rw [if_neg e, gI_uI]
      by_cases e2 : f = a
      · rw [if_pos ⟨e2, rfl⟩, if_pos (by rw [e2]; exact List.mem_cons_self ..), e2]
      · rw [if_neg (fun z => e2 z.1), if_neg (fun z => (List.mem_cons.mp z).elim e2 e)]
def enF (E : Nat) (_ i : Nat) : Bool := decide (E ≤ i) && decide (i ≤ E + 8)
def enA (E : Nat) (i : Nat) : Bool := decide (E ≤ i) && decide (i ≤ E + 8)
theorem enA_n {E i : Nat} (h : i < E ∨ E + 8 < i) : enA E i = false := by unfold enA; simp; omega
theorem cp_in {α : Type} {n : Nat} (hn : n < 1000) (k : Nat → Nat → Nat → Option α) : cp 0 0 (nI n) n n k = k 0 0 n := by
  unfold cp
  rw [nI_clamp (by omega), show ((0 : Int32)).toNatClampNeg = 0 from rfl, if_neg]
  rintro (h | h | h | h | h)
  · exact absurd h (by decide)
  · exact absurd h (by decide)
  · exact nI_pos (by omega) h
  · omega
  · omega
/-- what an environment needs of a copy -/
theorem EVq.move {t s : Nat} (h : EVq c s g) (e1 : ∀ q, q ∈ envT → gI c' q.1 (t + q.2.1) = gI c q.1 (s + q.2.1)) (e2 : gI c' 402 (t + 3) = gI c 402 (s + 3)) (e3 : gI c' 403 (t + 3) = gI c 403 (s + 3)) (e4 : gI c' 406 (t + 3) = gI c 406 (s + 3)) (e5 : ∀ j, j < 40 → gA c' (t + 2) j = gA c (s + 2) j) (e6 : ∀ j, j < 20 → gA c' (t + 4) j = gA c (s + 4) j) (e7 : TR c' (t + 5) (fun k => g (29 + k))) (e11 : ∀ j, j < 8 → gA c' (t + 7) j = gA c (s + 7) j) (e12 : ∀ j, j < 8 → gA c' (t + 8) j = gA c (s + 8) j) : EVq c' t g := by
  refine EVq_mk (fun q hq => (e1 q hq).trans (h.i q hq)) (e2.trans h.w) (e3.trans h.h) (fun a b => e4.trans (h.r a b)) (fun j hj hj2 => (e5 j hj).trans (h.p j hj hj2)) (fun i hi => by rw [e6 _ (by omega)]; exact h.b i hi) e7 (fun k hk => (e11 k hk).trans (h.f k hk)) (fun k hk => (e12 k hk).trans (h.s k hk))
theorem b01' {v : Int32} {n : Nat} (h : v = nI n) (h1 : n ≤ 1) : v = 0 ∨ v = 1 := by
  rcases (show n = 0 ∨ n = 1 by omega) with rfl | rfl
  · exact Or.inl h
  · exact Or.inr h
theorem EVq.copy {t s : Nat} (h : EVq c s g) (b : EB g) (ds : t + 8 < s ∨ s + 8 < t) : ∃ c', f_X1_copy t s c = some ((), c') ∧ Fr (enF t) (enA t) c c' ∧ EVq c' t g := by
  -- the sheet
  obtain ⟨c1, hc1⟩ : ∃ c1, c1 = cpF [700, 701, 702, 703, 704, 705, 706, 707, 708, 709, 710, 711] (t + 1) (s + 1) c := ⟨_, rfl⟩
  have k1 := cpF_ok (i := t + 1) (j := s + 1) (by omega) [700, 701, 702, 703, 704, 705, 706, 707, 708, 709, 710, 711] c
  rw [← hc1] at k1
  obtain ⟨c2, hc2⟩ : ∃ c2, c2 = vA c1 (t + 2) (va_cpy (gA c1 (s + 2)) (gA c1 (t + 2)) 0 0 40) := ⟨_, rfl⟩
  have r2 : f_X7_copy (t + 1) (s + 1) c = some ((), c2) := by
    rw [hc2, hc1]
    rw [show f_X7_copy (t + 1) (s + 1) c = cp 0 0 40 40 40 (fun q1 q2 q3 => lb (vA (cpF [700, 701, 702, 703, 704, 705, 706, 707, 708, 709, 710, 711] (t + 1) (s + 1) c) (t + 1 + 1) (va_cpy (gA (cpF [700, 701, 702, 703, 704, 705, 706, 707, 708, 709, 710, 711] (t + 1) (s + 1) c) (s + 1 + 1)) (gA (cpF [700, 701, 702, 703, 704, 705, 706, 707, 708, 709, 710, 711] (t + 1) (s + 1) c) (t + 1 + 1)) q1 q2 q3)) fun T => some ((), T)) from rfl, show (40 : Int32) = nI 40 from rfl, cp_in (by omega)]
    rfl
  have f2 : Fr (fun _ k => k == t + 1) (fun a => a == t + 2) c c2 := by
    rw [hc2]
    exact (k1.2.weak (fun _ _ e => e) (fun _ _ => rfl)).vA _ (by simp)
  -- raster graphics
  have x404 : gI c2 404 (s + 3) = 0 ∨ gI c2 404 (s + 3) = 1 := by
    obtain ⟨n, n1, n2⟩ := b.k57
    rw [f2.i (by simp; omega), h.i (404, 3, 57) (by decide)]
    exact b01' n1 n2
  obtain ⟨c3, hc3⟩ : ∃ c3, c3 = cpF [400, 401, 402, 403, 404, 405, 406] (t + 3) (s + 3) c2 := ⟨_, rfl⟩
  have k3 := cpF_ok (i := t + 3) (j := s + 3) (by omega) [400, 401, 402, 403, 404, 405, 406] c2
  rw [← hc3] at k3
  obtain ⟨c4, hc4⟩ : ∃ c4, c4 = vA c3 (t + 4) (va_cpy (gA c3 (s + 4)) (gA c3 (t + 4)) 0 0 20) := ⟨_, rfl⟩
  have r4 : f_X4_copy (t + 3) (s + 3) c2 = some ((), c4) := by
    rw [hc4, hc3]
    have kk := (cpF_ok (i := t + 3) (j := s + 3) (by omega) [400, 401, 402, 403] c2).2
    rw [show f_X4_copy (t + 3) (s + 3) c2 = gd (gI (cpF [400, 401, 402, 403] (t + 3) (s + 3) c2) 404 (s + 3) = 0 ∨ gI (cpF [400, 401, 402, 403] (t + 3) (s + 3) c2) 404 (s + 3) = 1) (cp 0 0 20 20 20 (fun q1 q2 q3 => lb (vA (cpF [400, 401, 402, 403, 404, 405, 406] (t + 3) (s + 3) c2) (t + 3 + 1) (va_cpy (gA (cpF [400, 401, 402, 403, 404, 405, 406] (t + 3) (s + 3) c2) (s + 3 + 1)) (gA (cpF [400, 401, 402, 403, 404, 405, 406] (t + 3) (s + 3) c2) (t + 3 + 1)) q1 q2 q3)) fun T => some ((), T))) from rfl, gd_eq (by rw [kk.i (by simp; omega)]; exact x404), show (20 : Int32) = nI 20 from rfl, cp_in (by omega)]
    rfl
  have f4 : Fr (fun _ k => k == t + 3) (fun a => a == t + 4) c2 c4 := by
    rw [hc4]
    exact (k3.2.weak (fun _ _ e => e) (fun _ _ => rfl)).vA _ (by simp)
  -- the pattern
  have F4 : Fr (fun _ k => k == t + 1 || k == t + 3) (fun a => a == t + 2 || a == t + 4) c c4 := (f2.weak (fun f i e => by revert e; simp; omega) (fun a e => by revert e; simp; omega)).trans (f4.weak (fun f i e => by revert e; simp) (fun a e => by revert e; simp))
  have tr4 : TR c4 (s + 5) (fun k => g (29 + k)) := h.t.fr (F4.i (by simp; omega)) (F4.i (by simp; omega)) (F4.i (by simp; omega)) (F4.b (by simp; omega))
  have x1002 : gI c4 1002 (s + 5) = 0 ∨ gI c4 1002 (s + 5) = 1 := by
    obtain ⟨_, w, hh, _, _, _, _, _, _, z, _⟩ := tr4
    rw [z]
    cases decide (g (29 + 0) = 1)
    · exact Or.inl rfl
    · exact Or.inr rfl
  obtain ⟨c5, r5, f5, t5⟩ := tr4.copy (t := t + 5) (by omega) x1002
  have F5 : Fr (fun _ k => k == t + 1 || k == t + 3 || k == t + 5) (fun a => a == t + 2 || a == t + 4 || a == t + 6) c c5 := (F4.weak (fun f i e => by revert e; simp; omega) (fun a e => by revert e; simp; omega)).trans (f5.weak (fun f i e => by unfold tF; revert e; simp; intro _ _ z z2; exact absurd z2 z) (fun a e => by unfold tA; revert e; simp))
  -- the wishes
  obtain ⟨c6, hc6⟩ : ∃ c6, c6 = vA c5 (t + 7) (va_cpy (gA c5 (s + 7)) (gA c5 (t + 7)) 0 0 8) := ⟨_, rfl⟩
  obtain ⟨c7, hc7⟩ : ∃ c7, c7 = vA c6 (t + 8) (va_cpy (gA c6 (s + 8)) (gA c6 (t + 8)) 0 0 8) := ⟨_, rfl⟩
  have f7 : Fr (fun _ _ => false) (fun a => a == t + 7 || a == t + 8) c5 c7 := by rw [hc7, hc6]; exact (Fr.refl.vA _ (by simp)).vA _ (by simp)
  have F7 : Fr (fun _ k => k == t + 1 || k == t + 3 || k == t + 5) (fun a => a == t + 2 || a == t + 4 || a == t + 6 || a == t + 7 || a == t + 8) c c7 := (F5.weak (fun _ _ e => e) (fun a e => by revert e; simp; omega)).trans (f7.weak (fun _ _ _ => rfl) (fun a e => by revert e; simp; omega))
  -- the fields
  obtain ⟨cz, hcz⟩ : ∃ cz, cz = cpF [105, 106, 107, 108, 109, 110, 111, 112, 113, 114, 115, 116, 117, 118, 119, 120] t s c7 := ⟨_, rfl⟩
  have kz := cpF_ok (i := t) (j := s) (by omega) [105, 106, 107, 108, 109, 110, 111, 112, 113, 114, 115, 116, 117, 118, 119, 120] c7
  rw [← hcz] at kz
  have bl : ∀ (f k : Nat), (f, 0, k) ∈ envT → (∃ n, g k = nI n ∧ n ≤ 1) → ∀ l : List Nat, gI (cpF l t s c7) f s = 0 ∨ gI (cpF l t s c7) f s = 1 := fun f k hm ⟨n, n1, n2⟩ l => by
    have e1 := (cpF_ok (i := t) (j := s) (by omega) l c7).2
    rw [e1.i (by simp; omega), F7.i (by simp; omega)]
    exact b01' ((h.i (f, 0, k) hm).trans n1) n2
  refine ⟨cz, ?_, ?_, ?_⟩
  · unfold f_X1_copy
    rw [r2, bd_eq, r4, bd_eq, r5, bd_eq, show (8 : Int32) = nI 8 from rfl, cp_in (by omega), lb_eq, ← hc6, cp_in (by omega), lb_eq, ← hc7]
    refine (gd_eq (bl 105 28 (by decide) b.k28 [])).trans ?_
    refine (gd_eq (bl 107 9 (by decide) b.k9 [105, 106])).trans ?_
    refine (gd_eq (bl 109 11 (by decide) b.k11 [105, 106, 107, 108])).trans ?_
    refine (gd_eq (bl 110 49 (by decide) b.k49 [105, 106, 107, 108, 109])).trans ?_
    refine (gd_eq (bl 111 50 (by decide) b.k50 [105, 106, 107, 108, 109, 110])).trans ?_
    rw [hcz]
    rfl
  · refine (F7.weak (fun f i e => ?_) (fun a e => ?_)).trans (kz.2.weak (fun f i e => ?_) (fun _ _ => rfl))
    · by_cases q : t ≤ i ∧ i ≤ t + 8
      · unfold enF at e
        rw [decide_eq_true q.1, decide_eq_true q.2] at e; cases e
      · simp; omega
    · by_cases q : t ≤ a ∧ a ≤ t + 8
      · unfold enA at e
        rw [decide_eq_true q.1, decide_eq_true q.2] at e; cases e
      · simp; omega
    · by_cases q : t ≤ i ∧ i ≤ t + 8
      · unfold enF at e
        rw [decide_eq_true q.1, decide_eq_true q.2] at e; cases e
      · simp; omega
  · have f1 : ∀ f, f ∈ [700, 701, 702, 703, 704, 705, 706, 707, 708, 709, 710, 711] → gI cz f (t + 1) = gI c f (s + 1) := fun f hf => by
      rw [kz.2.i (by simp), f7.i rfl, f5.i (by unfold tF; simp), f4.i (by simp), hc2, gI_vA, k1.1, if_pos hf]
    have f3 : ∀ f, f ∈ [400, 401, 402, 403, 404, 405, 406] → gI cz f (t + 3) = gI c f (s + 3) := fun f hf => by
      rw [kz.2.i (by simp), f7.i rfl, f5.i (by unfold tF; simp), hc4, gI_vA, k3.1, if_pos hf, f2.i (by simp; omega)]
    have f0 : ∀ f, f ∈ [105, 106, 107, 108, 109, 110, 111, 112, 113, 114, 115, 116, 117, 118, 119, 120] → gI cz f t = gI c f s := fun f hf => by
      rw [kz.1, if_pos hf, F7.i (by simp; omega)]
    have cpy : ∀ (u v : Nat → Int32) (n j : Nat), j < n → va_cpy u v 0 0 n j = u j := fun u v n j hj => by
      rw [pk_cpy_in (by omega) (by omega)]; congr 1; omega
    refine h.move (fun q hq => ?_) (f3 402 (by simp)) (f3 403 (by simp)) (f3 406 (by simp)) (fun j hj => ?_) (fun j hj => ?_) ?_ (fun j hj => ?_) (fun j hj => ?_)
    · have hs : ∀ q, q ∈ envT → (q.2.1 = 1 ∧ q.1 ∈ [700, 701, 702, 703, 704, 705, 706, 707, 708, 709, 710, 711]) ∨ (q.2.1 = 3 ∧ q.1 ∈ [400, 401, 402, 403, 404, 405, 406]) ∨ (q.2.1 = 0 ∧ q.1 ∈ [105, 106, 107, 108, 109, 110, 111, 112, 113, 114, 115, 116, 117, 118, 119, 120]) := by decide +kernel
      rcases hs q hq with ⟨a1, a2⟩ | ⟨a1, a2⟩ | ⟨a1, a2⟩
      · rw [a1]; exact f1 _ a2
      · rw [a1]; exact f3 _ a2
      · rw [a1]; exact f0 _ a2
    · rw [kz.2.a rfl, f7.a (by simp), f5.a (by unfold tA; simp), f4.a (by simp), hc2, gA_vA, if_pos rfl, cpy _ _ _ _ hj, k1.2.a rfl]
    · rw [kz.2.a rfl, f7.a (by simp), f5.a (by unfold tA; simp), hc4, gA_vA, if_pos rfl, cpy _ _ _ _ hj, k3.2.a rfl, f2.a (by simp; omega)]
    · exact t5.fr (by rw [kz.2.i (by simp), f7.i rfl]) (by rw [kz.2.i (by simp), f7.i rfl]) (by rw [kz.2.i (by simp), f7.i rfl]) (by rw [kz.2.b rfl, f7.b (by simp)])
    · rw [kz.2.a rfl, hc7, gA_vA, if_neg (by omega), hc6, gA_vA, if_pos rfl, cpy _ _ _ _ hj, F5.a (by simp; omega)]
    · rw [kz.2.a rfl, hc7, gA_vA, if_pos rfl, cpy _ _ _ _ hj, hc6, gA_vA, if_neg (by omega), F5.a (by simp; omega)]
end B5
