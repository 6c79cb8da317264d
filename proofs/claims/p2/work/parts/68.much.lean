/-! The class's writer when there is MUCH: it ends, and MUCH stays. -/
def cShF (_ i : Nat) : Bool := i == 5
def cShA (a : Nat) : Bool := a == 6 || a == 7 || a == 8
def MS (c : Mm) : Prop := (∃ s, s ≤ 60000 ∧ gI c 601 5 = nI s) ∧ gI c 603 5 = 1
def MSQ (c c' : Mm) : Prop := MS c' ∧ Fr (fun f i => i == 5 && f != 602) (fun a => a == 6) c c'
theorem MSQ.refl {c : Mm} (h : MS c) : MSQ c c := ⟨h, Fr.refl⟩
theorem MSQ.trans {c c' c2 : Mm} (h : MSQ c c') (h2 : MSQ c' c2) : MSQ c c2 := ⟨h2.1, h.2.trans h2.2⟩
theorem ms_byte {a : Int32} {c : Mm} (h : MS c) : wp (f_X6_putByte a c) (fun _ c' => MSQ c c') := by
  obtain ⟨⟨s, hs, e⟩, hm⟩ := h
  unfold f_X6_putByte
  rw [e, if_neg (nI_pos (by omega))]
  rcases Nat.lt_or_ge s 60000 with h | h
  · rw [show (60000 : Int32) = nI 60000 from rfl, if_neg (nI_ge h (by omega)), ix_in (j := s) (nI_pos (by omega)) (nI_clamp (by omega)) h]
    refine wp_ret ⟨⟨⟨s + 1, by omega, ?_⟩, ?_⟩, (Fr.refl.uA _ _ rfl).uI _ rfl⟩
    · rw [gI_uI, if_pos ⟨rfl, rfl⟩, gI_uA, e]; exact nI_1 s
    · exact hm
  · rw [show (60000 : Int32) = nI 60000 from rfl, if_pos (nI_le (a := 60000) h (by omega))]
    exact wp_ret ⟨⟨⟨s, hs, e⟩, by rw [gI_uI, if_pos ⟨rfl, rfl⟩]⟩, Fr.refl.uI _ rfl⟩
theorem ms_num {x : Int32} {k : Nat} {c : Mm} (hk : k ≤ 4) (h : MS c) : wp (f_X6_putNumber x (nI k) c) (fun _ c' => MSQ c c') := by
  have go : ∀ (i : Nat), i ≤ k → ∀ (n : Nat) (c : Mm), MS c → wp (f_X6_putNumber_l2 (n + i + 1) x (nI k) (nI (k - i)) c) (fun _ c' => MSQ c c') := by
    intro i
    induction i with
    | zero => intro _ n c h; rw [Nat.sub_zero, num_end]; exact wp_ret (MSQ.refl h)
    | succ i ih =>
      intro hi n c h
      rw [num_step (i := k - (i + 1)) (by omega) hk]
      refine wp_call (ms_byte h) ?_
      intro _ c2 h2
      rw [show k - (i + 1) + 1 = k - i by omega, show n + (i + 1) = n + i + 1 by omega]
      exact wp_mono (ih (by omega) n c2 h2.1) (fun _ c3 h3 => h2.trans h3)
  unfold f_X6_putNumber
  have := go k (Nat.le_refl k) (FU - k - 1) c h
  rw [Nat.sub_self] at this
  have hF : FU - k - 1 + k + 1 = FU := by have := FU_gt (k := k) (by omega); omega
  rw [hF] at this
  exact this
theorem ms_entry {a b v : Int32} {c : Mm} (h : MS c) : wp (f_X6_putEntry a b v c) (fun _ c' => MSQ c c') := by
  unfold f_X6_putEntry
  refine wp_call (ms_num (k := 4) (by omega) h) (fun _ c1 h1 => ?_)
  refine wp_call (ms_num (k := 4) (by omega) h1.1) (fun _ c2 h2 => ?_)
  refine wp_call (ms_num (k := 4) (by omega) h2.1) (fun _ c3 h3 => ?_)
  exact wp_ret ((h1.trans h2).trans h3)
theorem ms_set {a b : Int32} {c : Mm} (h : MS c) : wp (f_X6_setNumber a b c) (fun _ c' => MSQ c c') := by
  have go : ∀ (i n : Nat) (c : Mm), i ≤ 4 → MS c → wp (f_X6_setNumber_l2 (n + i + 1) a b (nI (4 - i)) c) (fun _ c' => MSQ c c') := by
    intro i
    induction i with
    | zero =>
      intro n c _ h
      show wp (f_X6_setNumber_b2 (f_X6_setNumber_l2 n) _ _ _ _) _
      unfold f_X6_setNumber_b2
      rw [if_pos (by decide)]; exact wp_ret (MSQ.refl h)
    | succ i ih =>
      intro n c hi h
      show wp (f_X6_setNumber_b2 (f_X6_setNumber_l2 (n + i + 1)) _ _ _ _) _
      unfold f_X6_setNumber_b2
      rw [show (4 : Int32) = nI 4 from rfl, if_neg (nI_ge (a := 4 - (i + 1)) (b := 4) (by omega) (by omega)), nI_1, show 4 - (i + 1) + 1 = 4 - i by omega]
      split
      · exact ih n c (by omega) h
      · split
        · exact ih n c (by omega) h
        · split
          · exact ih n c (by omega) h
          · rename_i h1 h2 h3
            rcases pk_ix (a + nI (4 - (i + 1))) (n := 60000) (by decide) with q | q | ⟨j, hj, q⟩
            · exact absurd q h1
            · exact absurd q h3
            · rw [q, ix_in (j := j) (nI_pos (by omega)) (nI_clamp (by omega)) hj, lb_eq]
              refine wp_mono (ih n _ (by omega) ?_) (fun _ c3 h3 => MSQ.trans ⟨?_, Fr.refl.uA _ _ rfl⟩ h3)
              · exact h
              · exact h
  exact go 4 3999999995 c (by omega) h
theorem ms_dir {w h st ln : Int32} {p : Nat} {c : Mm} (hp : p < 12) (h2 : gI c 602 5 = nI p) (hm : MS c) : wp (f_X6_come_151 w h st ln c) (fun _ c' => gI c' 603 5 = 1 ∧ gI c' 602 5 = nI (p + 1) ∧ Fr cShF cShA c c') := by
  have dir : wp (f_X6_writeDirectory w h st ln c) (fun _ c' => MSQ c c') := by
    unfold f_X6_writeDirectory
    refine wp_call (ms_set hm) (fun _ c1 h1 => ?_)
    rw [lb_eq]
    refine wp_call (ms_num (k := 2) (by omega) h1.1) (fun _ c2 h2 => ?_)
    refine wp_call (ms_entry h2.1) (fun _ c3 h3 => ?_)
    refine wp_call (ms_entry h3.1) (fun _ c4 h4 => ?_)
    refine wp_call (ms_entry h4.1) (fun _ c5 h5 => ?_)
    refine wp_call (ms_entry h5.1) (fun _ c6 h6 => ?_)
    refine wp_call (ms_entry h6.1) (fun _ c7 h7 => ?_)
    refine wp_call (ms_entry h7.1) (fun _ c8 h8 => ?_)
    refine wp_call (ms_entry h8.1) (fun _ c9 h9 => ?_)
    refine wp_call (ms_entry h9.1) (fun _ c10 h10 => ?_)
    refine wp_call (ms_entry h10.1) (fun _ c11 h11 => ?_)
    refine wp_call (ms_entry h11.1) (fun _ c12 h12 => ?_)
    refine wp_call (ms_entry h12.1) (fun _ c13 h13 => ?_)
    refine wp_call (ms_entry h13.1) (fun _ c14 h14 => ?_)
    refine wp_call (ms_entry h14.1) (fun _ c15 h15 => ?_)
    rw [lb_eq]
    have h16 : MSQ c15 (uI c15 607 5 (gI c15 601 5)) := ⟨h15.1, Fr.refl.uI _ rfl⟩
    refine wp_call (ms_num (k := 4) (by omega) h16.1) (fun _ c17 h17 => ?_)
    refine wp_call (ms_num (k := 4) (by omega) h17.1) (fun _ c18 h18 => ?_)
    refine wp_call (ms_num (k := 4) (by omega) h18.1) (fun _ c19 h19 => ?_)
    exact wp_ret (h1.trans (h2.trans (h3.trans (h4.trans (h5.trans (h6.trans (h7.trans (h8.trans (h9.trans (h10.trans (h11.trans (h12.trans (h13.trans (h14.trans (h15.trans (h16.trans (h17.trans (h18.trans h19))))))))))))))))))
  unfold f_X6_come_151
  refine wp_call dir ?_
  rintro _ c1 ⟨⟨_, hm1⟩, f1⟩
  have e : gI c1 602 5 = nI p := (f1.i rfl).trans h2
  rw [e, ix_in (j := p) (nI_pos (by omega)) (nI_clamp (by omega)) hp, lb_eq, gI_uA, e, ix_in (j := p) (nI_pos (by omega)) (nI_clamp (by omega)) hp, lb_eq, lb_eq]
  refine wp_ret ⟨hm1, ?_, Fr.trans (f1.weak (fun f i e => by simp only [cShF] at e; simp_all) (fun a e => by simp only [cShA] at e; simp_all)) (((Fr.refl.uA _ _ rfl).uA _ _ rfl).uI _ rfl)⟩
  rw [gI_uI, if_pos ⟨rfl, rfl⟩, gI_uA, gI_uA, e]; exact nI_1 p
