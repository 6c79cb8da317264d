/-! The data of a field, on both sides; data shown. -/
def DT (c m : Mm) (d A o M o' n : Nat) (F : Nat → Nat) (p s : Nat) : Prop := SRC c m d A o M o' n F ∧ gI c 511 (125 + d) = nI (o + p) ∧ gI c 512 (125 + d) = nI s ∧ p + s ≤ n ∧ gI m 1227 133 = nI (o' + p)
section G1
variable {c c' c0 c1 c2 c3 m m' m0 m1 m2 m3 T : Mm} {d w b A o M o' n p r q a i s : Nat} {F : Nat → Nat} {ov ov' ng sg : Bool} {g L : Nat → Int32} {Gc Gm : Gty} {PF QF : Nat → Nat → Bool} {PA QA : Nat → Bool}
theorem c_data (h : DT c m d A o M o' n F p s) (hi : i < 40000) : f_X5_dataByte (125 + d) (nI i) c = some (if i < s then nI (F (p + i)) else 0, c) := by
  obtain ⟨S, h1, h2, h3, _⟩ := h
  have n1 := S.n1
  unfold f_X5_dataByte
  rw [h1, h2, nI_add, lb_eq, if_neg (nI_pos (by omega))]
  by_cases q : i < s
  · rw [if_neg (nI_ge (by omega) (by omega)), if_neg (nI_pos (by omega)), S.r1, if_neg (show ¬ Int32.ofNat (LN A) ≤ nI (o + p + i) from nI_ge (b := LN A) (by omega) (by omega)), S.r1, ix_in (j := o + p + i) (nI_pos (by omega)) (nI_clamp (by omega)) (by omega), if_pos q, show o + p + i = o + (p + i) by omega, S.s _ (by omega), S.f _ (by omega)]
  · rw [if_pos (nI_le (by omega) (by omega)), if_neg q]
theorem c_data1 (h : DT c m d A o M o' n F p s) (hi : i < s) : f_X5_dataByte (125 + d) (nI i) c = some (nI (F (p + i)), c) := by
  have n1 := h.1.n1
  have := h.2.2.2.1
  rw [c_data h (by omega), if_pos hi]
theorem m_data1 (h : DT c m d A o M o' n F p s) (hd : d ≤ 3) (hi : i < s) : f_X12_dataAt (nI i) m = some (nI (F (p + i)), m) := by
  obtain ⟨S, h1, h2, h3, h4⟩ := h
  have n2 := S.n2 hd
  unfold f_X12_dataAt
  rw [S.r2, h4, nI_add, ix_in (j := o' + p + i) (nI_pos (by omega)) (nI_clamp (by omega)) (by omega), show o' + p + i = o' + (p + i) by omega, S.f _ (by omega)]
theorem m_sign1 (h : DT c m d A o M o' n F p s) (hd : d ≤ 3) (hi : i < s) : f_X12_signedAt (nI i) m = some ((nI (F (p + i))).toInt8.toInt32, m) := by
  obtain ⟨S, h1, h2, h3, h4⟩ := h
  have n2 := S.n2 hd
  have e := S.f (p + i) (by omega)
  have hy := S.y (p + i) (by omega)
  unfold f_X12_signedAt
  rw [S.r2, h4, nI_add, ix_in (j := o' + p + i) (nI_pos (by omega)) (nI_clamp (by omega)) (by omega), show o' + p + i = o' + (p + i) by omega, ← e]
  congr 2
  rw [← byt_id hy]
  refine congrArg _ (i8_eq fun k hk => ?_)
  rw [b_and, b_255, decide_eq_true hk, Bool.and_true]
  rw [byt_id hy]
theorem SRC.kp (h : SRC c m d A o M o' n F) (hd : d ≤ 3) (k : KP d ov c m c' m') : SRC c' m' d A o M o' n F :=
  h.fr k.fc k.fm ⟨by unfold skF; simp; omega, by unfold skF; simp; omega⟩ ⟨by unfold skA; simp; omega, fun z => by unfold skA; simp; omega⟩ ⟨rfl, rfl⟩ rfl k.p3
theorem DT.kp (h : DT c m d A o M o' n F p s) (hd : d ≤ 3) (k : KP d ov c m c' m') : DT c' m' d A o M o' n F p s := ⟨h.1.kp hd k, (k.fc.i (by unfold skF; simp; omega)).trans h.2.1, (k.fc.i (by unfold skF; simp; omega)).trans h.2.2.1, h.2.2.2.1, k.p4.2.trans h.2.2.2.2⟩
/-- a field, and then the place behind its data on the reference's side -/
def OD (d : Nat) (ov : Bool) (c m : Mm) (v : Int32) (c' m' : Mm) : Prop := ∃ m2, OU d ov c m c' m2 ∧ m' = uI m2 1227 133 v
theorem P2_showData (gs : GS Gc Gm d) : ∀ (N N' i : Nat) (c m : Mm), s - i < N → s - i < N' → i ≤ s → RR d ov c m → DT c m d A o M o' n F p s → P2 (f_X9_showData_l7 Gc N (125 + d) (nI i) c) (f_X12_withData_l76 Gm N' (nI s) (nI (o' + p)) (nI i) m) (fun _ c' _ m' => OD d ov c m (nI (o' + (p + s))) c' m') := by
  intro N
  induction N with
  | zero => intro N' i c m h; omega
  | succ N ih =>
    intro N' i c m h1 h2 h3 h h4
    cases N' with
    | zero => omega
    | succ N' =>
      have hd := h.d3
      have n1 := h4.1.n1
      have n2 := h4.1.n2 hd
      have hps := h4.2.2.2.1
      show P2 (f_X9_showData_b7 Gc (f_X9_showData_l7 Gc N) (125 + d) (nI i) c) (f_X12_withData_b76 Gm (f_X12_withData_l76 Gm N') (nI s) (nI (o' + p)) (nI i) m) _
      unfold f_X9_showData_b7 f_X12_withData_b76
      rw [h4.2.2.1, nI_add, Nat.add_assoc, h.sh.z.2]
      by_cases q : s ≤ i
      · rw [if_pos (nI_le q (by omega)), if_pos (nI_le q (by omega)), lb_eq]
        exact P2_ret ⟨m, OU.refl h, rfl⟩
      · rw [if_neg (nI_ge (by omega) (by omega)), if_neg (nI_ge (by omega) (by omega)), h.nm, bd_eq, if_pos rfl, if_pos rfl, c_data1 h4 (by omega), bd_eq, h4.1.r2, nI_add, ix_in (j := o' + p + i) (nI_pos (by omega)) (nI_clamp (by omega)) (by omega), show o' + p + i = o' + (p + i) by omega, h4.1.f _ (by omega), show nI i + 1 = nI (i + 1) from nI_add i 1]
        refine P2_bd (P2_show (h4.1.g _) h gs) ?_
        intro _ c1 _ m1 ou
        rcases ou.1 with rr | mu
        · refine P2_mono (ih N' (i + 1) c1 m1 (by omega) (by omega) (by omega) rr (h4.kp hd ou.2.1)) ?_
          rintro _ c2 _ m2 ⟨m3, x1, x2⟩
          exact ⟨m3, OU.pre ou.2.1 ou.2.2 x1, x2⟩
        · have e512 : gI c1 512 (125 + d) = nI s := (ou.2.1.fc.i (by unfold skF; simp; omega)).trans h4.2.2.1
          have ec : f_X9_showData_l7 Gc N (125 + d) (nI (i + 1)) c1 = some ((), c1) := by
            obtain ⟨N0, rfl⟩ : ∃ N0, N = N0 + 1 := ⟨N - 1, by omega⟩
            show f_X9_showData_b7 Gc (f_X9_showData_l7 Gc N0) (125 + d) (nI (i + 1)) c1 = _
            unfold f_X9_showData_b7
            rw [mu.wc.mu, bd_eq, if_neg (show ¬ (1 : Int32) = 0 by decide), ite_self]
          have em : f_X12_withData_l76 Gm N' (nI s) (nI (o' + p)) (nI (i + 1)) m1 = some ((), uI m1 1227 133 (nI (o' + (p + s)))) := by
            obtain ⟨N0, rfl⟩ : ∃ N0, N' = N0 + 1 := ⟨N' - 1, by omega⟩
            show f_X12_withData_b76 Gm (f_X12_withData_l76 Gm N0) (nI s) (nI (o' + p)) (nI (i + 1)) m1 = _
            unfold f_X12_withData_b76
            rw [mu.m1, if_neg (show ¬ (1 : Int32) = 0 by decide), ite_self, lb_eq, nI_add, Nat.add_assoc]
          rw [ec, em]
          exact P2_ret ⟨m1, ou, rfl⟩
end G1
