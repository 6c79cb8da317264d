/-! A font is sent whole, on both sides. -/
section G3
variable {c c' c0 c1 c2 c3 m m' m0 m1 m2 m3 T : Mm} {d w b A o M o' n p r q a i s f k : Nat} {F : Nat → Nat} {ov ov' ng sg : Bool} {g L : Nat → Int32} {Gc Gm : Gty} {PF QF : Nat → Nat → Bool} {PA QA : Nat → Bool}
theorem P2_fontData (hf : f < 16) (h : RR d ov c m) (h4 : DT c m d A o M o' n F p s) (e142 : gA m 134 142 = nI f) : P2 (f_X2_send (nI f) (125 + d) c) (f_X12_fontData (nI s) m) (fun _ c' _ m' => OU d ov c m c' m') := by
  have hd := h.d3
  have n1 := h4.1.n1
  have hps := h4.2.2.2.1
  have stay : P2 (some ((), c)) (some ((), m)) (fun _ c' _ m' => OU d ov c m c' m') := P2_ret (OU.refl h)
  have c0 : ∀ v, f_X2_send_32 (nI f) (125 + d) v 0 c = some ((), c) := fun v => by unfold f_X2_send_32; rw [if_pos rfl]
  unfold f_X2_send f_X12_fontData
  rw [show (1 : Int32) = nI 1 from rfl, c_two h4 (by omega), bd_eq, h4.2.2.1]
  by_cases q9 : s < 9
  · rw [if_pos (show nI s < 9 from nI_lt (b := 9) q9 (by omega)), c0, if_neg (show ¬ (9 : Int32) ≤ nI s from nI_ge (b := 9) q9 (by omega))]
    unfold f_X12_fontData_25
    rw [if_pos (by decide)]
    exact stay
  have g1 := h4.1.g (p + 1)
  have g2 := h4.1.g (p + (1 + 1))
  rw [if_neg (show ¬ nI s < 9 from nI_nlt (b := 9) (by omega) (by omega)), if_pos (show (9 : Int32) ≤ nI s from nI_le (a := 9) (by omega) (by omega)), if_pos (show 1 + 1 < s by omega), m_data1 h4 hd (by omega), bd_eq, show (2 : Int32) = nI (1 + 1) from rfl, m_data1 h4 hd (by omega), bd_eq, show nI (F (p + 1)) * 256 = nI (F (p + 1) * 256) from pk_mul _ 256, nI_add]
  revert g1 g2
  generalize F (p + 1) = u
  generalize F (p + (1 + 1)) = v
  intro g1 g2
  unfold f_X12_fontData_25
  by_cases q1 : u * 256 + v < 1
  · rw [if_pos (show nI (u * 256 + v) < nI 1 from nI_lt q1 (by omega)), c0, if_pos (show nI (u * 256 + v) < 1 from nI_lt (b := 1) q1 (by omega))]; exact stay
  rw [if_neg (show ¬ nI (u * 256 + v) < nI 1 from nI_nlt (by omega) (by omega)), if_neg (show ¬ nI (u * 256 + v) < 1 from nI_nlt (b := 1) (by omega) (by omega))]
  by_cases q2 : 7200 < u * 256 + v
  · rw [if_pos (show 7200 < nI (u * 256 + v) from nI_lt (a := 7200) q2 (by omega)), c0, if_neg (show ¬ nI (u * 256 + v) ≤ 7200 from nI_ge (a := 7200) q2 (by omega))]; exact stay
  rw [if_neg (show ¬ 7200 < nI (u * 256 + v) from nI_nlt (a := 7200) (by omega) (by omega)), if_pos (show nI (u * 256 + v) ≤ 7200 from nI_le (b := 7200) (by omega) (by omega)), e142, lb_eq]
  unfold f_X2_send_32
  rw [if_neg (show ¬ nI 1 = 0 by decide), if_neg (nI_pos (by omega)), if_pos (show nI f < 16 from nI_lt (b := 16) hf (by omega))]
  refine P2_bd (P2_fontGo hf h.ft) ?_
  rintro _ c2 _ m2 ⟨x1, x2, x3, x4, x5, x6⟩
  have d2 := h4.fr x3 x4 (fun f => by unfold cRF; simp; omega) ⟨rfl, rfl⟩ ⟨rfl, rfl, rfl⟩ ⟨rfl, rfl⟩
  obtain ⟨c3, hc3⟩ : ∃ c3, c3 = uA c2 29 f 1 := ⟨_, rfl⟩
  obtain ⟨m3, hm3⟩ : ∃ m3, m3 = uA (uA m2 136 f 1) 137 f 1 := ⟨_, rfl⟩
  have fc3 : Fr nF (fun a => a == 29) c2 c3 := by rw [hc3]; exact Fr.refl.uA _ _ (by rfl)
  have fm3 : Fr nF (fun a => a == 136 || a == 137) m2 m3 := by rw [hm3]; exact (Fr.refl.uA _ _ (by rfl)).uA _ _ (by rfl)
  have g29 : ∀ j, gA c3 29 j = if j = f then 1 else gA c2 29 j := fun j => by rw [hc3]; exact gA_one
  have g136 : ∀ j, gA m3 136 j = if j = f then 1 else gA m2 136 j := fun j => by rw [hm3, gA_wo _ _ _ (by decide)]; exact gA_one
  have g137 : ∀ j, gA m3 137 j = if j = f then 1 else gA m2 137 j := fun j => by
    rw [hm3, gA_one]
    split
    · rfl
    · rw [gA_wo _ _ _ (by decide)]
  have d3 := d2.fr fc3 fm3 (fun _ => rfl) ⟨rfl, rfl⟩ ⟨rfl, rfl, rfl⟩ ⟨rfl, rfl⟩
  have nm3 : NMr f (fun _ => False) c3 m3 := by
    refine ⟨fun f' k a1 a2 _ => ?_, ?_, ?_, ?_⟩
    · rw [fc3.a rfl, fm3.a rfl]; exact x1.nm f' k a1 a2
    · rw [fm3.a rfl]; exact x1.nb
    · rw [fm3.a rfl]; exact x1.n0
    · rw [fm3.a rfl]; exact x1.hp
  have sv3 : SV c3 m3 29 136 137 := SV.oneG (u := f) (a := true) (b := true) x1.sh rfl (fun j _ => g29 j) (fun j _ => g136 j) (fun j _ => g137 j)
  have ix17 : ∀ {α : Type} (K : Nat → Option α), ix (nI f) 17 K = K f := fun K => ix_in (j := f) (nI_pos (by omega)) (nI_clamp (by omega)) (by omega)
  have put : f_X8_put 28 (nI f) c2 = some ((), c3) := by
    unfold f_X8_put
    rw [if_neg (nI_pos (by omega)), if_neg (show ¬ (16 : Int32) ≤ nI f from nI_ge (b := 16) hf (by omega)), ix_in (j := f) (nI_pos (by omega)) (nI_clamp (by omega)) (by omega), lb_eq, hc3]
  have fin : ∀ b0, b0 ≤ 1 → P2 (f_X2_send_79 (nI f) (125 + d) (nI (u * 256 + v)) (nI b0) 1 (nI f) c3) (f_X12_fontData_88 (nI (u * 256 + v)) (nI f) (nI b0) ((7 : Int32) * nI f) m3) (fun _ c' _ m' => OU d ov c m c' m') := fun b0 hb => by
    obtain ⟨c4, m4, y1, y2, y3, y4, y5⟩ := two_79 (x := u * 256 + v) hf hd (by omega) (by omega) hb d3 nm3
    rw [y1, y2]
    have fc4 : Fr nF s29 c2 c4 := (fc3.weak (fun _ _ e => e) (fun a e => by unfold s29 at e; revert e; simp; omega)).trans (y3.weak (fun _ _ e => e) (fun a e => by unfold s29 at e; revert e; simp))
    have fm4 : Fr nF s136 m2 m4 := (fm3.weak (fun _ _ e => e) (fun a e => by unfold s136 at e; revert e; simp; omega)).trans (y4.weak (fun _ _ e => e) (fun a e => by unfold s136 at e; revert e; simp))
    have e136 : gA m4 136 = gA m3 136 := y4.a rfl
    have ft4 : FT c4 m4 := FT.num (f := f) x1 fc4 fm4 (sv3.fr y3 y4 rfl rfl rfl) (by rw [e136, g136, if_neg (by omega)]; exact x1.rs) y5 (fun f' k a1 a2 a3 => by
      rw [e136, g136] at a3
      by_cases z : f' = f
      · rw [if_pos z] at a3; exact absurd a3 (by decide)
      · rw [if_neg z] at a3; exact a3)
    have fcA : Fr fF9 fA9 c c4 := (x3.weak (fun f i e => by unfold fF9 at e; unfold cRF; revert e; simp; intro e; simp [e]) (fun a e => by unfold fA9 at e; unfold cRA; revert e; simp; omega)).trans (fc4.weak (fun _ _ _ => rfl) (fun a e => by unfold fA9 at e; unfold s29; revert e; simp; omega))
    have fmA : Fr mGF fN9 m m4 := (x4.weak (fun _ _ e => e) (fun a e => by unfold fN9 at e; unfold mRA; revert e; simp; omega)).trans (fm4.weak (fun _ _ _ => rfl) (fun a e => by unfold fN9 at e; unfold s136; revert e; simp; omega))
    exact P2_ret (OU.fts h fcA fmA ft4 (KA.of0 ((fc4.i rfl).trans x2)))
  have d30 := c_data1 d3 (i := 0) (by omega)
  have m30 := m_data1 d3 hd (i := 0) (by omega)
  rw [put, bd_eq, show (0 : Int32) = nI 0 from rfl, d30, bd_eq, ix17, lb_eq, ix17, lb_eq, ← hm3, m30, bd_eq]
  by_cases z : nI (F (p + 0)) = nI 0
  · rw [if_pos z, if_pos z]; exact fin 0 (by omega)
  · rw [if_neg z, if_neg z]; exact fin 1 (by omega)
end G3
