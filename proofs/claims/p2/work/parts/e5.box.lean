/-! The field of a box, on both sides. -/
section E5
variable {c c' c0 c1 c2 m m' m0 m1 m2 T : Mm} {d w b : Nat} {ov ov' ng sg : Bool} {g L : Nat → Int32} {Gc Gm : Gty}
/-- the reference's pattern for a box -/
noncomputable def boxP (T2 : Mm) : Option (Unit × Mm) := if (gI T2 1251 133) = 5 then f_X12_useAtHand T2 else f_X12_putPattern 163 0 (gI T2 1251 133) (gA T2 134 144) T2
theorem rect60 {w' h' : Nat} (hw : 0 < w') (hw2 : w' ≤ 32767) (hh : 0 < h') (hh2 : h' ≤ 32767) : f_X12_rectangle_60 (nI w') (nI h') m = (bd (f_X12_mark ((((gA m 134 189) / 96)).toInt64) ((((gA m 134 190) / 96)).toInt64) ((nI w').toInt64) ((nI h').toInt64) m) fun v1 T2 => if v1 = 0 then (some ((), T2)) else (bd (boxP T2) fun _ T4 => f_X12_rectangle_140 (nI w') (nI h') T4)) := by
  unfold f_X12_rectangle_60
  rw [if_neg (nI_ne0 (by omega) (by omega)), if_neg (nI_ne0 (by omega) (by omega))]
  congr 1
  funext v T
  unfold boxP
  split
  · rfl
  · split <;> rfl
theorem box22 {s : Int} {t w' h' : Nat} (e114 : gI c 114 45 = nI w') (e115 : gI c 115 45 = nI h') (hw : 0 < w') (hw2 : w' ≤ 32767) (hh : 0 < h') (hh2 : h' ≤ 32767) (q : (iz s = 5 ∧ t = 50) ∨ (¬ iz s = 5 ∧ t = 39)) : f_X9_box_22 (iz s) 1 c = (bd (f_X0_layBlack c) fun _ T1 => bd (f_X9_markBox ((gI T1 706 46) / 96) ((gI T1 707 46) / 96) (nI w') (nI h') t T1) fun _ T5 => some ((), T5)) := by
  obtain ⟨c1, b1, b2, b3⟩ := c_black0 c
  have z : ∀ n : Nat, 0 < n → n ≤ 32767 → ¬ nI n ≤ 0 := fun n h1 h2 => by
    rw [show (0 : Int32) = nI 0 from rfl]; exact nI_ge (by omega) (by omega)
  unfold f_X9_box_22
  rw [if_neg (by decide), e114, e115, if_neg (z _ hw hw2), if_neg (z _ hh hh2), b1, bd_eq, bd_eq, lb_eq, lb_eq, show gI c1 114 45 = nI w' from (b2.i rfl).trans e114, show gI c1 115 45 = nI h' from (b2.i rfl).trans e115]
  rcases q with ⟨q1, rfl⟩ | ⟨q1, rfl⟩
  · rw [if_pos q1]
  · rw [if_neg q1]
theorem KP.refl' (h : KP d ov c m c1 m) (h2 : OU d ov c1 m c' m') : OU d ov c m c' m' := OU.pre h (fun _ => ⟨rfl, rfl⟩) h2
theorem P2_box (h : RR d ov c m) (v : VL c m d w b ng sg) : P2 (f_X9_box (iz (vz w ng)) c) (f_X12_rectangle m) (fun _ c' _ m' => OU d ov c m c' m') := by
  have zb := vz_b (ng := ng) v.1
  have stay : P2 (some ((), c)) (some ((), m)) (fun _ c' _ m' => OU d ov c m c' m') := P2_ret (OU.refl h)
  obtain ⟨W, W1, W2⟩ := h.eb.k140
  obtain ⟨H, H1, H2⟩ := h.eb.k141
  obtain ⟨n, n1, n2, n3⟩ := h.eb.k144
  have e114 : gI c 114 45 = nI W := (h.ev.i (114, 0, 140) (by decide)).trans W1
  have e115 : gI c 115 45 = nI H := (h.ev.i (115, 0, 141) (by decide)).trans H1
  have e118 : gI c 118 45 = iz n := (h.ev.i (118, 0, 144) (by decide)).trans n1
  have nm := v.nm
  revert nm zb
  generalize vz w ng = s
  intro zb nm
  have p0 : iz s < 0 ↔ s < 0 := iz_neg0 zb.1 zb.2
  have p5 : 5 < iz s ↔ 5 < s := by rw [show (5 : Int32) = iz 5 from rfl]; exact iz_lt (by omega) (by omega) (by omega) (by omega)
  have p6 : 5 ≤ iz s ↔ 5 ≤ s := by rw [show (5 : Int32) = iz 5 from rfl]; exact iz_le (by omega) (by omega) (by omega) (by omega)
  have q5 : iz s = 5 ↔ s = 5 := by rw [show (5 : Int32) = iz 5 from rfl]; exact iz_inj (by omega) (by omega) (by omega) (by omega)
  -- a box that has no dots
  have none22 : ∀ (x : Int32) (c0 : Mm), gI c0 114 45 = nI W → gI c0 115 45 = nI H → (W = 0 ∨ H = 0) → f_X9_box_22 (iz s) x c0 = some ((), c0) := fun x c0 a1 a2 hz => by
    unfold f_X9_box_22
    rw [a1, a2]
    rcases hz with hz | hz
    · rw [hz, if_pos (show nI 0 ≤ 0 by decide)]; exact ite_self _
    · rw [hz, if_pos (show nI 0 ≤ 0 by decide), ite_self, ite_self]
  have none60 : (W = 0 ∨ H = 0) → f_X12_rectangle_60 (nI W) (nI H) m = some ((), m) := fun hz => by
    unfold f_X12_rectangle_60
    rcases hz with hz | hz
    · rw [hz, if_pos (show nI 0 = 0 from rfl)]
    · rw [hz, if_pos (show nI 0 = 0 from rfl), ite_self]
  have i0 : (0 : Int32) = nI 0 := rfl
  unfold f_X9_box f_X12_rectangle
  rw [W1, H1, lb_eq, lb_eq, nm, n1]
  by_cases s5 : s = 5
  · rw [if_pos (q5.mpr s5), if_neg (fun y => by have := p0.mp y; omega), if_neg (fun y => by have := p5.mp y; omega), if_pos (p6.mpr (by omega))]
    by_cases hz : W = 0 ∨ H = 0
    · rw [none22 _ c e114 e115 hz, none60 hz]; exact stay
    · rw [box22 (t := 50) e114 e115 (by omega) W2 (by omega) H2 (Or.inl ⟨q5.mpr s5, rfl⟩), rect60 (by omega) W2 (by omega) H2]
      obtain ⟨pn, pn1, pn2, pn3⟩ := h.eb.k30
      refine P2_boxL (L := fun j => gA m 134 (29 + j)) h (Or.inl rfl) h.ev.t (by rw [pn1, iz_int (by omega) (by omega)]; exact pn2) (by rw [pn1, iz_int (by omega) (by omega)]; exact pn3) W2 H2 (fun m1 hf => ?_)
      unfold boxP
      rw [if_pos (show gI m1 1251 133 = 5 by rw [hf.i rfl, nm]; exact q5.mpr s5)]
      exact m_use (hf.a rfl)
  · rw [if_neg (fun y => s5 (q5.mp y))]
    obtain ⟨t1, t2⟩ := two_tile (t := 39) (s := s) h.tl e118 (Or.inr rfl) (by omega) (by omega) n2 n3
    by_cases y0 : s < 0 ∨ 5 < s
    · have hf : hpt m s n = false := by
        unfold hpt
        rw [decide_eq_false (show ¬ s = 0 by omega), decide_eq_false (show ¬ s = 1 by omega), decide_eq_false (show ¬ s = 2 by omega), decide_eq_false (show ¬ s = 3 by omega), decide_eq_false (show ¬ s = 4 by omega)]
        rfl
      have t3 : f_X9_setTile 39 (iz s) c = some (0, c) := by
        rcases t2 with ⟨_, u⟩ | ⟨u, _⟩
        · exact u
        · rw [hf] at u; cases u
      rw [t3, bd_eq, if_pos rfl]
      have e0 : f_X9_box_22 (iz s) 0 c = some ((), c) := by unfold f_X9_box_22; rw [if_pos rfl]
      rw [e0]
      by_cases y1 : s < 0
      · rw [if_pos (p0.mpr y1)]; exact stay
      · rw [if_neg (fun y => y1 (p0.mp y)), if_pos (p5.mpr (by omega))]; exact stay
    · rw [if_neg (fun y => by have := p0.mp y; omega), if_neg (fun y => by have := p5.mp y; omega), if_neg (fun y => by have := p6.mp y; omega), t1, bd_eq]
      rcases t2 with ⟨u1, u2⟩ | ⟨u1, u2, u3, c2, u4, u5, u6⟩
      · rw [u1, u2, bd_eq, if_pos rfl, if_pos (show cI false = 0 from rfl)]
        have e0 : f_X9_box_22 (iz s) 0 c = some ((), c) := by unfold f_X9_box_22; rw [if_pos rfl]
        rw [e0]; exact stay
      · rw [u1, u4, bd_eq, if_neg (show ¬ (1 : Int32) = 0 by decide), if_neg (show ¬ cI true = 0 by decide)]
        have h2 : RR d ov c2 m := h.frG u5 (Fr.refl (PF := nF) (PA := noA)) (fun f i e => rr_t39 e) (fun a e => rr_a40 e) (fun _ _ => rfl) (fun _ _ => rfl)
        have k2 : KP d ov c m c2 m := KP.boxC u5 (fun f i e => Or.inl (by unfold tF at e; simp at e; exact e.1)) (fun a e => Or.inl (by simpa [tA] using e))
        have f114 : gI c2 114 45 = nI W := (u5.i rfl).trans e114
        have f115 : gI c2 115 45 = nI H := (u5.i rfl).trans e115
        by_cases hz : W = 0 ∨ H = 0
        · rw [none22 _ c2 f114 f115 hz, none60 hz]
          exact P2_ret (KP.refl' k2 (OU.refl h2))
        · rw [box22 (t := 39) f114 f115 (by omega) W2 (by omega) H2 (Or.inr ⟨fun y => s5 (q5.mp y), rfl⟩), rect60 (by omega) W2 (by omega) H2]
          obtain ⟨m3, y1, y2, y3, y4, y5, y6⟩ := u6 163 0 m rfl rfl rfl (by decide) (by decide) (by decide)
          have n4 : s = 4 → 0 ≤ n ∧ n < 16 := fun e => by
            subst e
            unfold hpt at u1
            have : (0 ≤ n ∧ n < 16) ∧ gA m 143 n.toNat = 1 := by simpa using u1
            exact this.1
          have put : ∀ m1, Fr mM0 noA m m1 → ∃ m2, f_X12_putPattern 163 (nI 0) (iz s) (iz n) m1 = some ((), m2) ∧ Fr nF (fun a => a == 163) m1 m2 ∧ ∀ k, k < 20 → gA m2 163 k = gA m3 163 (0 + k) := by
            intro m1 hf
            obtain ⟨r1, r2, r3, r4, r5, r6, r7⟩ := m_put (m := m) (to := 163) (at' := 0) (s := s) (n := n) (by decide) (by decide) (by decide) (by omega) (by omega) n4
            obtain ⟨x1, x2, x3, x4, x5, x6, x7⟩ := m_put (m := m1) (to := 163) (at' := 0) (s := s) (n := n) (by decide) (by decide) (by decide) (by omega) (by omega) n4
            have er : r1 = m3 := by
              rw [y1] at r2
              exact (congrArg Prod.snd (Option.some.inj r2)).symm
            subst er
            refine ⟨x1, x2, x3, fun k hk => ?_⟩
            rw [Nat.zero_add]
            by_cases k0 : k = 0
            · rw [k0, x5, r5]
            · by_cases k1 : k = 1
              · rw [k1]
                exact x6.trans r6.symm
              · by_cases s4 : s = 4
                · have a1 := x7 s4 k (by omega) hk
                  have a2 := r7 s4 k (by omega) hk
                  rw [Nat.zero_add] at a1 a2
                  rw [a1, a2]
                  unfold ur
                  rw [hf.a rfl, hf.a rfl, hf.a rfl]
                · -- not written
                  have w2 : ∀ M M' : Mm, f_X12_putPattern 163 (nI 0) (iz s) (iz n) M = some ((), M') → gA M' 163 k = gA M 163 k := fun M M' e => by
                    unfold f_X12_putPattern at e
                    rw [ix_in (j := 0) (by decide) rfl (by decide), lb_eq, show nI 0 + 1 = nI 1 from rfl, ix_in (j := 1) (by decide) rfl (by decide), lb_eq, if_neg (show ¬ iz s = 4 from fun y => s4 ((iz_inj (b := 4) (by omega) (by omega) (by omega) (by omega)).mp y))] at e
                    have e' := (congrArg Prod.snd (Option.some.inj e)).symm
                    dsimp only at e'
                    rw [e', gA_wr, wr_o _ k1, gA_wr, wr_o _ k0]
                  rw [w2 _ _ x2, w2 _ _ r2, hf.a rfl]
          have L1 : gA m3 163 (0 + 1) = iz n := y6
          refine P2_mono (P2_boxL (L := fun j => gA m3 163 (0 + j)) h2 (Or.inr rfl) y4 (by show -32767 ≤ (gA m3 163 (0 + 1)).toInt; rw [L1, iz_int (by omega) (by omega)]; exact n2) (by show (gA m3 163 (0 + 1)).toInt ≤ 32767; rw [L1, iz_int (by omega) (by omega)]; exact n3) W2 H2 (fun m1 hf => ?_)) (fun _ c' _ m' z => KP.refl' k2 z)
          unfold boxP
          rw [show gI m1 1251 133 = iz s from (hf.i rfl).trans nm, if_neg (fun y => s5 (q5.mp y)), show gA m1 134 144 = iz n from (congrFun (hf.a rfl) 144).trans n1, i0]
          exact put m1 hf
end E5
