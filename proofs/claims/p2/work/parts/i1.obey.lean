/-! A field without data is obeyed, on both sides. -/
section I1
variable {c c' c0 c1 c2 c3 m m' m0 m1 m2 m3 T T' M' : Mm} {d w b A o M o' n p r q a i s f k u h rb t v kd gp : Nat} {F : Nat → Nat} {ov ov' ng sg z : Bool} {g L : Nat → Int32} {Gc Gm : Gty} {PF QF : Nat → Nat → Bool} {PA QA : Nat → Bool}
theorem c_mac88 (h : RR d ov c m) (hl : gI c 505 (125 + d) = nI 88) {x : Int32} : f_X9_macroField Gc x c = f_X9_macroTask Gc x c := by
  unfold f_X9_macroField f_X9_macroField_33 f_X9_macroField_62 f_X9_macroField_92
  simp only [rd_eq h, hl]
  rw [if_neg (show ¬ nI 88 = 89 by decide), if_neg (show ¬ nI 88 = 83 by decide), if_neg (show ¬ nI 88 = 83 by decide), if_pos (show nI 88 = 88 from rfl), bd_u]
theorem m_mac88 : f_X12_macroField Gm (nI 88) m = f_X12_macroAct Gm m := by
  unfold f_X12_macroField f_X12_macroField_37 f_X12_macroField_134 f_X12_macroField_224
  rw [if_neg (show ¬ nI 88 = 89 by decide), if_neg (show ¬ nI 88 = 83 by decide), if_neg (show ¬ nI 88 = 83 by decide), if_pos (show nI 88 = 88 from rfl), bd_u]
theorem ow_ep {P Q : Option (Unit × Mm)} (h : RR d ov c m) (x : ∃ c' m', P = some ((), c') ∧ Q = some ((), m') ∧ EP c m c' m') : P2 P Q (fun _ c' _ m' => OW d ov c m c' m') := P2_mono (P2_ep h _ _ x) (fun _ _ _ _ q => q.ow)
theorem ow_ou {P Q : Option (Unit × Mm)} (x : P2 P Q (fun _ c' _ m' => OU d ov c m c' m')) : P2 P Q (fun _ c' _ m' => OW d ov c m c' m') := P2_mono x (fun _ _ _ _ q => q.ow)
theorem c_obeyIdle (h : RR d ov c m) (h3 : gI c 503 (125 + d) = nI kd) (hk : kd < 256) (n1 : ¬ kd = 40) (n2 : ¬ kd = 41) : f_X9_obeyFont c = some ((), c) := by
  unfold f_X9_obeyFont f_X9_obeyFont_17
  simp only [rd_eq h, h3]
  rw [if_neg (show ¬ nI kd = 40 from nI_ne hk (by decide) n1), if_pos trivial, if_neg (show ¬ nI kd = 41 from nI_ne hk (by decide) n2)]
theorem P2_obey (h : RR d ov c m) (gs : GS Gc Gm d) (v : VL c m d w b ng sg) (hkd : kd < 256) (hgp : gp < 256) (hk : k < 256) (h3 : gI c 503 (125 + d) = nI kd) (h4 : gI c 504 (125 + d) = nI gp) (h5 : gI c 505 (125 + d) = nI k) (q87 : ¬ k = 87) (q88 : ¬ (k = 88 ∧ kd = 38 ∧ gp = 112)) (qd : ¬ (k = 88 ∧ kd = 38 ∧ gp = 102 ∧ d = 0 ∧ iz (vz w ng) = 0)) : P2 (f_X9_obey Gc c) (f_X12_field Gm (nI kd) (nI gp) (nI k) m) (fun _ c' _ m' => OW d ov c m c' m') := by
  have stay : P2 (some ((), c)) (some ((), m)) (fun _ c' _ m' => OW d ov c m c' m') := P2_ret (OU.refl h).ow
  have nv : ∀ b, b < 70000 → ¬ kd * 256 + gp = b → ¬ nI (kd * 256 + gp) = nI b := fun b hb q y => q ((nI_eq (by omega) (by omega)).mp y)
  have eC : (nI kd <<< ((8 : Int32) &&& 31)) ||| nI gp = nI (kd * 256 + gp) := two_n (by omega) hgp
  have idle : (¬ kd = 40) → (¬ kd = 41) → f_X9_obeyFont c = some ((), c) := fun a b => c_obeyIdle h h3 hkd a b
  have ng' : ∀ a, a < 256 → ¬ gp = a → ¬ nI gp = nI a := fun a ha q => nI_ne hgp ha q
  have nk' : ∀ a, a < 256 → ¬ kd = a → ¬ nI kd = nI a := fun a ha q => nI_ne hkd ha q
  unfold f_X9_obey
  simp only [rd_eq h, h3, h4, h5, v.n, bd_eq, bd_u]
  rw [lb_eq, eC]
  unfold f_X12_field
  by_cases qk : kd = 38
  · by_cases qg : gp = 97
    · rw [if_pos (show nI (kd * 256 + gp) = 9825 by rw [qk, qg]; rfl), if_pos (show nI kd = 38 by rw [qk]; rfl), if_neg (show ¬ nI gp = 108 from ng' 108 (by decide) (by omega)), if_pos (show nI gp = 97 by rw [qg]; rfl)]
      rw [bd_u]
      exact ow_ep h (two_place hk h v h5)
    by_cases qg : gp = 102
    · rw [if_neg (show ¬ nI (kd * 256 + gp) = 9825 from nv 9825 (by omega) (by omega)), if_pos (show nI (kd * 256 + gp) = 9830 by rw [qk, qg]; rfl), if_pos (show nI kd = 38 by rw [qk]; rfl), if_neg (show ¬ nI gp = 108 from ng' 108 (by decide) (by omega)), if_neg (show ¬ nI gp = 97 from ng' 97 (by decide) (by omega)), if_neg (show ¬ nI gp = 107 from ng' 107 (by decide) (by omega)), if_neg (show ¬ nI gp = 115 from ng' 115 (by decide) (by omega)), if_pos (show nI gp = 102 by rw [qg]; rfl)]
      rw [bd_u]
      by_cases q : k = 88
      · subst q
        rw [c_mac88 h h5, m_mac88]
        by_cases n0 : iz (vz w ng) = 0
        · have hd0 : ¬ d = 0 := fun y => qd ⟨rfl, qk, qg, y, n0⟩
          have e1230 : gI m 1230 133 = 1 := by rw [h.im, decide_eq_true (show 0 < d by omega)]; rfl
          unfold f_X9_macroTask f_X12_macroAct
          rw [if_pos n0, h.d1, if_neg (nI_ne0 (by omega) (by have := h.d3; omega)), lb_eq, v.nm, if_pos n0, e1230, if_neg (by decide)]
          exact stay
        · exact P2_macTask h gs v n0
      · exact ow_ep h (two_macf hk q h v h5)
    by_cases qg : gp = 107
    · rw [if_neg (show ¬ nI (kd * 256 + gp) = 9825 from nv 9825 (by omega) (by omega)), if_neg (show ¬ nI (kd * 256 + gp) = 9830 from nv 9830 (by omega) (by omega)), if_pos (show nI (kd * 256 + gp) = 9835 by rw [qk, qg]; rfl), if_pos (show nI kd = 38 by rw [qk]; rfl), if_neg (show ¬ nI gp = 108 from ng' 108 (by decide) (by omega)), if_neg (show ¬ nI gp = 97 from ng' 97 (by decide) (by omega)), if_pos (show nI gp = 107 by rw [qg]; rfl)]
      exact ow_ep h (two_space hk h v h5)
    by_cases qg : gp = 108
    · rw [if_neg (show ¬ nI (kd * 256 + gp) = 9825 from nv 9825 (by omega) (by omega)), if_neg (show ¬ nI (kd * 256 + gp) = 9830 from nv 9830 (by omega) (by omega)), if_neg (show ¬ nI (kd * 256 + gp) = 9835 from nv 9835 (by omega) (by omega)), if_pos (show nI (kd * 256 + gp) = 9836 by rw [qk, qg]; rfl), if_pos (show nI kd = 38 by rw [qk]; rfl), if_pos (show nI gp = 108 by rw [qg]; rfl)]
      rw [bd_u]
      exact ow_ou (P2_page hk h v h5 gs)
    by_cases qg : gp = 112
    · rw [if_neg (show ¬ nI (kd * 256 + gp) = 9825 from nv 9825 (by omega) (by omega)), if_neg (show ¬ nI (kd * 256 + gp) = 9830 from nv 9830 (by omega) (by omega)), if_neg (show ¬ nI (kd * 256 + gp) = 9835 from nv 9835 (by omega) (by omega)), if_neg (show ¬ nI (kd * 256 + gp) = 9836 from nv 9836 (by omega) (by omega)), if_pos (show nI (kd * 256 + gp) = 9840 by rw [qk, qg]; rfl), if_neg (show ¬ nI k = 88 from nI_ne hk (by decide) (fun y => q88 ⟨y, qk, qg⟩)), if_pos (show nI kd = 38 by rw [qk]; rfl), if_neg (show ¬ nI gp = 108 from ng' 108 (by decide) (by omega)), if_neg (show ¬ nI gp = 97 from ng' 97 (by decide) (by omega)), if_neg (show ¬ nI gp = 107 from ng' 107 (by decide) (by omega)), if_neg (show ¬ nI gp = 115 from ng' 115 (by decide) (by omega)), if_neg (show ¬ nI gp = 102 from ng' 102 (by decide) (by omega))]
      exact stay
    by_cases qg : gp = 115
    · rw [if_neg (show ¬ nI (kd * 256 + gp) = 9825 from nv 9825 (by omega) (by omega)), if_neg (show ¬ nI (kd * 256 + gp) = 9830 from nv 9830 (by omega) (by omega)), if_neg (show ¬ nI (kd * 256 + gp) = 9835 from nv 9835 (by omega) (by omega)), if_neg (show ¬ nI (kd * 256 + gp) = 9836 from nv 9836 (by omega) (by omega)), if_neg (show ¬ nI (kd * 256 + gp) = 9840 from nv 9840 (by omega) (by omega)), if_pos (show nI (kd * 256 + gp) = 9843 by rw [qk, qg]; rfl), if_pos (show nI kd = 38 by rw [qk]; rfl), if_neg (show ¬ nI gp = 108 from ng' 108 (by decide) (by omega)), if_neg (show ¬ nI gp = 97 from ng' 97 (by decide) (by omega)), if_neg (show ¬ nI gp = 107 from ng' 107 (by decide) (by omega)), if_pos (show nI gp = 115 by rw [qg]; rfl)]
      exact ow_ep h (two_wrap (Q := none) hk h v h5)
    rw [if_neg (show ¬ nI (kd * 256 + gp) = 9825 from nv 9825 (by omega) (by omega)), if_neg (show ¬ nI (kd * 256 + gp) = 9830 from nv 9830 (by omega) (by omega)), if_neg (show ¬ nI (kd * 256 + gp) = 9835 from nv 9835 (by omega) (by omega)), if_neg (show ¬ nI (kd * 256 + gp) = 9836 from nv 9836 (by omega) (by omega)), if_neg (show ¬ nI (kd * 256 + gp) = 9840 from nv 9840 (by omega) (by omega)), if_neg (show ¬ nI (kd * 256 + gp) = 9843 from nv 9843 (by omega) (by omega)), if_neg (show ¬ nI (kd * 256 + gp) = 10850 from nv 10850 (by omega) (by omega)), if_neg (show ¬ nI (kd * 256 + gp) = 10851 from nv 10851 (by omega) (by omega)), if_neg (show ¬ nI (kd * 256 + gp) = 10864 from nv 10864 (by omega) (by omega)), if_neg (show ¬ nI (kd * 256 + gp) = 10866 from nv 10866 (by omega) (by omega)), if_neg (show ¬ nI (kd * 256 + gp) = 10868 from nv 10868 (by omega) (by omega)), if_neg (show ¬ nI (kd * 256 + gp) = 10870 from nv 10870 (by omega) (by omega)), idle (by omega) (by omega), if_pos (show nI kd = 38 by rw [qk]; rfl), if_neg (show ¬ nI gp = 108 from ng' 108 (by decide) (by omega)), if_neg (show ¬ nI gp = 97 from ng' 97 (by decide) (by omega)), if_neg (show ¬ nI gp = 107 from ng' 107 (by decide) (by omega)), if_neg (show ¬ nI gp = 115 from ng' 115 (by decide) (by omega)), if_neg (show ¬ nI gp = 102 from ng' 102 (by decide) (by omega))]
    exact stay
  by_cases qk2 : kd = 42
  · have qk : kd = 42 := qk2
    by_cases qg : gp = 98
    · rw [if_neg (show ¬ nI (kd * 256 + gp) = 9825 from nv 9825 (by omega) (by omega)), if_neg (show ¬ nI (kd * 256 + gp) = 9830 from nv 9830 (by omega) (by omega)), if_neg (show ¬ nI (kd * 256 + gp) = 9835 from nv 9835 (by omega) (by omega)), if_neg (show ¬ nI (kd * 256 + gp) = 9836 from nv 9836 (by omega) (by omega)), if_neg (show ¬ nI (kd * 256 + gp) = 9840 from nv 9840 (by omega) (by omega)), if_neg (show ¬ nI (kd * 256 + gp) = 9843 from nv 9843 (by omega) (by omega)), if_pos (show nI (kd * 256 + gp) = 10850 by rw [qk, qg]; rfl), if_neg (show ¬ nI kd = 38 from nk' 38 (by decide) (by omega)), if_pos (show nI kd = 42 by rw [qk]; rfl), if_neg (show ¬ nI gp = 112 from ng' 112 (by decide) (by omega)), if_neg (show ¬ nI gp = 118 from ng' 118 (by decide) (by omega)), if_neg (show ¬ nI gp = 99 from ng' 99 (by decide) (by omega)), if_neg (show ¬ nI gp = 116 from ng' 116 (by decide) (by omega)), if_neg (show ¬ nI gp = 114 from ng' 114 (by decide) (by omega)), if_pos (show nI gp = 98 by rw [qg]; rfl)]
      rw [bd_u]
      exact ow_ep h (two_row hk q87 h v h5)
    by_cases qg : gp = 99
    · rw [if_neg (show ¬ nI (kd * 256 + gp) = 9825 from nv 9825 (by omega) (by omega)), if_neg (show ¬ nI (kd * 256 + gp) = 9830 from nv 9830 (by omega) (by omega)), if_neg (show ¬ nI (kd * 256 + gp) = 9835 from nv 9835 (by omega) (by omega)), if_neg (show ¬ nI (kd * 256 + gp) = 9836 from nv 9836 (by omega) (by omega)), if_neg (show ¬ nI (kd * 256 + gp) = 9840 from nv 9840 (by omega) (by omega)), if_neg (show ¬ nI (kd * 256 + gp) = 9843 from nv 9843 (by omega) (by omega)), if_neg (show ¬ nI (kd * 256 + gp) = 10850 from nv 10850 (by omega) (by omega)), if_pos (show nI (kd * 256 + gp) = 10851 by rw [qk, qg]; rfl), if_neg (show ¬ nI kd = 38 from nk' 38 (by decide) (by omega)), if_pos (show nI kd = 42 by rw [qk]; rfl), if_neg (show ¬ nI gp = 112 from ng' 112 (by decide) (by omega)), if_neg (show ¬ nI gp = 118 from ng' 118 (by decide) (by omega)), if_pos (show nI gp = 99 by rw [qg]; rfl)]
      rw [bd_u]
      by_cases q70 : k = 70
      · subst q70
        have e1 : f_X9_controlField (iz (vz w ng)) c = f_X9_fontTask (iz (vz w ng)) c := by
          unfold f_X9_controlField
          rw [rd_eq h, lb_eq, h5, if_neg (by decide), if_neg (by decide), if_neg (by decide), if_neg (by decide), if_neg (by decide), if_pos (show nI 70 = 70 from rfl), bd_u]
        have e2 : f_X12_thingField (nI 70) m = f_X12_fontAct m := by
          unfold f_X12_thingField f_X12_thingField_37 f_X12_thingField_75 f_X12_thingField_124 f_X12_thingField_152 f_X12_thingField_191 f_X12_thingField_230
          rw [if_neg (show ¬ nI 70 = 68 by decide), if_neg (show ¬ nI 70 = 69 by decide), if_neg (show ¬ nI 70 = 71 by decide), if_neg (show ¬ nI 70 = 65 by decide), if_neg (show ¬ nI 70 = 66 by decide), if_neg (show ¬ nI 70 = 72 by decide), if_neg (show ¬ nI 70 = 86 by decide), if_neg (show ¬ nI 70 = 80 by decide), if_pos (show nI 70 = 70 from rfl), bd_u]
        rw [e1, e2]
        exact ow_ou (P2_fontTask h v)
      by_cases q80 : k = 80
      · subst q80
        have e1 : f_X9_controlField (iz (vz w ng)) c = f_X9_box (iz (vz w ng)) c := by
          unfold f_X9_controlField
          rw [rd_eq h, lb_eq, h5]
          rw [if_neg (show ¬ nI 80 = 65 by decide), if_neg (show ¬ nI 80 = 66 by decide), if_neg (show ¬ nI 80 = 67 by decide), if_neg (show ¬ nI 80 = 68 by decide), if_neg (show ¬ nI 80 = 69 by decide), if_neg (show ¬ nI 80 = 70 by decide), if_neg (show ¬ nI 80 = 71 by decide), if_neg (show ¬ nI 80 = 72 by decide), if_neg (show ¬ nI 80 = 73 by decide), if_neg (show ¬ nI 80 = 74 by decide), if_neg (show ¬ nI 80 = 75 by decide), if_neg (show ¬ nI 80 = 76 by decide), if_neg (show ¬ nI 80 = 77 by decide), if_neg (show ¬ nI 80 = 78 by decide), if_neg (show ¬ nI 80 = 79 by decide), if_pos (show nI 80 = 80 from rfl), bd_u]
        have e2 : f_X12_thingField (nI 80) m = f_X12_rectangle m := by
          unfold f_X12_thingField f_X12_thingField_37 f_X12_thingField_75 f_X12_thingField_124 f_X12_thingField_152 f_X12_thingField_191 f_X12_thingField_230
          rw [if_neg (show ¬ nI 80 = 68 by decide), if_neg (show ¬ nI 80 = 69 by decide), if_neg (show ¬ nI 80 = 71 by decide), if_neg (show ¬ nI 80 = 65 by decide), if_neg (show ¬ nI 80 = 66 by decide), if_neg (show ¬ nI 80 = 72 by decide), if_neg (show ¬ nI 80 = 86 by decide), if_pos (show nI 80 = 80 from rfl), bd_u]
        rw [e1, e2]
        exact ow_ou (P2_box h v)
      by_cases q81 : k = 81
      · subst q81
        have e1 : f_X9_controlField (iz (vz w ng)) c = f_X9_tileTask (iz (vz w ng)) c := by
          unfold f_X9_controlField
          rw [rd_eq h, lb_eq, h5]
          rw [if_neg (show ¬ nI 81 = 65 by decide), if_neg (show ¬ nI 81 = 66 by decide), if_neg (show ¬ nI 81 = 67 by decide), if_neg (show ¬ nI 81 = 68 by decide), if_neg (show ¬ nI 81 = 69 by decide), if_neg (show ¬ nI 81 = 70 by decide), if_neg (show ¬ nI 81 = 71 by decide), if_neg (show ¬ nI 81 = 72 by decide), if_neg (show ¬ nI 81 = 73 by decide), if_neg (show ¬ nI 81 = 74 by decide), if_neg (show ¬ nI 81 = 75 by decide), if_neg (show ¬ nI 81 = 76 by decide), if_neg (show ¬ nI 81 = 77 by decide), if_neg (show ¬ nI 81 = 78 by decide), if_neg (show ¬ nI 81 = 79 by decide), if_neg (show ¬ nI 81 = 80 by decide), if_pos (show nI 81 = 81 from rfl), bd_u]
        have e2 : f_X12_thingField (nI 81) m = f_X12_userAct m := by
          unfold f_X12_thingField f_X12_thingField_37 f_X12_thingField_75 f_X12_thingField_124 f_X12_thingField_152 f_X12_thingField_191 f_X12_thingField_230
          rw [if_neg (show ¬ nI 81 = 68 by decide), if_neg (show ¬ nI 81 = 69 by decide), if_neg (show ¬ nI 81 = 71 by decide), if_neg (show ¬ nI 81 = 65 by decide), if_neg (show ¬ nI 81 = 66 by decide), if_neg (show ¬ nI 81 = 72 by decide), if_neg (show ¬ nI 81 = 86 by decide), if_neg (show ¬ nI 81 = 80 by decide), if_neg (show ¬ nI 81 = 70 by decide), if_pos (show nI 81 = 81 from rfl), bd_u]
        rw [e1, e2]
        exact ow_ou (P2_tileTask h v)
      exact ow_ep h (two_thing hk q70 q80 q81 q87 h v h5)
    by_cases qg : gp = 112
    · rw [if_neg (show ¬ nI (kd * 256 + gp) = 9825 from nv 9825 (by omega) (by omega)), if_neg (show ¬ nI (kd * 256 + gp) = 9830 from nv 9830 (by omega) (by omega)), if_neg (show ¬ nI (kd * 256 + gp) = 9835 from nv 9835 (by omega) (by omega)), if_neg (show ¬ nI (kd * 256 + gp) = 9836 from nv 9836 (by omega) (by omega)), if_neg (show ¬ nI (kd * 256 + gp) = 9840 from nv 9840 (by omega) (by omega)), if_neg (show ¬ nI (kd * 256 + gp) = 9843 from nv 9843 (by omega) (by omega)), if_neg (show ¬ nI (kd * 256 + gp) = 10850 from nv 10850 (by omega) (by omega)), if_neg (show ¬ nI (kd * 256 + gp) = 10851 from nv 10851 (by omega) (by omega)), if_pos (show nI (kd * 256 + gp) = 10864 by rw [qk, qg]; rfl), if_neg (show ¬ nI kd = 38 from nk' 38 (by decide) (by omega)), if_pos (show nI kd = 42 by rw [qk]; rfl), if_pos (show nI gp = 112 by rw [qg]; rfl)]
      rw [bd_u]
      exact ow_ep h (two_dot hk h v h5)
    by_cases qg : gp = 114
    · rw [if_neg (show ¬ nI (kd * 256 + gp) = 9825 from nv 9825 (by omega) (by omega)), if_neg (show ¬ nI (kd * 256 + gp) = 9830 from nv 9830 (by omega) (by omega)), if_neg (show ¬ nI (kd * 256 + gp) = 9835 from nv 9835 (by omega) (by omega)), if_neg (show ¬ nI (kd * 256 + gp) = 9836 from nv 9836 (by omega) (by omega)), if_neg (show ¬ nI (kd * 256 + gp) = 9840 from nv 9840 (by omega) (by omega)), if_neg (show ¬ nI (kd * 256 + gp) = 9843 from nv 9843 (by omega) (by omega)), if_neg (show ¬ nI (kd * 256 + gp) = 10850 from nv 10850 (by omega) (by omega)), if_neg (show ¬ nI (kd * 256 + gp) = 10851 from nv 10851 (by omega) (by omega)), if_neg (show ¬ nI (kd * 256 + gp) = 10864 from nv 10864 (by omega) (by omega)), if_pos (show nI (kd * 256 + gp) = 10866 by rw [qk, qg]; rfl), if_neg (show ¬ nI kd = 38 from nk' 38 (by decide) (by omega)), if_pos (show nI kd = 42 by rw [qk]; rfl), if_neg (show ¬ nI gp = 112 from ng' 112 (by decide) (by omega)), if_neg (show ¬ nI gp = 118 from ng' 118 (by decide) (by omega)), if_neg (show ¬ nI gp = 99 from ng' 99 (by decide) (by omega)), if_neg (show ¬ nI gp = 116 from ng' 116 (by decide) (by omega)), if_pos (show nI gp = 114 by rw [qg]; rfl)]
      rw [bd_u]
      exact ow_ep h (two_raster hk h v h5)
    by_cases qg : gp = 116
    · rw [if_neg (show ¬ nI (kd * 256 + gp) = 9825 from nv 9825 (by omega) (by omega)), if_neg (show ¬ nI (kd * 256 + gp) = 9830 from nv 9830 (by omega) (by omega)), if_neg (show ¬ nI (kd * 256 + gp) = 9835 from nv 9835 (by omega) (by omega)), if_neg (show ¬ nI (kd * 256 + gp) = 9836 from nv 9836 (by omega) (by omega)), if_neg (show ¬ nI (kd * 256 + gp) = 9840 from nv 9840 (by omega) (by omega)), if_neg (show ¬ nI (kd * 256 + gp) = 9843 from nv 9843 (by omega) (by omega)), if_neg (show ¬ nI (kd * 256 + gp) = 10850 from nv 10850 (by omega) (by omega)), if_neg (show ¬ nI (kd * 256 + gp) = 10851 from nv 10851 (by omega) (by omega)), if_neg (show ¬ nI (kd * 256 + gp) = 10864 from nv 10864 (by omega) (by omega)), if_neg (show ¬ nI (kd * 256 + gp) = 10866 from nv 10866 (by omega) (by omega)), if_pos (show nI (kd * 256 + gp) = 10868 by rw [qk, qg]; rfl), if_neg (show ¬ nI kd = 38 from nk' 38 (by decide) (by omega)), if_pos (show nI kd = 42 by rw [qk]; rfl), if_neg (show ¬ nI gp = 112 from ng' 112 (by decide) (by omega)), if_neg (show ¬ nI gp = 118 from ng' 118 (by decide) (by omega)), if_neg (show ¬ nI gp = 99 from ng' 99 (by decide) (by omega)), if_pos (show nI gp = 116 by rw [qg]; rfl)]
      exact ow_ep h (two_scale h v h5)
    by_cases qg : gp = 118
    · rw [if_neg (show ¬ nI (kd * 256 + gp) = 9825 from nv 9825 (by omega) (by omega)), if_neg (show ¬ nI (kd * 256 + gp) = 9830 from nv 9830 (by omega) (by omega)), if_neg (show ¬ nI (kd * 256 + gp) = 9835 from nv 9835 (by omega) (by omega)), if_neg (show ¬ nI (kd * 256 + gp) = 9836 from nv 9836 (by omega) (by omega)), if_neg (show ¬ nI (kd * 256 + gp) = 9840 from nv 9840 (by omega) (by omega)), if_neg (show ¬ nI (kd * 256 + gp) = 9843 from nv 9843 (by omega) (by omega)), if_neg (show ¬ nI (kd * 256 + gp) = 10850 from nv 10850 (by omega) (by omega)), if_neg (show ¬ nI (kd * 256 + gp) = 10851 from nv 10851 (by omega) (by omega)), if_neg (show ¬ nI (kd * 256 + gp) = 10864 from nv 10864 (by omega) (by omega)), if_neg (show ¬ nI (kd * 256 + gp) = 10866 from nv 10866 (by omega) (by omega)), if_neg (show ¬ nI (kd * 256 + gp) = 10868 from nv 10868 (by omega) (by omega)), if_pos (show nI (kd * 256 + gp) = 10870 by rw [qk, qg]; rfl), if_neg (show ¬ nI kd = 38 from nk' 38 (by decide) (by omega)), if_pos (show nI kd = 42 by rw [qk]; rfl), if_neg (show ¬ nI gp = 112 from ng' 112 (by decide) (by omega)), if_pos (show nI gp = 118 by rw [qg]; rfl)]
      rw [bd_u]
      exact ow_ep h (two_ink hk h v h5)
    rw [if_neg (show ¬ nI (kd * 256 + gp) = 9825 from nv 9825 (by omega) (by omega)), if_neg (show ¬ nI (kd * 256 + gp) = 9830 from nv 9830 (by omega) (by omega)), if_neg (show ¬ nI (kd * 256 + gp) = 9835 from nv 9835 (by omega) (by omega)), if_neg (show ¬ nI (kd * 256 + gp) = 9836 from nv 9836 (by omega) (by omega)), if_neg (show ¬ nI (kd * 256 + gp) = 9840 from nv 9840 (by omega) (by omega)), if_neg (show ¬ nI (kd * 256 + gp) = 9843 from nv 9843 (by omega) (by omega)), if_neg (show ¬ nI (kd * 256 + gp) = 10850 from nv 10850 (by omega) (by omega)), if_neg (show ¬ nI (kd * 256 + gp) = 10851 from nv 10851 (by omega) (by omega)), if_neg (show ¬ nI (kd * 256 + gp) = 10864 from nv 10864 (by omega) (by omega)), if_neg (show ¬ nI (kd * 256 + gp) = 10866 from nv 10866 (by omega) (by omega)), if_neg (show ¬ nI (kd * 256 + gp) = 10868 from nv 10868 (by omega) (by omega)), if_neg (show ¬ nI (kd * 256 + gp) = 10870 from nv 10870 (by omega) (by omega)), idle (by omega) (by omega), if_neg (show ¬ nI kd = 38 from nk' 38 (by decide) (by omega)), if_pos (show nI kd = 42 by rw [qk]; rfl), if_neg (show ¬ nI gp = 112 from ng' 112 (by decide) (by omega)), if_neg (show ¬ nI gp = 118 from ng' 118 (by decide) (by omega)), if_neg (show ¬ nI gp = 99 from ng' 99 (by decide) (by omega)), if_neg (show ¬ nI gp = 116 from ng' 116 (by decide) (by omega)), if_neg (show ¬ nI gp = 114 from ng' 114 (by decide) (by omega)), if_neg (show ¬ nI gp = 98 from ng' 98 (by decide) (by omega))]
    exact stay
  rw [if_neg (show ¬ nI (kd * 256 + gp) = 9825 from nv 9825 (by omega) (by omega)), if_neg (show ¬ nI (kd * 256 + gp) = 9830 from nv 9830 (by omega) (by omega)), if_neg (show ¬ nI (kd * 256 + gp) = 9835 from nv 9835 (by omega) (by omega)), if_neg (show ¬ nI (kd * 256 + gp) = 9836 from nv 9836 (by omega) (by omega)), if_neg (show ¬ nI (kd * 256 + gp) = 9840 from nv 9840 (by omega) (by omega)), if_neg (show ¬ nI (kd * 256 + gp) = 9843 from nv 9843 (by omega) (by omega)), if_neg (show ¬ nI (kd * 256 + gp) = 10850 from nv 10850 (by omega) (by omega)), if_neg (show ¬ nI (kd * 256 + gp) = 10851 from nv 10851 (by omega) (by omega)), if_neg (show ¬ nI (kd * 256 + gp) = 10864 from nv 10864 (by omega) (by omega)), if_neg (show ¬ nI (kd * 256 + gp) = 10866 from nv 10866 (by omega) (by omega)), if_neg (show ¬ nI (kd * 256 + gp) = 10868 from nv 10868 (by omega) (by omega)), if_neg (show ¬ nI (kd * 256 + gp) = 10870 from nv 10870 (by omega) (by omega)), if_neg (show ¬ nI kd = 38 from nk' 38 (by decide) qk), if_neg (show ¬ nI kd = 42 from nk' 42 (by decide) qk2)]
  by_cases q40 : kd = 40
  · rw [if_pos (show nI kd = 40 by rw [q40]; rfl)]
    unfold f_X12_field_361
    rw [if_neg (show ¬ nI kd = 41 from nk' 41 (by decide) (by omega)), bd_u]
    exact ow_ou (P2_fontF (s := 0) hk q87 hgp (by omega) h v h5 (by rw [h3, q40]) h4)
  rw [if_neg (show ¬ nI kd = 40 from nk' 40 (by decide) q40)]
  by_cases q41 : kd = 41
  · rw [if_pos (show nI kd = 41 by rw [q41]; rfl)]
    unfold f_X12_field_361
    rw [if_pos (show nI kd = 41 by rw [q41]; rfl), bd_u]
    exact ow_ou (P2_fontF (s := 1) hk q87 hgp (by omega) h v h5 (by rw [h3, q41]) h4)
  rw [if_neg (show ¬ nI kd = 41 from nk' 41 (by decide) q41), idle q40 q41]
  exact stay
end I1
