set_option maxRecDepth 100000 in
set_option maxHeartbeats 4000000 in
theorem law_0 {x : JX} {b L : Nat} {xs : Nat → Int32} (C : CB x RL cL_law) (M : LM x b) (X : LX x b L xs) (hn9 : x_n x = 4) (S : Hp) (h m k n : Nat) (hkq : k ≤ 600000) (hnq : n ≤ 7302250) (hL6 : L = 6) (hm : h ∈ hL S) (hk : hK S h = 11) (mm : m ∈ hL S) (mk : hK S m = 12) (x_t : Nat) (rx_t : hR S 1100 h = some x_t) (mx_t : x_t ∈ hL S) (kx_t : Kd S x_t 13) (lx_t : Ln S x_t 8000) (m_t : Nat) (rm_t : hR S 1223 m = some m_t) (mm_t : m_t ∈ hL S) (km_t : Kd S m_t 13) (lm_t : Ln S m_t 8000) (i0 : hI S 1101 h = 0) (i1 : hI S 1224 m = 0) : J x k n S [(3, .int 0), (2, .ref m), (1, .ref h), (0, .ref b)] 120 [] := by
  refine j_aload_n C dL_law_120 rfl 2 rfl ?_
  refine j_aload_n C dL_law_121 rfl 3 rfl ?_
  refine j_iload_n C dL_law_122 rfl 0 rfl ?_
  refine j_iconst (v := 1) C dL_law_123 (by decide) ?_
  refine j_iadd (v := 1) C dL_law_124 (by decide) ?_
  refine j_sld (j := 1) C X dL_law_125 (by rw [hL6]; exact vp_lit (by decide)) (by decide) ?_
  refine j_aload_n C dL_law_126 rfl 3 rfl ?_
  refine j_iload_n C dL_law_127 rfl 0 rfl ?_
  show J _ _ _ _ _ 128 _
  refine j_iconst (v := 2) C dL_law_128 (by decide) ?_
  refine j_iadd (v := 2) C dL_law_129 (by decide) ?_
  refine j_sld (j := 2) C X dL_law_130 (by rw [hL6]; exact vp_lit (by decide)) (by decide) ?_
  refine j_aload_n C dL_law_131 rfl 3 rfl ?_
  refine j_iload_n C dL_law_132 rfl 0 rfl ?_
  refine j_iconst (v := 3) C dL_law_133 (by decide) ?_
  refine j_iadd (v := 3) C dL_law_134 (by decide) ?_
  refine j_sld (j := 3) C X dL_law_135 (by rw [hL6]; exact vp_lit (by decide)) (by decide) ?_
  show J _ _ _ _ _ 136 _
  refine j_aload_n C dL_law_136 rfl 3 rfl ?_
  refine j_iload_n C dL_law_137 rfl 0 rfl ?_
  refine j_iconst (v := 4) C dL_law_138 (by decide) ?_
  refine j_iadd (v := 4) C dL_law_139 (by decide) ?_
  refine j_sld (j := 4) C X dL_law_140 (by rw [hL6]; exact vp_lit (by decide)) (by decide) ?_
  refine j_aload_n C dL_law_141 rfl 3 rfl ?_
  refine j_iload_n C dL_law_142 rfl 0 rfl ?_
  refine j_iconst (v := 5) C dL_law_143 (by decide) ?_
  show J _ _ _ _ _ 144 _
  refine j_iadd (v := 5) C dL_law_144 (by decide) ?_
  refine j_sld (j := 5) C X dL_law_145 (by rw [hL6]; exact vp_lit (by decide)) (by decide) ?_
  refine j_callV (ci := 11) C [.int (xs 1), .int (xs 2), .int (xs 3), .int (xs 4), .int (xs 5)] [] mlL_13 mcX11_feed (c_X11_feed S h hm hk x_t rx_t mx_t kx_t lx_t i0 (xs 1) (xs 2) (xs 3) (xs 4) (xs 5)) hm hk rfl (M.rm (by decide) (by decide) (by omega) (by omega)) rfl rfl (Nat.le_of_ble_eq_true rfl) dL_law_146 (fun r_1 S_2 hp_3 => ?_)
  obtain ⟨rfl, hf_4⟩ := hp_3
  refine J.eq (st' := [.int 20]) rfl rfl rfl ?_
  have hm_5 : h ∈ hL S_2 := hf_4.mem hm
  have hk_6 : Kd S_2 h 11 := hf_4.kd hm hk
  have hm_7 : m ∈ hL S_2 := hf_4.mem mm
  have hk_8 : Kd S_2 m 12 := hf_4.kd mm mk
  have hm_9 : m_t ∈ hL S_2 := hf_4.mem mm_t
  have hk_10 : Kd S_2 m_t 13 := hf_4.kd mm_t km_t
  have hn_11 : Ln S_2 m_t 8000 := hf_4.ln mm_t lm_t
  have hm_12 : x_t ∈ hL S_2 := hf_4.mem mx_t
  have hk_13 : Kd S_2 x_t 13 := hf_4.kd mx_t kx_t
  have hn_14 : Ln S_2 x_t 8000 := hf_4.ln mx_t lx_t
  have hv_15 : hI S_2 1224 m = 0 := hf_4.fi mm (fun q9 => absurd q9.1 (by decide)) i1
  have hv_16 : hR S_2 1100 h = (some x_t) := hf_4.fr hm (fun h9 => h9) rx_t
  have hv_17 : hR S_2 1223 m = (some m_t) := hf_4.fr mm (fun h9 => h9) rm_t
  refine j_aload_n C dL_law_149 rfl 1 rfl ?_
  refine j_aload_n C dL_law_150 rfl 3 rfl ?_
  refine j_iload_n C dL_law_151 rfl 0 rfl ?_
  refine j_iconst (v := 1) C dL_law_152 (by decide) ?_
  refine j_iadd (v := 1) C dL_law_153 (by decide) ?_
  show J _ _ _ _ _ 154 _
  refine j_sld (j := 1) C X dL_law_154 (by rw [hL6]; exact vp_lit (by decide)) (by decide) ?_
  refine j_aload_n C dL_law_155 rfl 3 rfl ?_
  refine j_iload_n C dL_law_156 rfl 0 rfl ?_
  refine j_iconst (v := 2) C dL_law_157 (by decide) ?_
  refine j_iadd (v := 2) C dL_law_158 (by decide) ?_
  refine j_sld (j := 2) C X dL_law_159 (by rw [hL6]; exact vp_lit (by decide)) (by decide) ?_
  refine j_aload_n C dL_law_160 rfl 3 rfl ?_
  refine j_iload_n C dL_law_161 rfl 0 rfl ?_
  show J _ _ _ _ _ 162 _
  refine j_iconst (v := 3) C dL_law_162 (by decide) ?_
  refine j_iadd (v := 3) C dL_law_163 (by decide) ?_
  refine j_sld (j := 3) C X dL_law_164 (by rw [hL6]; exact vp_lit (by decide)) (by decide) ?_
  refine j_aload_n C dL_law_165 rfl 3 rfl ?_
  refine j_iload_n C dL_law_166 rfl 0 rfl ?_
  refine j_iconst (v := 4) C dL_law_167 (by decide) ?_
  refine j_iadd (v := 4) C dL_law_168 (by decide) ?_
  refine j_sld (j := 4) C X dL_law_169 (by rw [hL6]; exact vp_lit (by decide)) (by decide) ?_
  show J _ _ _ _ _ 170 _
  refine j_aload_n C dL_law_170 rfl 3 rfl ?_
  refine j_iload_n C dL_law_171 rfl 0 rfl ?_
  refine j_iconst (v := 5) C dL_law_172 (by decide) ?_
  refine j_iadd (v := 5) C dL_law_173 (by decide) ?_
  refine j_sld (j := 5) C X dL_law_174 (by rw [hL6]; exact vp_lit (by decide)) (by decide) ?_
  refine j_callV (ci := 12) C [.int (xs 1), .int (xs 2), .int (xs 3), .int (xs 4), .int (xs 5)] [.int 20] mlL_17 mcX12_feed (c_X12_feed S_2 m hm_7 hk_8 m_t hv_17 hm_9 hk_10 hn_11 hv_15 (xs 1) (xs 2) (xs 3) (xs 4) (xs 5)) hm_7 hk_8 rfl (M.rm (by decide) (by decide) (by omega) (by omega)) rfl rfl (Nat.le_of_ble_eq_true rfl) dL_law_175 (fun r_18 S_19 hp_20 => ?_)
  obtain ⟨rfl, hf_21⟩ := hp_20
  refine J.eq (st' := [.int 20, .int 20]) rfl rfl rfl ?_
  have hm_22 : h ∈ hL S_19 := hf_21.mem hm_5
  have hk_23 : Kd S_19 h 11 := hf_21.kd hm_5 hk_6
  have hm_24 : m ∈ hL S_19 := hf_21.mem hm_7
  have hk_25 : Kd S_19 m 12 := hf_21.kd hm_7 hk_8
  have hm_26 : m_t ∈ hL S_19 := hf_21.mem hm_9
  have hk_27 : Kd S_19 m_t 13 := hf_21.kd hm_9 hk_10
  have hn_28 : Ln S_19 m_t 8000 := hf_21.ln hm_9 hn_11
  have hm_29 : x_t ∈ hL S_19 := hf_21.mem hm_12
  have hk_30 : Kd S_19 x_t 13 := hf_21.kd hm_12 hk_13
  have hn_31 : Ln S_19 x_t 8000 := hf_21.ln hm_12 hn_14
  have hv_32 : hR S_19 1100 h = (some x_t) := hf_21.fr hm_5 (fun h9 => h9) hv_16
  have hv_33 : hR S_19 1223 m = (some m_t) := hf_21.fr hm_7 (fun h9 => h9) hv_17
  refine j_ic_eq (tgt := 544) C dL_law_178 (by decide) (fun c9 => ?_) (fun c9 => absurd (by decide) c9)
  exact law_tail C M X hn9 _ h m _ _ (by omega) (by omega) hL6

set_option maxRecDepth 100000 in
set_option maxHeartbeats 4000000 in
theorem law_1 {x : JX} {b L : Nat} {xs : Nat → Int32} (C : CB x RL cL_law) (M : LM x b) (X : LX x b L xs) (hn9 : x_n x = 4) (S : Hp) (h m k n : Nat) (hkq : k ≤ 600000) (hnq : n ≤ 7302250) (hL6 : L = 6) (hm : h ∈ hL S) (hk : hK S h = 11) (mm : m ∈ hL S) (mk : hK S m = 12) (i0 : hI S 1101 h = 0) (i1 : hI S 1224 m = 0) : J x k n S [(3, .int 0), (2, .ref m), (1, .ref h), (0, .ref b)] 183 [] := by
  refine j_aload_n C dL_law_183 rfl 2 rfl ?_
  refine j_aload_n C dL_law_184 rfl 3 rfl ?_
  refine j_iload_n C dL_law_185 rfl 0 rfl ?_
  refine j_iconst (v := 1) C dL_law_186 (by decide) ?_
  refine j_iadd (v := 1) C dL_law_187 (by decide) ?_
  refine j_sld (j := 1) C X dL_law_188 (by rw [hL6]; exact vp_lit (by decide)) (by decide) ?_
  refine j_callV (ci := 11) C [.int (xs 1)] [] mlL_18 mcX11_cut (c_X11_cut S h hm hk i0 (xs 1)) hm hk rfl (M.rm (by decide) (by decide) (by omega) (by omega)) rfl rfl (Nat.le_of_ble_eq_true rfl) dL_law_189 (fun r_1 S_2 hp_3 => ?_)
  obtain ⟨rfl, hf_4⟩ := hp_3
  refine J.eq (st' := [.int (an_cut (xs 1))]) rfl rfl rfl ?_
  have hm_5 : h ∈ hL S_2 := hf_4.mem hm
  have hk_6 : Kd S_2 h 11 := hf_4.kd hm hk
  have hm_7 : m ∈ hL S_2 := hf_4.mem mm
  have hk_8 : Kd S_2 m 12 := hf_4.kd mm mk
  have hv_9 : hI S_2 1224 m = 0 := hf_4.fi mm (fun q9 => absurd q9.1 (by decide)) i1
  refine j_aload_n C dL_law_192 rfl 1 rfl ?_
  show J _ _ _ _ _ 193 _
  refine j_aload_n C dL_law_193 rfl 3 rfl ?_
  refine j_iload_n C dL_law_194 rfl 0 rfl ?_
  refine j_iconst (v := 1) C dL_law_195 (by decide) ?_
  refine j_iadd (v := 1) C dL_law_196 (by decide) ?_
  refine j_sld (j := 1) C X dL_law_197 (by rw [hL6]; exact vp_lit (by decide)) (by decide) ?_
  refine j_callV (ci := 12) C [.int (xs 1)] [.int (an_cut (xs 1))] mlL_22 mcX12_cut (c_X12_cut S_2 m hm_7 hk_8 hv_9 (xs 1)) hm_7 hk_8 rfl (M.rm (by decide) (by decide) (by omega) (by omega)) rfl rfl (Nat.le_of_ble_eq_true rfl) dL_law_198 (fun r_10 S_11 hp_12 => ?_)
  obtain ⟨rfl, hf_13⟩ := hp_12
  refine J.eq (st' := [.int (an_cut (xs 1)), .int (an_cut (xs 1))]) rfl rfl rfl ?_
  have hm_14 : h ∈ hL S_11 := hf_13.mem hm_5
  have hk_15 : Kd S_11 h 11 := hf_13.kd hm_5 hk_6
  have hm_16 : m ∈ hL S_11 := hf_13.mem hm_7
  have hk_17 : Kd S_11 m 12 := hf_13.kd hm_7 hk_8
  refine j_ic_eq (tgt := 544) C dL_law_201 (by decide) (fun c_201 => ?_) (fun c_201 => absurd rfl c_201)
  exact law_tail C M X hn9 _ h m _ _ (by omega) (by omega) hL6

set_option maxRecDepth 100000 in
set_option maxHeartbeats 4000000 in
theorem law_2 {x : JX} {b L : Nat} {xs : Nat → Int32} (C : CB x RL cL_law) (M : LM x b) (X : LX x b L xs) (hn9 : x_n x = 4) (S : Hp) (h m k n : Nat) (hkq : k ≤ 600000) (hnq : n ≤ 7302250) (hL6 : L = 6) (hm : h ∈ hL S) (hk : hK S h = 11) (mm : m ∈ hL S) (mk : hK S m = 12) (x_t : Nat) (rx_t : hR S 1100 h = some x_t) (mx_t : x_t ∈ hL S) (kx_t : Kd S x_t 13) (lx_t : Ln S x_t 8000) (x_j : Nat) (rx_j : hR S 1102 h = some x_j) (mx_j : x_j ∈ hL S) (kx_j : Kd S x_j 13) (lx_j : Ln S x_j 12000) (x_o : Nat) (rx_o : hR S 1103 h = some x_o) (mx_o : x_o ∈ hL S) (kx_o : Kd S x_o 14) (lx_o : Ln S x_o 6) (x_u : Nat) (rx_u : hR S 1104 h = some x_u) (mx_u : x_u ∈ hL S) (kx_u : Kd S x_u 14) (lx_u : Ln S x_u 7) (zx_u : ∀ j, aI S x_u j = 0) (m_t : Nat) (rm_t : hR S 1223 m = some m_t) (mm_t : m_t ∈ hL S) (km_t : Kd S m_t 13) (lm_t : Ln S m_t 8000) (m_j : Nat) (rm_j : hR S 1219 m = some m_j) (mm_j : m_j ∈ hL S) (km_j : Kd S m_j 13) (lm_j : Ln S m_j 12000) (m_o : Nat) (rm_o : hR S 1221 m = some m_o) (mm_o : m_o ∈ hL S) (km_o : Kd S m_o 14) (lm_o : Ln S m_o 6) (m_u : Nat) (rm_u : hR S 1220 m = some m_u) (mm_u : m_u ∈ hL S) (km_u : Kd S m_u 14) (lm_u : Ln S m_u 7) (zm_u : ∀ j, aI S m_u j = 0) (i0 : hI S 1101 h = 0) (i1 : hI S 1105 h = 0) (i2 : hI S 1224 m = 0) (i3 : hI S 1222 m = 0) (ne_m_u_x_o : m_u ≠ x_o) (ne_m_u_x_u : m_u ≠ x_u) : J x k n S [(3, .int 0), (2, .ref m), (1, .ref h), (0, .ref b)] 206 [] := by
  refine j_aload_n C dL_law_206 rfl 2 rfl ?_
  refine j_aload_n C dL_law_207 rfl 3 rfl ?_
  refine j_iload_n C dL_law_208 rfl 0 rfl ?_
  refine j_iconst (v := 1) C dL_law_209 (by decide) ?_
  refine j_iadd (v := 1) C dL_law_210 (by decide) ?_
  refine j_sld (j := 1) C X dL_law_211 (by rw [hL6]; exact vp_lit (by decide)) (by decide) ?_
  refine j_callV (ci := 11) C [.int (xs 1)] [] mlL_23 mcX11_part (c_X11_part S h hm hk x_t rx_t mx_t kx_t lx_t x_j rx_j mx_j kx_j lx_j x_o rx_o mx_o kx_o lx_o x_u rx_u mx_u kx_u lx_u zx_u i0 i1 (xs 1)) hm hk rfl (M.rm (by decide) (by decide) (by omega) (by omega)) rfl rfl (Nat.le_of_ble_eq_true rfl) dL_law_212 (fun r_1 S_2 hp_3 => ?_)
  obtain ⟨rfl, hf_4⟩ := hp_3
  refine J.eq (st' := [.int (an_part (xs 1))]) rfl rfl rfl ?_
  have hz_5 : ∀ j, aI S_2 m_u j = 0 := fun j9 => (hf_4.ai mm_u (fun h9 => h9.elim (fun q9 => (fun e9 => absurd ((km_u).symm.trans ((congrArg (hK _) e9).trans kx_j)) (by decide)) q9) (fun h9 => h9.elim (fun q9 => ne_m_u_x_o q9) (fun q9 => ne_m_u_x_u q9))) j9).trans (zm_u j9)
  have hm_6 : h ∈ hL S_2 := hf_4.mem hm
  have hk_7 : Kd S_2 h 11 := hf_4.kd hm hk
  have hm_8 : m ∈ hL S_2 := hf_4.mem mm
  have hk_9 : Kd S_2 m 12 := hf_4.kd mm mk
  have hm_10 : m_j ∈ hL S_2 := hf_4.mem mm_j
  have hk_11 : Kd S_2 m_j 13 := hf_4.kd mm_j km_j
  have hn_12 : Ln S_2 m_j 12000 := hf_4.ln mm_j lm_j
  have hm_13 : m_o ∈ hL S_2 := hf_4.mem mm_o
  have hk_14 : Kd S_2 m_o 14 := hf_4.kd mm_o km_o
  have hn_15 : Ln S_2 m_o 6 := hf_4.ln mm_o lm_o
  have hm_16 : m_t ∈ hL S_2 := hf_4.mem mm_t
  have hk_17 : Kd S_2 m_t 13 := hf_4.kd mm_t km_t
  have hn_18 : Ln S_2 m_t 8000 := hf_4.ln mm_t lm_t
  have hm_19 : m_u ∈ hL S_2 := hf_4.mem mm_u
  have hk_20 : Kd S_2 m_u 14 := hf_4.kd mm_u km_u
  have hn_21 : Ln S_2 m_u 7 := hf_4.ln mm_u lm_u
  have hm_22 : x_j ∈ hL S_2 := hf_4.mem mx_j
  have hk_23 : Kd S_2 x_j 13 := hf_4.kd mx_j kx_j
  have hn_24 : Ln S_2 x_j 12000 := hf_4.ln mx_j lx_j
  have hm_25 : x_o ∈ hL S_2 := hf_4.mem mx_o
  have hk_26 : Kd S_2 x_o 14 := hf_4.kd mx_o kx_o
  have hn_27 : Ln S_2 x_o 6 := hf_4.ln mx_o lx_o
  have hm_28 : x_t ∈ hL S_2 := hf_4.mem mx_t
  have hk_29 : Kd S_2 x_t 13 := hf_4.kd mx_t kx_t
  have hn_30 : Ln S_2 x_t 8000 := hf_4.ln mx_t lx_t
  have hm_31 : x_u ∈ hL S_2 := hf_4.mem mx_u
  have hk_32 : Kd S_2 x_u 14 := hf_4.kd mx_u kx_u
  have hn_33 : Ln S_2 x_u 7 := hf_4.ln mx_u lx_u
  have hv_34 : hI S_2 1222 m = 0 := hf_4.fi mm (fun h9 => h9.elim (fun q9 => absurd q9.1 (by decide)) (fun q9 => absurd q9.1 (by decide))) i3
  have hv_35 : hI S_2 1224 m = 0 := hf_4.fi mm (fun h9 => h9.elim (fun q9 => absurd q9.1 (by decide)) (fun q9 => absurd q9.1 (by decide))) i2
  have hv_36 : hR S_2 1100 h = (some x_t) := hf_4.fr hm (fun h9 => h9) rx_t
  have hv_37 : hR S_2 1102 h = (some x_j) := hf_4.fr hm (fun h9 => h9) rx_j
  have hv_38 : hR S_2 1103 h = (some x_o) := hf_4.fr hm (fun h9 => h9) rx_o
  have hv_39 : hR S_2 1104 h = (some x_u) := hf_4.fr hm (fun h9 => h9) rx_u
  have hv_40 : hR S_2 1219 m = (some m_j) := hf_4.fr mm (fun h9 => h9) rm_j
  have hv_41 : hR S_2 1220 m = (some m_u) := hf_4.fr mm (fun h9 => h9) rm_u
  have hv_42 : hR S_2 1221 m = (some m_o) := hf_4.fr mm (fun h9 => h9) rm_o
  have hv_43 : hR S_2 1223 m = (some m_t) := hf_4.fr mm (fun h9 => h9) rm_t
  refine j_aload_n C dL_law_215 rfl 1 rfl ?_
  show J _ _ _ _ _ 216 _
  refine j_aload_n C dL_law_216 rfl 3 rfl ?_
  refine j_iload_n C dL_law_217 rfl 0 rfl ?_
  refine j_iconst (v := 1) C dL_law_218 (by decide) ?_
  refine j_iadd (v := 1) C dL_law_219 (by decide) ?_
  refine j_sld (j := 1) C X dL_law_220 (by rw [hL6]; exact vp_lit (by decide)) (by decide) ?_
  refine j_callV (ci := 12) C [.int (xs 1)] [.int (an_part (xs 1))] mlL_26 mcX12_part (c_X12_part S_2 m hm_8 hk_9 m_t hv_43 hm_16 hk_17 hn_18 m_j hv_40 hm_10 hk_11 hn_12 m_o hv_42 hm_13 hk_14 hn_15 m_u hv_41 hm_19 hk_20 hn_21 hz_5 hv_35 hv_34 (xs 1)) hm_8 hk_9 rfl (M.rm (by decide) (by decide) (by omega) (by omega)) rfl rfl (Nat.le_of_ble_eq_true rfl) dL_law_221 (fun r_44 S_45 hp_46 => ?_)
  obtain ⟨rfl, hf_47⟩ := hp_46
  refine J.eq (st' := [.int (an_part (xs 1)), .int (an_part (xs 1))]) rfl rfl rfl ?_
  have hm_48 : h ∈ hL S_45 := hf_47.mem hm_6
  have hk_49 : Kd S_45 h 11 := hf_47.kd hm_6 hk_7
  have hm_50 : m ∈ hL S_45 := hf_47.mem hm_8
  have hk_51 : Kd S_45 m 12 := hf_47.kd hm_8 hk_9
  have hm_52 : m_j ∈ hL S_45 := hf_47.mem hm_10
  have hk_53 : Kd S_45 m_j 13 := hf_47.kd hm_10 hk_11
  have hn_54 : Ln S_45 m_j 12000 := hf_47.ln hm_10 hn_12
  have hm_55 : m_o ∈ hL S_45 := hf_47.mem hm_13
  have hk_56 : Kd S_45 m_o 14 := hf_47.kd hm_13 hk_14
  have hn_57 : Ln S_45 m_o 6 := hf_47.ln hm_13 hn_15
  have hm_58 : m_t ∈ hL S_45 := hf_47.mem hm_16
  have hk_59 : Kd S_45 m_t 13 := hf_47.kd hm_16 hk_17
  have hn_60 : Ln S_45 m_t 8000 := hf_47.ln hm_16 hn_18
  have hm_61 : m_u ∈ hL S_45 := hf_47.mem hm_19
  have hk_62 : Kd S_45 m_u 14 := hf_47.kd hm_19 hk_20
  have hn_63 : Ln S_45 m_u 7 := hf_47.ln hm_19 hn_21
  have hm_64 : x_j ∈ hL S_45 := hf_47.mem hm_22
  have hk_65 : Kd S_45 x_j 13 := hf_47.kd hm_22 hk_23
  have hn_66 : Ln S_45 x_j 12000 := hf_47.ln hm_22 hn_24
  have hm_67 : x_o ∈ hL S_45 := hf_47.mem hm_25
  have hk_68 : Kd S_45 x_o 14 := hf_47.kd hm_25 hk_26
  have hn_69 : Ln S_45 x_o 6 := hf_47.ln hm_25 hn_27
  have hm_70 : x_t ∈ hL S_45 := hf_47.mem hm_28
  have hk_71 : Kd S_45 x_t 13 := hf_47.kd hm_28 hk_29
  have hn_72 : Ln S_45 x_t 8000 := hf_47.ln hm_28 hn_30
  have hm_73 : x_u ∈ hL S_45 := hf_47.mem hm_31
  have hk_74 : Kd S_45 x_u 14 := hf_47.kd hm_31 hk_32
  have hn_75 : Ln S_45 x_u 7 := hf_47.ln hm_31 hn_33
  have hv_76 : hR S_45 1100 h = (some x_t) := hf_47.fr hm_6 (fun h9 => h9) hv_36
  have hv_77 : hR S_45 1102 h = (some x_j) := hf_47.fr hm_6 (fun h9 => h9) hv_37
  have hv_78 : hR S_45 1103 h = (some x_o) := hf_47.fr hm_6 (fun h9 => h9) hv_38
  have hv_79 : hR S_45 1104 h = (some x_u) := hf_47.fr hm_6 (fun h9 => h9) hv_39
  have hv_80 : hR S_45 1219 m = (some m_j) := hf_47.fr hm_8 (fun h9 => h9) hv_40
  have hv_81 : hR S_45 1220 m = (some m_u) := hf_47.fr hm_8 (fun h9 => h9) hv_41
  have hv_82 : hR S_45 1221 m = (some m_o) := hf_47.fr hm_8 (fun h9 => h9) hv_42
  have hv_83 : hR S_45 1223 m = (some m_t) := hf_47.fr hm_8 (fun h9 => h9) hv_43
  refine j_ic_eq (tgt := 544) C dL_law_224 (by decide) (fun c_224 => ?_) (fun c_224 => absurd rfl c_224)
  exact law_tail C M X hn9 _ h m _ _ (by omega) (by omega) hL6

set_option maxRecDepth 100000 in
set_option maxHeartbeats 4000000 in
theorem law_3 {x : JX} {b L : Nat} {xs : Nat → Int32} (C : CB x RL cL_law) (M : LM x b) (X : LX x b L xs) (hn9 : x_n x = 4) (S : Hp) (h m k n : Nat) (hkq : k ≤ 600000) (hnq : n ≤ 7302250) (hL6 : L = 6) (hm : h ∈ hL S) (hk : hK S h = 11) (mm : m ∈ hL S) (mk : hK S m = 12) (i0 : hI S 1105 h = 0) (i1 : hI S 1222 m = 0) : J x k n S [(3, .int 0), (2, .ref m), (1, .ref h), (0, .ref b)] 229 [] := by
  refine j_aload_n C dL_law_229 rfl 2 rfl ?_
  refine j_callV (ci := 11) C [] [] mlL_27 mcX11_drop (c_X11_drop S h hm hk i0) hm hk rfl (M.rm (by decide) (by decide) (by omega) (by omega)) rfl rfl (Nat.le_of_ble_eq_true rfl) dL_law_230 (fun r_1 S_2 hp_3 => ?_)
  obtain ⟨rfl, hf_4⟩ := hp_3
  refine J.eq (st' := [.int 0]) rfl rfl rfl ?_
  have hm_5 : h ∈ hL S_2 := hf_4.mem hm
  have hk_6 : Kd S_2 h 11 := hf_4.kd hm hk
  have hm_7 : m ∈ hL S_2 := hf_4.mem mm
  have hk_8 : Kd S_2 m 12 := hf_4.kd mm mk
  have hv_9 : hI S_2 1222 m = 0 := hf_4.fi mm (fun q9 => absurd q9.1 (by decide)) i1
  refine j_aload_n C dL_law_233 rfl 1 rfl ?_
  refine j_callV (ci := 12) C [] [.int 0] mlL_31 mcX12_drop (c_X12_drop S_2 m hm_7 hk_8 hv_9) hm_7 hk_8 rfl (M.rm (by decide) (by decide) (by omega) (by omega)) rfl rfl (Nat.le_of_ble_eq_true rfl) dL_law_234 (fun r_10 S_11 hp_12 => ?_)
  obtain ⟨rfl, hf_13⟩ := hp_12
  refine J.eq (st' := [.int 0, .int 0]) rfl rfl rfl ?_
  have hm_14 : h ∈ hL S_11 := hf_13.mem hm_5
  have hk_15 : Kd S_11 h 11 := hf_13.kd hm_5 hk_6
  have hm_16 : m ∈ hL S_11 := hf_13.mem hm_7
  have hk_17 : Kd S_11 m 12 := hf_13.kd hm_7 hk_8
  refine j_ic_eq (tgt := 544) C dL_law_237 (by decide) (fun c9 => ?_) (fun c9 => absurd (by decide) c9)
  exact law_tail C M X hn9 _ h m _ _ (by omega) (by omega) hL6

set_option maxRecDepth 100000 in
set_option maxHeartbeats 4000000 in
theorem law_4 {x : JX} {b L : Nat} {xs : Nat → Int32} (C : CB x RL cL_law) (M : LM x b) (X : LX x b L xs) (hn9 : x_n x = 4) (S : Hp) (h m k n : Nat) (hkq : k ≤ 600000) (hnq : n ≤ 7302250) (hL6 : L = 6) (hm : h ∈ hL S) (hk : hK S h = 11) (mm : m ∈ hL S) (mk : hK S m = 12) (x_g : Nat) (rx_g : hR S 1106 h = some x_g) (mx_g : x_g ∈ hL S) (kx_g : Kd S x_g 6) (x_w : Nat) (rx_w : hR S 1107 h = some x_w) (mx_w : x_w ∈ hL S) (kx_w : Kd S x_w 9) (x_c0 : Nat) (rx_c0 : hR S 901 x_w = some x_c0) (mx_c0 : x_c0 ∈ hL S) (kx_c0 : Kd S x_c0 0) (x_d0 : Nat) (rx_d0 : hR S 0 x_c0 = some x_d0) (mx_d0 : x_d0 ∈ hL S) (kx_d0 : Kd S x_d0 14) (lx_d0 : Ln S x_d0 20000) (m_p4 : Nat) (rm_p4 : hR S 1234 m = some m_p4) (mm_p4 : m_p4 ∈ hL S) (km_p4 : Kd S m_p4 13) (lm_p4 : Ln S m_p4 64000) (m_o : Nat) (rm_o : hR S 1221 m = some m_o) (mm_o : m_o ∈ hL S) (km_o : Kd S m_o 14) (lm_o : Ln S m_o 6) (i0 : hI S 1105 h = 0) (i1 : hI S 1222 m = 0) : J x k n S [(3, .int 0), (2, .ref m), (1, .ref h), (0, .ref b)] 242 [] := by
  refine j_aload_n C dL_law_242 rfl 2 rfl ?_
  refine j_aload_n C dL_law_243 rfl 3 rfl ?_
  refine j_iload_n C dL_law_244 rfl 0 rfl ?_
  refine j_iconst (v := 1) C dL_law_245 (by decide) ?_
  refine j_iadd (v := 1) C dL_law_246 (by decide) ?_
  refine j_sld (j := 1) C X dL_law_247 (by rw [hL6]; exact vp_lit (by decide)) (by decide) ?_
  refine j_callV (ci := 11) C [.int (xs 1)] [] mlL_32 mcX11_print (c_X11_print S h hm hk x_g rx_g mx_g kx_g x_w rx_w mx_w kx_w x_c0 rx_c0 mx_c0 kx_c0 x_d0 rx_d0 mx_d0 kx_d0 lx_d0 i0 (xs 1)) hm hk rfl (M.rm (by decide) (by decide) (by omega) (by omega)) rfl rfl (Nat.le_of_ble_eq_true rfl) dL_law_248 (fun r_1 S_2 hp_3 => ?_)
  obtain ⟨rfl, hf_4⟩ := hp_3
  refine J.eq (st' := [.int (an_print (xs 1))]) rfl rfl rfl ?_
  have hm_5 : h ∈ hL S_2 := hf_4.mem hm
  have hk_6 : Kd S_2 h 11 := hf_4.kd hm hk
  have hm_7 : m ∈ hL S_2 := hf_4.mem mm
  have hk_8 : Kd S_2 m 12 := hf_4.kd mm mk
  have hm_9 : m_o ∈ hL S_2 := hf_4.mem mm_o
  have hk_10 : Kd S_2 m_o 14 := hf_4.kd mm_o km_o
  have hn_11 : Ln S_2 m_o 6 := hf_4.ln mm_o lm_o
  have hm_12 : m_p4 ∈ hL S_2 := hf_4.mem mm_p4
  have hk_13 : Kd S_2 m_p4 13 := hf_4.kd mm_p4 km_p4
  have hn_14 : Ln S_2 m_p4 64000 := hf_4.ln mm_p4 lm_p4
  have hm_15 : x_c0 ∈ hL S_2 := hf_4.mem mx_c0
  have hk_16 : Kd S_2 x_c0 0 := hf_4.kd mx_c0 kx_c0
  have hm_17 : x_d0 ∈ hL S_2 := hf_4.mem mx_d0
  have hk_18 : Kd S_2 x_d0 14 := hf_4.kd mx_d0 kx_d0
  have hn_19 : Ln S_2 x_d0 20000 := hf_4.ln mx_d0 lx_d0
  have hm_20 : x_g ∈ hL S_2 := hf_4.mem mx_g
  have hk_21 : Kd S_2 x_g 6 := hf_4.kd mx_g kx_g
  have hm_22 : x_w ∈ hL S_2 := hf_4.mem mx_w
  have hk_23 : Kd S_2 x_w 9 := hf_4.kd mx_w kx_w
  have hv_24 : hI S_2 1222 m = 0 := hf_4.fi mm (fun h9 => h9.elim (fun q9 => absurd q9.1 (by decide)) (fun h9 => h9.elim (fun q9 => absurd q9.1 (by decide)) (fun h9 => h9.elim (fun q9 => absurd q9.1 (by decide)) (fun h9 => h9.elim (fun q9 => absurd q9.1 (by decide)) (fun h9 => h9.elim (fun q9 => absurd q9.1 (by decide)) (fun h9 => h9.elim (fun q9 => absurd q9.1 (by decide)) (fun h9 => h9.elim (fun q9 => absurd q9.1 (by decide)) (fun h9 => h9.elim (fun q9 => absurd q9.1 (by decide)) (fun h9 => h9.elim (fun q9 => absurd q9.1 (by decide)) (fun h9 => h9.elim (fun q9 => absurd q9.1 (by decide)) (fun h9 => h9.elim (fun q9 => absurd q9.1 (by decide)) (fun q9 => absurd q9.1 (by decide))))))))))))) i1
  have hv_25 : hR S_2 0 x_c0 = (some x_d0) := hf_4.fr mx_c0 (fun h9 => h9) rx_d0
  have hv_26 : hR S_2 1106 h = (some x_g) := hf_4.fr hm (fun h9 => h9) rx_g
  have hv_27 : hR S_2 1107 h = (some x_w) := hf_4.fr hm (fun h9 => h9) rx_w
  have hv_28 : hR S_2 1221 m = (some m_o) := hf_4.fr mm (fun h9 => h9) rm_o
  have hv_29 : hR S_2 1234 m = (some m_p4) := hf_4.fr mm (fun h9 => h9) rm_p4
  have hv_30 : hR S_2 901 x_w = (some x_c0) := hf_4.fr mx_w (fun h9 => h9) rx_c0
  refine j_aload_n C dL_law_251 rfl 1 rfl ?_
  show J _ _ _ _ _ 252 _
  refine j_aload_n C dL_law_252 rfl 3 rfl ?_
  refine j_iload_n C dL_law_253 rfl 0 rfl ?_
  refine j_iconst (v := 1) C dL_law_254 (by decide) ?_
  refine j_iadd (v := 1) C dL_law_255 (by decide) ?_
  refine j_sld (j := 1) C X dL_law_256 (by rw [hL6]; exact vp_lit (by decide)) (by decide) ?_
  refine j_callV (ci := 12) C [.int (xs 1)] [.int (an_print (xs 1))] mlL_35 mcX12_print (c_X12_print S_2 m hm_7 hk_8 m_p4 hv_29 hm_12 hk_13 hn_14 m_o hv_28 hm_9 hk_10 hn_11 hv_24 (xs 1)) hm_7 hk_8 rfl (M.rm (by decide) (by decide) (by omega) (by omega)) rfl rfl (Nat.le_of_ble_eq_true rfl) dL_law_257 (fun r_31 S_32 hp_33 => ?_)
  obtain ⟨rfl, hf_34⟩ := hp_33
  refine J.eq (st' := [.int (an_print (xs 1)), .int (an_print (xs 1))]) rfl rfl rfl ?_
  have hm_35 : h ∈ hL S_32 := hf_34.mem hm_5
  have hk_36 : Kd S_32 h 11 := hf_34.kd hm_5 hk_6
  have hm_37 : m ∈ hL S_32 := hf_34.mem hm_7
  have hk_38 : Kd S_32 m 12 := hf_34.kd hm_7 hk_8
  have hm_39 : m_o ∈ hL S_32 := hf_34.mem hm_9
  have hk_40 : Kd S_32 m_o 14 := hf_34.kd hm_9 hk_10
  have hn_41 : Ln S_32 m_o 6 := hf_34.ln hm_9 hn_11
  have hm_42 : m_p4 ∈ hL S_32 := hf_34.mem hm_12
  have hk_43 : Kd S_32 m_p4 13 := hf_34.kd hm_12 hk_13
  have hn_44 : Ln S_32 m_p4 64000 := hf_34.ln hm_12 hn_14
  have hm_45 : x_c0 ∈ hL S_32 := hf_34.mem hm_15
  have hk_46 : Kd S_32 x_c0 0 := hf_34.kd hm_15 hk_16
  have hm_47 : x_d0 ∈ hL S_32 := hf_34.mem hm_17
  have hk_48 : Kd S_32 x_d0 14 := hf_34.kd hm_17 hk_18
  have hn_49 : Ln S_32 x_d0 20000 := hf_34.ln hm_17 hn_19
  have hm_50 : x_g ∈ hL S_32 := hf_34.mem hm_20
  have hk_51 : Kd S_32 x_g 6 := hf_34.kd hm_20 hk_21
  have hm_52 : x_w ∈ hL S_32 := hf_34.mem hm_22
  have hk_53 : Kd S_32 x_w 9 := hf_34.kd hm_22 hk_23
  have hv_54 : hR S_32 0 x_c0 = (some x_d0) := hf_34.fr hm_15 (fun h9 => h9) hv_25
  have hv_55 : hR S_32 1106 h = (some x_g) := hf_34.fr hm_5 (fun h9 => h9) hv_26
  have hv_56 : hR S_32 1107 h = (some x_w) := hf_34.fr hm_5 (fun h9 => h9) hv_27
  have hv_57 : hR S_32 1221 m = (some m_o) := hf_34.fr hm_7 (fun h9 => h9) hv_28
  have hv_58 : hR S_32 1234 m = (some m_p4) := hf_34.fr hm_7 (fun h9 => h9) hv_29
  have hv_59 : hR S_32 901 x_w = (some x_c0) := hf_34.fr hm_22 (fun h9 => h9) hv_30
  refine j_ic_eq (tgt := 544) C dL_law_260 (by decide) (fun c_260 => ?_) (fun c_260 => absurd rfl c_260)
  exact law_tail C M X hn9 _ h m _ _ (by omega) (by omega) hL6

set_option maxRecDepth 100000 in
set_option maxHeartbeats 4000000 in
theorem law_5 {x : JX} {b L : Nat} {xs : Nat → Int32} (C : CB x RL cL_law) (M : LM x b) (X : LX x b L xs) (hn9 : x_n x = 4) (S : Hp) (h m k n : Nat) (hkq : k ≤ 600000) (hnq : n ≤ 7302250) (hL6 : L = 6) (hm : h ∈ hL S) (hk : hK S h = 11) (mm : m ∈ hL S) (mk : hK S m = 12) (i0 : hI S 1109 h = 0) (i1 : hI S 1110 h = (-1)) (i2 : hI S 1111 h = (-1)) (i3 : hI S 1243 m = 0) (i4 : hI S 1244 m = (-1)) (i5 : hI S 1245 m = (-1)) : J x k n S [(3, .int 0), (2, .ref m), (1, .ref h), (0, .ref b)] 265 [] := by
  refine j_aload_n C dL_law_265 rfl 2 rfl ?_
  refine j_aload_n C dL_law_266 rfl 3 rfl ?_
  refine j_iload_n C dL_law_267 rfl 0 rfl ?_
  refine j_iconst (v := 1) C dL_law_268 (by decide) ?_
  refine j_iadd (v := 1) C dL_law_269 (by decide) ?_
  refine j_sld (j := 1) C X dL_law_270 (by rw [hL6]; exact vp_lit (by decide)) (by decide) ?_
  refine j_callV (ci := 11) C [.int (xs 1)] [] mlL_36 mcX11_fault (c_X11_fault S h hm hk i0 i1 i2 (xs 1)) hm hk rfl (M.rm (by decide) (by decide) (by omega) (by omega)) rfl rfl (Nat.le_of_ble_eq_true rfl) dL_law_271 (fun r_1 S_2 hp_3 => ?_)
  obtain ⟨rfl, hf_4⟩ := hp_3
  refine J.eq (st' := [.int (an_fault (xs 1))]) rfl rfl rfl ?_
  have hm_5 : h ∈ hL S_2 := hf_4.mem hm
  have hk_6 : Kd S_2 h 11 := hf_4.kd hm hk
  have hm_7 : m ∈ hL S_2 := hf_4.mem mm
  have hk_8 : Kd S_2 m 12 := hf_4.kd mm mk
  have hv_9 : hI S_2 1109 h = 0 := hf_4.fi hm (fun h9 => h9) i0
  have hv_10 : hI S_2 1110 h = (-1) := hf_4.fi hm (fun h9 => h9) i1
  have hv_11 : hI S_2 1111 h = (-1) := hf_4.fi hm (fun h9 => h9) i2
  have hv_12 : hI S_2 1243 m = 0 := hf_4.fi mm (fun h9 => h9) i3
  have hv_13 : hI S_2 1244 m = (-1) := hf_4.fi mm (fun h9 => h9) i4
  have hv_14 : hI S_2 1245 m = (-1) := hf_4.fi mm (fun h9 => h9) i5
  refine j_aload_n C dL_law_274 rfl 1 rfl ?_
  show J _ _ _ _ _ 275 _
  refine j_aload_n C dL_law_275 rfl 3 rfl ?_
  refine j_iload_n C dL_law_276 rfl 0 rfl ?_
  refine j_iconst (v := 1) C dL_law_277 (by decide) ?_
  refine j_iadd (v := 1) C dL_law_278 (by decide) ?_
  refine j_sld (j := 1) C X dL_law_279 (by rw [hL6]; exact vp_lit (by decide)) (by decide) ?_
  refine j_callV (ci := 12) C [.int (xs 1)] [.int (an_fault (xs 1))] mlL_39 mcX12_fault (c_X12_fault S_2 m hm_7 hk_8 hv_12 hv_13 hv_14 (xs 1)) hm_7 hk_8 rfl (M.rm (by decide) (by decide) (by omega) (by omega)) rfl rfl (Nat.le_of_ble_eq_true rfl) dL_law_280 (fun r_15 S_16 hp_17 => ?_)
  obtain ⟨rfl, hf_18⟩ := hp_17
  refine J.eq (st' := [.int (an_fault (xs 1)), .int (an_fault (xs 1))]) rfl rfl rfl ?_
  have hm_19 : h ∈ hL S_16 := hf_18.mem hm_5
  have hk_20 : Kd S_16 h 11 := hf_18.kd hm_5 hk_6
  have hm_21 : m ∈ hL S_16 := hf_18.mem hm_7
  have hk_22 : Kd S_16 m 12 := hf_18.kd hm_7 hk_8
  have hv_23 : hI S_16 1109 h = 0 := hf_18.fi hm_5 (fun h9 => h9) hv_9
  have hv_24 : hI S_16 1110 h = (-1) := hf_18.fi hm_5 (fun h9 => h9) hv_10
  have hv_25 : hI S_16 1111 h = (-1) := hf_18.fi hm_5 (fun h9 => h9) hv_11
  have hv_26 : hI S_16 1243 m = 0 := hf_18.fi hm_7 (fun h9 => h9) hv_12
  have hv_27 : hI S_16 1244 m = (-1) := hf_18.fi hm_7 (fun h9 => h9) hv_13
  have hv_28 : hI S_16 1245 m = (-1) := hf_18.fi hm_7 (fun h9 => h9) hv_14
  refine j_ic_eq (tgt := 544) C dL_law_283 (by decide) (fun c_283 => ?_) (fun c_283 => absurd rfl c_283)
  exact law_tail C M X hn9 _ h m _ _ (by omega) (by omega) hL6

set_option maxRecDepth 100000 in
set_option maxHeartbeats 4000000 in
theorem law_6 {x : JX} {b L : Nat} {xs : Nat → Int32} (C : CB x RL cL_law) (M : LM x b) (X : LX x b L xs) (hn9 : x_n x = 4) (S : Hp) (h m k n : Nat) (hkq : k ≤ 600000) (hnq : n ≤ 7302250) (hL6 : L = 6) (hm : h ∈ hL S) (hk : hK S h = 11) (mm : m ∈ hL S) (mk : hK S m = 12) (x_g : Nat) (rx_g : hR S 1106 h = some x_g) (mx_g : x_g ∈ hL S) (kx_g : Kd S x_g 6) (i0 : hI S 601 x_g = 0) (i1 : hI S 1242 m = 0) : J x k n S [(3, .int 0), (2, .ref m), (1, .ref h), (0, .ref b)] 288 [] := by
  refine j_aload_n C dL_law_288 rfl 2 rfl ?_
  refine j_callV (ci := 11) C [] [] mlL_40 mcX11_outs (c_X11_outs S h hm hk x_g rx_g mx_g kx_g i0) hm hk rfl (M.rm (by decide) (by decide) (by omega) (by omega)) rfl rfl (Nat.le_of_ble_eq_true rfl) dL_law_289 (fun r_1 S_2 hp_3 => ?_)
  obtain ⟨rfl, hf_4⟩ := hp_3
  refine J.eq (st' := [.int 0]) rfl rfl rfl ?_
  have hm_5 : h ∈ hL S_2 := hf_4.mem hm
  have hk_6 : Kd S_2 h 11 := hf_4.kd hm hk
  have hm_7 : m ∈ hL S_2 := hf_4.mem mm
  have hk_8 : Kd S_2 m 12 := hf_4.kd mm mk
  have hm_9 : x_g ∈ hL S_2 := hf_4.mem mx_g
  have hk_10 : Kd S_2 x_g 6 := hf_4.kd mx_g kx_g
  have hv_11 : hI S_2 1242 m = 0 := hf_4.fi mm (fun h9 => h9) i1
  have hv_12 : hI S_2 601 x_g = 0 := hf_4.fi mx_g (fun h9 => h9) i0
  have hv_13 : hR S_2 1106 h = (some x_g) := hf_4.fr hm (fun h9 => h9) rx_g
  refine j_aload_n C dL_law_292 rfl 1 rfl ?_
  refine j_callV (ci := 12) C [] [.int 0] mlL_43 mcX12_outs (c_X12_outs S_2 m hm_7 hk_8 hv_11) hm_7 hk_8 rfl (M.rm (by decide) (by decide) (by omega) (by omega)) rfl rfl (Nat.le_of_ble_eq_true rfl) dL_law_293 (fun r_14 S_15 hp_16 => ?_)
  obtain ⟨rfl, hf_17⟩ := hp_16
  refine J.eq (st' := [.int 0, .int 0]) rfl rfl rfl ?_
  have hm_18 : h ∈ hL S_15 := hf_17.mem hm_5
  have hk_19 : Kd S_15 h 11 := hf_17.kd hm_5 hk_6
  have hm_20 : m ∈ hL S_15 := hf_17.mem hm_7
  have hk_21 : Kd S_15 m 12 := hf_17.kd hm_7 hk_8
  have hm_22 : x_g ∈ hL S_15 := hf_17.mem hm_9
  have hk_23 : Kd S_15 x_g 6 := hf_17.kd hm_9 hk_10
  have hv_24 : hI S_15 1242 m = 0 := hf_17.fi hm_7 (fun h9 => h9) hv_11
  have hv_25 : hI S_15 601 x_g = 0 := hf_17.fi hm_9 (fun h9 => h9) hv_12
  have hv_26 : hR S_15 1106 h = (some x_g) := hf_17.fr hm_5 (fun h9 => h9) hv_13
  refine j_ic_eq (tgt := 544) C dL_law_296 (by decide) (fun c9 => ?_) (fun c9 => absurd (by decide) c9)
  exact law_tail C M X hn9 _ h m _ _ (by omega) (by omega) hL6

set_option maxRecDepth 100000 in
set_option maxHeartbeats 4000000 in
theorem law_7 {x : JX} {b L : Nat} {xs : Nat → Int32} (C : CB x RL cL_law) (M : LM x b) (X : LX x b L xs) (hn9 : x_n x = 4) (S : Hp) (h m k n : Nat) (hkq : k ≤ 600000) (hnq : n ≤ 7302250) (hL6 : L = 6) (hm : h ∈ hL S) (hk : hK S h = 11) (mm : m ∈ hL S) (mk : hK S m = 12) (x_g : Nat) (rx_g : hR S 1106 h = some x_g) (mx_g : x_g ∈ hL S) (kx_g : Kd S x_g 6) (x_b0 : Nat) (rx_b0 : hR S 600 x_g = some x_b0) (mx_b0 : x_b0 ∈ hL S) (kx_b0 : Kd S x_b0 13) (lx_b0 : Ln S x_b0 60000) (i0 : hI S 601 x_g = 0) (i1 : hI S 1242 m = 0) : J x k n S [(3, .int 0), (2, .ref m), (1, .ref h), (0, .ref b)] 301 [] := by
  refine j_aload_n C dL_law_301 rfl 2 rfl ?_
  refine j_aload_n C dL_law_302 rfl 3 rfl ?_
  refine j_iload_n C dL_law_303 rfl 0 rfl ?_
  refine j_iconst (v := 1) C dL_law_304 (by decide) ?_
  refine j_iadd (v := 1) C dL_law_305 (by decide) ?_
  refine j_sld (j := 1) C X dL_law_306 (by rw [hL6]; exact vp_lit (by decide)) (by decide) ?_
  refine j_callV (ci := 11) C [.int (xs 1)] [] mlL_44 mcX11_out (c_X11_out S h hm hk x_g rx_g mx_g kx_g x_b0 rx_b0 mx_b0 kx_b0 lx_b0 i0 (xs 1)) hm hk rfl (M.rm (by decide) (by decide) (by omega) (by omega)) rfl rfl (Nat.le_of_ble_eq_true rfl) dL_law_307 (fun r_1 S_2 hp_3 => ?_)
  obtain ⟨rfl, hf_4⟩ := hp_3
  refine J.eq (st' := [.int (-1)]) rfl rfl rfl ?_
  have hm_5 : h ∈ hL S_2 := hf_4.mem hm
  have hk_6 : Kd S_2 h 11 := hf_4.kd hm hk
  have hm_7 : m ∈ hL S_2 := hf_4.mem mm
  have hk_8 : Kd S_2 m 12 := hf_4.kd mm mk
  have hm_9 : x_b0 ∈ hL S_2 := hf_4.mem mx_b0
  have hk_10 : Kd S_2 x_b0 13 := hf_4.kd mx_b0 kx_b0
  have hn_11 : Ln S_2 x_b0 60000 := hf_4.ln mx_b0 lx_b0
  have hm_12 : x_g ∈ hL S_2 := hf_4.mem mx_g
  have hk_13 : Kd S_2 x_g 6 := hf_4.kd mx_g kx_g
  have hv_14 : hI S_2 1242 m = 0 := hf_4.fi mm (fun h9 => h9) i1
  have hv_15 : hI S_2 601 x_g = 0 := hf_4.fi mx_g (fun h9 => h9) i0
  have hv_16 : hR S_2 1106 h = (some x_g) := hf_4.fr hm (fun h9 => h9) rx_g
  have hv_17 : hR S_2 600 x_g = (some x_b0) := hf_4.fr mx_g (fun h9 => h9) rx_b0
  refine j_aload_n C dL_law_310 rfl 1 rfl ?_
  show J _ _ _ _ _ 311 _
  refine j_aload_n C dL_law_311 rfl 3 rfl ?_
  refine j_iload_n C dL_law_312 rfl 0 rfl ?_
  refine j_iconst (v := 1) C dL_law_313 (by decide) ?_
  refine j_iadd (v := 1) C dL_law_314 (by decide) ?_
  refine j_sld (j := 1) C X dL_law_315 (by rw [hL6]; exact vp_lit (by decide)) (by decide) ?_
  refine j_callV (ci := 12) C [.int (xs 1)] [.int (-1)] mlL_47 mcX12_out (c_X12_out S_2 m hm_7 hk_8 hv_14 (xs 1)) hm_7 hk_8 rfl (M.rm (by decide) (by decide) (by omega) (by omega)) rfl rfl (Nat.le_of_ble_eq_true rfl) dL_law_316 (fun r_18 S_19 hp_20 => ?_)
  obtain ⟨rfl, hf_21⟩ := hp_20
  refine J.eq (st' := [.int (-1), .int (-1)]) rfl rfl rfl ?_
  have hm_22 : h ∈ hL S_19 := hf_21.mem hm_5
  have hk_23 : Kd S_19 h 11 := hf_21.kd hm_5 hk_6
  have hm_24 : m ∈ hL S_19 := hf_21.mem hm_7
  have hk_25 : Kd S_19 m 12 := hf_21.kd hm_7 hk_8
  have hm_26 : x_b0 ∈ hL S_19 := hf_21.mem hm_9
  have hk_27 : Kd S_19 x_b0 13 := hf_21.kd hm_9 hk_10
  have hn_28 : Ln S_19 x_b0 60000 := hf_21.ln hm_9 hn_11
  have hm_29 : x_g ∈ hL S_19 := hf_21.mem hm_12
  have hk_30 : Kd S_19 x_g 6 := hf_21.kd hm_12 hk_13
  have hv_31 : hI S_19 1242 m = 0 := hf_21.fi hm_7 (fun h9 => h9) hv_14
  have hv_32 : hI S_19 601 x_g = 0 := hf_21.fi hm_12 (fun h9 => h9) hv_15
  have hv_33 : hR S_19 1106 h = (some x_g) := hf_21.fr hm_5 (fun h9 => h9) hv_16
  have hv_34 : hR S_19 600 x_g = (some x_b0) := hf_21.fr hm_12 (fun h9 => h9) hv_17
  refine j_ic_eq (tgt := 544) C dL_law_319 (by decide) (fun c9 => ?_) (fun c9 => absurd (by decide) c9)
  exact law_tail C M X hn9 _ h m _ _ (by omega) (by omega) hL6

set_option maxRecDepth 100000 in
set_option maxHeartbeats 4000000 in
theorem law_8 {x : JX} {b L : Nat} {xs : Nat → Int32} (C : CB x RL cL_law) (M : LM x b) (X : LX x b L xs) (hn9 : x_n x = 4) (S : Hp) (h m k n : Nat) (hkq : k ≤ 600000) (hnq : n ≤ 7302250) (hL6 : L = 6) (hm : h ∈ hL S) (hk : hK S h = 11) (mm : m ∈ hL S) (mk : hK S m = 12) (x_g : Nat) (rx_g : hR S 1106 h = some x_g) (mx_g : x_g ∈ hL S) (kx_g : Kd S x_g 6) (x_b0 : Nat) (rx_b0 : hR S 600 x_g = some x_b0) (mx_b0 : x_b0 ∈ hL S) (kx_b0 : Kd S x_b0 13) (lx_b0 : Ln S x_b0 60000) (i0 : hI S 601 x_g = 0) (i1 : hI S 1242 m = 0) : J x k n S [(3, .int 0), (2, .ref m), (1, .ref h), (0, .ref b)] 324 [] := by
  refine j_aload_n C dL_law_324 rfl 2 rfl ?_
  refine j_callV (ci := 11) C [] [] mlL_48 mcX11_sum (c_X11_sum S h hm hk x_g rx_g mx_g kx_g x_b0 rx_b0 mx_b0 kx_b0 lx_b0 i0) hm hk rfl (M.rm (by decide) (by decide) (by omega) (by omega)) rfl rfl (Nat.le_of_ble_eq_true rfl) dL_law_325 (fun r_1 S_2 hp_3 => ?_)
  obtain ⟨rfl, hf_4⟩ := hp_3
  refine J.eq (st' := [.int 0]) rfl rfl rfl ?_
  have hm_5 : h ∈ hL S_2 := hf_4.mem hm
  have hk_6 : Kd S_2 h 11 := hf_4.kd hm hk
  have hm_7 : m ∈ hL S_2 := hf_4.mem mm
  have hk_8 : Kd S_2 m 12 := hf_4.kd mm mk
  have hm_9 : x_b0 ∈ hL S_2 := hf_4.mem mx_b0
  have hk_10 : Kd S_2 x_b0 13 := hf_4.kd mx_b0 kx_b0
  have hn_11 : Ln S_2 x_b0 60000 := hf_4.ln mx_b0 lx_b0
  have hm_12 : x_g ∈ hL S_2 := hf_4.mem mx_g
  have hk_13 : Kd S_2 x_g 6 := hf_4.kd mx_g kx_g
  have hv_14 : hI S_2 1242 m = 0 := hf_4.fi mm (fun h9 => h9) i1
  have hv_15 : hI S_2 601 x_g = 0 := hf_4.fi mx_g (fun h9 => h9) i0
  have hv_16 : hR S_2 1106 h = (some x_g) := hf_4.fr hm (fun h9 => h9) rx_g
  have hv_17 : hR S_2 600 x_g = (some x_b0) := hf_4.fr mx_g (fun h9 => h9) rx_b0
  refine j_aload_n C dL_law_328 rfl 1 rfl ?_
  refine j_callV (ci := 12) C [] [.int 0] mlL_51 mcX12_sum (c_X12_sum S_2 m hm_7 hk_8 hv_14) hm_7 hk_8 rfl (M.rm (by decide) (by decide) (by omega) (by omega)) rfl rfl (Nat.le_of_ble_eq_true rfl) dL_law_329 (fun r_18 S_19 hp_20 => ?_)
  obtain ⟨rfl, hf_21⟩ := hp_20
  refine J.eq (st' := [.int 0, .int 0]) rfl rfl rfl ?_
  have hm_22 : h ∈ hL S_19 := hf_21.mem hm_5
  have hk_23 : Kd S_19 h 11 := hf_21.kd hm_5 hk_6
  have hm_24 : m ∈ hL S_19 := hf_21.mem hm_7
  have hk_25 : Kd S_19 m 12 := hf_21.kd hm_7 hk_8
  have hm_26 : x_b0 ∈ hL S_19 := hf_21.mem hm_9
  have hk_27 : Kd S_19 x_b0 13 := hf_21.kd hm_9 hk_10
  have hn_28 : Ln S_19 x_b0 60000 := hf_21.ln hm_9 hn_11
  have hm_29 : x_g ∈ hL S_19 := hf_21.mem hm_12
  have hk_30 : Kd S_19 x_g 6 := hf_21.kd hm_12 hk_13
  have hv_31 : hI S_19 1242 m = 0 := hf_21.fi hm_7 (fun h9 => h9) hv_14
  have hv_32 : hI S_19 601 x_g = 0 := hf_21.fi hm_12 (fun h9 => h9) hv_15
  have hv_33 : hR S_19 1106 h = (some x_g) := hf_21.fr hm_5 (fun h9 => h9) hv_16
  have hv_34 : hR S_19 600 x_g = (some x_b0) := hf_21.fr hm_12 (fun h9 => h9) hv_17
  refine j_ic_eq (tgt := 544) C dL_law_332 (by decide) (fun c9 => ?_) (fun c9 => absurd (by decide) c9)
  exact law_tail C M X hn9 _ h m _ _ (by omega) (by omega) hL6

set_option maxRecDepth 100000 in
set_option maxHeartbeats 4000000 in
theorem law_9 {x : JX} {b L : Nat} {xs : Nat → Int32} (C : CB x RL cL_law) (M : LM x b) (X : LX x b L xs) (hn9 : x_n x = 4) (S : Hp) (h m k n : Nat) (hkq : k ≤ 600000) (hnq : n ≤ 7302250) (hL6 : L = 6) (hm : h ∈ hL S) (hk : hK S h = 11) (mm : m ∈ hL S) (mk : hK S m = 12) (x_t : Nat) (rx_t : hR S 1100 h = some x_t) (mx_t : x_t ∈ hL S) (kx_t : Kd S x_t 13) (lx_t : Ln S x_t 8000) (x_g : Nat) (rx_g : hR S 1106 h = some x_g) (mx_g : x_g ∈ hL S) (kx_g : Kd S x_g 6) (x_b0 : Nat) (rx_b0 : hR S 600 x_g = some x_b0) (mx_b0 : x_b0 ∈ hL S) (kx_b0 : Kd S x_b0 13) (lx_b0 : Ln S x_b0 60000) (i0 : hI S 601 x_g = 0) (i1 : hI S 1242 m = 0) : J x k n S [(3, .int 0), (2, .ref m), (1, .ref h), (0, .ref b)] 337 [] := by
  refine j_aload_n C dL_law_337 rfl 2 rfl ?_
  refine j_callV (ci := 11) C [] [] mlL_52 mcX11_take (c_X11_take S h hm hk x_t rx_t mx_t kx_t lx_t x_g rx_g mx_g kx_g x_b0 rx_b0 mx_b0 kx_b0 lx_b0 i0) hm hk rfl (M.rm (by decide) (by decide) (by omega) (by omega)) rfl rfl (Nat.le_of_ble_eq_true rfl) dL_law_338 (fun r_1 S_2 hp_3 => ?_)
  obtain ⟨rfl, hf_4⟩ := hp_3
  refine J.eq (st' := [.int 0]) rfl rfl rfl ?_
  have hm_5 : h ∈ hL S_2 := hf_4.mem hm
  have hk_6 : Kd S_2 h 11 := hf_4.kd hm hk
  have hm_7 : m ∈ hL S_2 := hf_4.mem mm
  have hk_8 : Kd S_2 m 12 := hf_4.kd mm mk
  have hm_9 : x_b0 ∈ hL S_2 := hf_4.mem mx_b0
  have hk_10 : Kd S_2 x_b0 13 := hf_4.kd mx_b0 kx_b0
  have hn_11 : Ln S_2 x_b0 60000 := hf_4.ln mx_b0 lx_b0
  have hm_12 : x_g ∈ hL S_2 := hf_4.mem mx_g
  have hk_13 : Kd S_2 x_g 6 := hf_4.kd mx_g kx_g
  have hm_14 : x_t ∈ hL S_2 := hf_4.mem mx_t
  have hk_15 : Kd S_2 x_t 13 := hf_4.kd mx_t kx_t
  have hn_16 : Ln S_2 x_t 8000 := hf_4.ln mx_t lx_t
  have hv_17 : hI S_2 1242 m = 0 := hf_4.fi mm (fun q9 => absurd q9.1 (by decide)) i1
  have hv_18 : hI S_2 601 x_g = 0 := hf_4.fi mx_g (fun q9 => absurd q9.1 (by decide)) i0
  have hv_19 : hR S_2 1100 h = (some x_t) := hf_4.fr hm (fun h9 => h9) rx_t
  have hv_20 : hR S_2 1106 h = (some x_g) := hf_4.fr hm (fun h9 => h9) rx_g
  have hv_21 : hR S_2 600 x_g = (some x_b0) := hf_4.fr mx_g (fun h9 => h9) rx_b0
  refine j_aload_n C dL_law_341 rfl 1 rfl ?_
  refine j_callV (ci := 12) C [] [.int 0] mlL_55 mcX12_take (c_X12_take S_2 m hm_7 hk_8 hv_17) hm_7 hk_8 rfl (M.rm (by decide) (by decide) (by omega) (by omega)) rfl rfl (Nat.le_of_ble_eq_true rfl) dL_law_342 (fun r_22 S_23 hp_24 => ?_)
  obtain ⟨rfl, hf_25⟩ := hp_24
  refine J.eq (st' := [.int 0, .int 0]) rfl rfl rfl ?_
  have hm_26 : h ∈ hL S_23 := hf_25.mem hm_5
  have hk_27 : Kd S_23 h 11 := hf_25.kd hm_5 hk_6
  have hm_28 : m ∈ hL S_23 := hf_25.mem hm_7
  have hk_29 : Kd S_23 m 12 := hf_25.kd hm_7 hk_8
  have hm_30 : x_b0 ∈ hL S_23 := hf_25.mem hm_9
  have hk_31 : Kd S_23 x_b0 13 := hf_25.kd hm_9 hk_10
  have hn_32 : Ln S_23 x_b0 60000 := hf_25.ln hm_9 hn_11
  have hm_33 : x_g ∈ hL S_23 := hf_25.mem hm_12
  have hk_34 : Kd S_23 x_g 6 := hf_25.kd hm_12 hk_13
  have hm_35 : x_t ∈ hL S_23 := hf_25.mem hm_14
  have hk_36 : Kd S_23 x_t 13 := hf_25.kd hm_14 hk_15
  have hn_37 : Ln S_23 x_t 8000 := hf_25.ln hm_14 hn_16
  have hv_38 : hI S_23 1242 m = 0 := hf_25.fi hm_7 (fun q9 => absurd q9.1 (by decide)) hv_17
  have hv_39 : hI S_23 601 x_g = 0 := hf_25.fi hm_12 (fun q9 => absurd q9.1 (by decide)) hv_18
  have hv_40 : hR S_23 1100 h = (some x_t) := hf_25.fr hm_5 (fun h9 => h9) hv_19
  have hv_41 : hR S_23 1106 h = (some x_g) := hf_25.fr hm_5 (fun h9 => h9) hv_20
  have hv_42 : hR S_23 600 x_g = (some x_b0) := hf_25.fr hm_12 (fun h9 => h9) hv_21
  refine j_ic_eq (tgt := 544) C dL_law_345 (by decide) (fun c9 => ?_) (fun c9 => absurd (by decide) c9)
  exact law_tail C M X hn9 _ h m _ _ (by omega) (by omega) hL6

set_option maxRecDepth 100000 in
set_option maxHeartbeats 4000000 in
theorem law_10 {x : JX} {b L : Nat} {xs : Nat → Int32} (C : CB x RL cL_law) (M : LM x b) (X : LX x b L xs) (hn9 : x_n x = 4) (S : Hp) (h m k n : Nat) (hkq : k ≤ 600000) (hnq : n ≤ 7302250) (hL6 : L = 6) (hm : h ∈ hL S) (hk : hK S h = 11) (mm : m ∈ hL S) (mk : hK S m = 12) (x_g : Nat) (rx_g : hR S 1106 h = some x_g) (mx_g : x_g ∈ hL S) (kx_g : Kd S x_g 6) (i0 : hI S 602 x_g = 0) (i1 : hI S 1240 m = 0) : J x k n S [(3, .int 0), (2, .ref m), (1, .ref h), (0, .ref b)] 350 [] := by
  refine j_aload_n C dL_law_350 rfl 2 rfl ?_
  refine j_callV (ci := 11) C [] [] mlL_56 mcX11_pages (c_X11_pages S h hm hk x_g rx_g mx_g kx_g i0) hm hk rfl (M.rm (by decide) (by decide) (by omega) (by omega)) rfl rfl (Nat.le_of_ble_eq_true rfl) dL_law_351 (fun r_1 S_2 hp_3 => ?_)
  obtain ⟨rfl, hf_4⟩ := hp_3
  refine J.eq (st' := [.int 0]) rfl rfl rfl ?_
  have hm_5 : h ∈ hL S_2 := hf_4.mem hm
  have hk_6 : Kd S_2 h 11 := hf_4.kd hm hk
  have hm_7 : m ∈ hL S_2 := hf_4.mem mm
  have hk_8 : Kd S_2 m 12 := hf_4.kd mm mk
  have hm_9 : x_g ∈ hL S_2 := hf_4.mem mx_g
  have hk_10 : Kd S_2 x_g 6 := hf_4.kd mx_g kx_g
  have hv_11 : hI S_2 1240 m = 0 := hf_4.fi mm (fun h9 => h9) i1
  have hv_12 : hI S_2 602 x_g = 0 := hf_4.fi mx_g (fun h9 => h9) i0
  have hv_13 : hR S_2 1106 h = (some x_g) := hf_4.fr hm (fun h9 => h9) rx_g
  refine j_aload_n C dL_law_354 rfl 1 rfl ?_
  refine j_callV (ci := 12) C [] [.int 0] mlL_59 mcX12_pages (c_X12_pages S_2 m hm_7 hk_8 hv_11) hm_7 hk_8 rfl (M.rm (by decide) (by decide) (by omega) (by omega)) rfl rfl (Nat.le_of_ble_eq_true rfl) dL_law_355 (fun r_14 S_15 hp_16 => ?_)
  obtain ⟨rfl, hf_17⟩ := hp_16
  refine J.eq (st' := [.int 0, .int 0]) rfl rfl rfl ?_
  have hm_18 : h ∈ hL S_15 := hf_17.mem hm_5
  have hk_19 : Kd S_15 h 11 := hf_17.kd hm_5 hk_6
  have hm_20 : m ∈ hL S_15 := hf_17.mem hm_7
  have hk_21 : Kd S_15 m 12 := hf_17.kd hm_7 hk_8
  have hm_22 : x_g ∈ hL S_15 := hf_17.mem hm_9
  have hk_23 : Kd S_15 x_g 6 := hf_17.kd hm_9 hk_10
  have hv_24 : hI S_15 1240 m = 0 := hf_17.fi hm_7 (fun h9 => h9) hv_11
  have hv_25 : hI S_15 602 x_g = 0 := hf_17.fi hm_9 (fun h9 => h9) hv_12
  have hv_26 : hR S_15 1106 h = (some x_g) := hf_17.fr hm_5 (fun h9 => h9) hv_13
  refine j_ic_eq (tgt := 544) C dL_law_358 (by decide) (fun c9 => ?_) (fun c9 => absurd (by decide) c9)
  exact law_tail C M X hn9 _ h m _ _ (by omega) (by omega) hL6

set_option maxRecDepth 100000 in
set_option maxHeartbeats 4000000 in
theorem law_11 {x : JX} {b L : Nat} {xs : Nat → Int32} (C : CB x RL cL_law) (M : LM x b) (X : LX x b L xs) (hn9 : x_n x = 4) (S : Hp) (h m k n : Nat) (hkq : k ≤ 600000) (hnq : n ≤ 7302250) (hL6 : L = 6) (hm : h ∈ hL S) (hk : hK S h = 11) (mm : m ∈ hL S) (mk : hK S m = 12) (x_g : Nat) (rx_g : hR S 1106 h = some x_g) (mx_g : x_g ∈ hL S) (kx_g : Kd S x_g 6) (i0 : hI S 602 x_g = 0) (i1 : hI S 1240 m = 0) : J x k n S [(3, .int 0), (2, .ref m), (1, .ref h), (0, .ref b)] 363 [] := by
  refine j_aload_n C dL_law_363 rfl 2 rfl ?_
  refine j_aload_n C dL_law_364 rfl 3 rfl ?_
  refine j_iload_n C dL_law_365 rfl 0 rfl ?_
  refine j_iconst (v := 1) C dL_law_366 (by decide) ?_
  refine j_iadd (v := 1) C dL_law_367 (by decide) ?_
  refine j_sld (j := 1) C X dL_law_368 (by rw [hL6]; exact vp_lit (by decide)) (by decide) ?_
  refine j_callV (ci := 11) C [.int (xs 1)] [] mlL_60 mcX11_width (c_X11_width S h hm hk x_g rx_g mx_g kx_g i0 (xs 1)) hm hk rfl (M.rm (by decide) (by decide) (by omega) (by omega)) rfl rfl (Nat.le_of_ble_eq_true rfl) dL_law_369 (fun r_1 S_2 hp_3 => ?_)
  obtain ⟨rfl, hf_4⟩ := hp_3
  refine J.eq (st' := [.int (-1)]) rfl rfl rfl ?_
  have hm_5 : h ∈ hL S_2 := hf_4.mem hm
  have hk_6 : Kd S_2 h 11 := hf_4.kd hm hk
  have hm_7 : m ∈ hL S_2 := hf_4.mem mm
  have hk_8 : Kd S_2 m 12 := hf_4.kd mm mk
  have hm_9 : x_g ∈ hL S_2 := hf_4.mem mx_g
  have hk_10 : Kd S_2 x_g 6 := hf_4.kd mx_g kx_g
  have hv_11 : hI S_2 1240 m = 0 := hf_4.fi mm (fun h9 => h9) i1
  have hv_12 : hI S_2 602 x_g = 0 := hf_4.fi mx_g (fun h9 => h9) i0
  have hv_13 : hR S_2 1106 h = (some x_g) := hf_4.fr hm (fun h9 => h9) rx_g
  refine j_aload_n C dL_law_372 rfl 1 rfl ?_
  show J _ _ _ _ _ 373 _
  refine j_aload_n C dL_law_373 rfl 3 rfl ?_
  refine j_iload_n C dL_law_374 rfl 0 rfl ?_
  refine j_iconst (v := 1) C dL_law_375 (by decide) ?_
  refine j_iadd (v := 1) C dL_law_376 (by decide) ?_
  refine j_sld (j := 1) C X dL_law_377 (by rw [hL6]; exact vp_lit (by decide)) (by decide) ?_
  refine j_callV (ci := 12) C [.int (xs 1)] [.int (-1)] mlL_63 mcX12_width (c_X12_width S_2 m hm_7 hk_8 hv_11 (xs 1)) hm_7 hk_8 rfl (M.rm (by decide) (by decide) (by omega) (by omega)) rfl rfl (Nat.le_of_ble_eq_true rfl) dL_law_378 (fun r_14 S_15 hp_16 => ?_)
  obtain ⟨rfl, hf_17⟩ := hp_16
  refine J.eq (st' := [.int (-1), .int (-1)]) rfl rfl rfl ?_
  have hm_18 : h ∈ hL S_15 := hf_17.mem hm_5
  have hk_19 : Kd S_15 h 11 := hf_17.kd hm_5 hk_6
  have hm_20 : m ∈ hL S_15 := hf_17.mem hm_7
  have hk_21 : Kd S_15 m 12 := hf_17.kd hm_7 hk_8
  have hm_22 : x_g ∈ hL S_15 := hf_17.mem hm_9
  have hk_23 : Kd S_15 x_g 6 := hf_17.kd hm_9 hk_10
  have hv_24 : hI S_15 1240 m = 0 := hf_17.fi hm_7 (fun h9 => h9) hv_11
  have hv_25 : hI S_15 602 x_g = 0 := hf_17.fi hm_9 (fun h9 => h9) hv_12
  have hv_26 : hR S_15 1106 h = (some x_g) := hf_17.fr hm_5 (fun h9 => h9) hv_13
  refine j_ic_eq (tgt := 544) C dL_law_381 (by decide) (fun c9 => ?_) (fun c9 => absurd (by decide) c9)
  exact law_tail C M X hn9 _ h m _ _ (by omega) (by omega) hL6

set_option maxRecDepth 100000 in
set_option maxHeartbeats 4000000 in
theorem law_12 {x : JX} {b L : Nat} {xs : Nat → Int32} (C : CB x RL cL_law) (M : LM x b) (X : LX x b L xs) (hn9 : x_n x = 4) (S : Hp) (h m k n : Nat) (hkq : k ≤ 600000) (hnq : n ≤ 7302250) (hL6 : L = 6) (hm : h ∈ hL S) (hk : hK S h = 11) (mm : m ∈ hL S) (mk : hK S m = 12) (x_g : Nat) (rx_g : hR S 1106 h = some x_g) (mx_g : x_g ∈ hL S) (kx_g : Kd S x_g 6) (i0 : hI S 602 x_g = 0) (i1 : hI S 1240 m = 0) : J x k n S [(3, .int 0), (2, .ref m), (1, .ref h), (0, .ref b)] 386 [] := by
  refine j_aload_n C dL_law_386 rfl 2 rfl ?_
  refine j_aload_n C dL_law_387 rfl 3 rfl ?_
  refine j_iload_n C dL_law_388 rfl 0 rfl ?_
  refine j_iconst (v := 1) C dL_law_389 (by decide) ?_
  refine j_iadd (v := 1) C dL_law_390 (by decide) ?_
  refine j_sld (j := 1) C X dL_law_391 (by rw [hL6]; exact vp_lit (by decide)) (by decide) ?_
  refine j_callV (ci := 11) C [.int (xs 1)] [] mlL_64 mcX11_height (c_X11_height S h hm hk x_g rx_g mx_g kx_g i0 (xs 1)) hm hk rfl (M.rm (by decide) (by decide) (by omega) (by omega)) rfl rfl (Nat.le_of_ble_eq_true rfl) dL_law_392 (fun r_1 S_2 hp_3 => ?_)
  obtain ⟨rfl, hf_4⟩ := hp_3
  refine J.eq (st' := [.int (-1)]) rfl rfl rfl ?_
  have hm_5 : h ∈ hL S_2 := hf_4.mem hm
  have hk_6 : Kd S_2 h 11 := hf_4.kd hm hk
  have hm_7 : m ∈ hL S_2 := hf_4.mem mm
  have hk_8 : Kd S_2 m 12 := hf_4.kd mm mk
  have hm_9 : x_g ∈ hL S_2 := hf_4.mem mx_g
  have hk_10 : Kd S_2 x_g 6 := hf_4.kd mx_g kx_g
  have hv_11 : hI S_2 1240 m = 0 := hf_4.fi mm (fun h9 => h9) i1
  have hv_12 : hI S_2 602 x_g = 0 := hf_4.fi mx_g (fun h9 => h9) i0
  have hv_13 : hR S_2 1106 h = (some x_g) := hf_4.fr hm (fun h9 => h9) rx_g
  refine j_aload_n C dL_law_395 rfl 1 rfl ?_
  show J _ _ _ _ _ 396 _
  refine j_aload_n C dL_law_396 rfl 3 rfl ?_
  refine j_iload_n C dL_law_397 rfl 0 rfl ?_
  refine j_iconst (v := 1) C dL_law_398 (by decide) ?_
  refine j_iadd (v := 1) C dL_law_399 (by decide) ?_
  refine j_sld (j := 1) C X dL_law_400 (by rw [hL6]; exact vp_lit (by decide)) (by decide) ?_
  refine j_callV (ci := 12) C [.int (xs 1)] [.int (-1)] mlL_67 mcX12_height (c_X12_height S_2 m hm_7 hk_8 hv_11 (xs 1)) hm_7 hk_8 rfl (M.rm (by decide) (by decide) (by omega) (by omega)) rfl rfl (Nat.le_of_ble_eq_true rfl) dL_law_401 (fun r_14 S_15 hp_16 => ?_)
  obtain ⟨rfl, hf_17⟩ := hp_16
  refine J.eq (st' := [.int (-1), .int (-1)]) rfl rfl rfl ?_
  have hm_18 : h ∈ hL S_15 := hf_17.mem hm_5
  have hk_19 : Kd S_15 h 11 := hf_17.kd hm_5 hk_6
  have hm_20 : m ∈ hL S_15 := hf_17.mem hm_7
  have hk_21 : Kd S_15 m 12 := hf_17.kd hm_7 hk_8
  have hm_22 : x_g ∈ hL S_15 := hf_17.mem hm_9
  have hk_23 : Kd S_15 x_g 6 := hf_17.kd hm_9 hk_10
  have hv_24 : hI S_15 1240 m = 0 := hf_17.fi hm_7 (fun h9 => h9) hv_11
  have hv_25 : hI S_15 602 x_g = 0 := hf_17.fi hm_9 (fun h9 => h9) hv_12
  have hv_26 : hR S_15 1106 h = (some x_g) := hf_17.fr hm_5 (fun h9 => h9) hv_13
  refine j_ic_eq (tgt := 544) C dL_law_404 (by decide) (fun c9 => ?_) (fun c9 => absurd (by decide) c9)
  exact law_tail C M X hn9 _ h m _ _ (by omega) (by omega) hL6

set_option maxRecDepth 100000 in
set_option maxHeartbeats 4000000 in
theorem law_13 {x : JX} {b L : Nat} {xs : Nat → Int32} (C : CB x RL cL_law) (M : LM x b) (X : LX x b L xs) (hn9 : x_n x = 4) (S : Hp) (h m k n : Nat) (hkq : k ≤ 600000) (hnq : n ≤ 7302250) (hL6 : L = 6) (hm : h ∈ hL S) (hk : hK S h = 11) (mm : m ∈ hL S) (mk : hK S m = 12) (x_g : Nat) (rx_g : hR S 1106 h = some x_g) (mx_g : x_g ∈ hL S) (kx_g : Kd S x_g 6) (i0 : hI S 602 x_g = 0) (i1 : hI S 1240 m = 0) : J x k n S [(3, .int 0), (2, .ref m), (1, .ref h), (0, .ref b)] 409 [] := by
  refine j_aload_n C dL_law_409 rfl 2 rfl ?_
  refine j_aload_n C dL_law_410 rfl 3 rfl ?_
  refine j_iload_n C dL_law_411 rfl 0 rfl ?_
  refine j_iconst (v := 1) C dL_law_412 (by decide) ?_
  refine j_iadd (v := 1) C dL_law_413 (by decide) ?_
  refine j_sld (j := 1) C X dL_law_414 (by rw [hL6]; exact vp_lit (by decide)) (by decide) ?_
  refine j_aload_n C dL_law_415 rfl 3 rfl ?_
  refine j_iload_n C dL_law_416 rfl 0 rfl ?_
  show J _ _ _ _ _ 417 _
  refine j_iconst (v := 2) C dL_law_417 (by decide) ?_
  refine j_iadd (v := 2) C dL_law_418 (by decide) ?_
  refine j_sld (j := 2) C X dL_law_419 (by rw [hL6]; exact vp_lit (by decide)) (by decide) ?_
  refine j_aload_n C dL_law_420 rfl 3 rfl ?_
  refine j_iload_n C dL_law_421 rfl 0 rfl ?_
  refine j_iconst (v := 3) C dL_law_422 (by decide) ?_
  refine j_iadd (v := 3) C dL_law_423 (by decide) ?_
  refine j_sld (j := 3) C X dL_law_424 (by rw [hL6]; exact vp_lit (by decide)) (by decide) ?_
  show J _ _ _ _ _ 425 _
  refine j_callV (ci := 11) C [.int (xs 1), .int (xs 2), .int (xs 3)] [] mlL_68 mcX11_dot (c_X11_dot S h hm hk x_g rx_g mx_g kx_g i0 (xs 1) (xs 2) (xs 3)) hm hk rfl (M.rm (by decide) (by decide) (by omega) (by omega)) rfl rfl (Nat.le_of_ble_eq_true rfl) dL_law_425 (fun r_1 S_2 hp_3 => ?_)
  obtain ⟨rfl, hf_4⟩ := hp_3
  refine J.eq (st' := [.int (-1)]) rfl rfl rfl ?_
  have hm_5 : h ∈ hL S_2 := hf_4.mem hm
  have hk_6 : Kd S_2 h 11 := hf_4.kd hm hk
  have hm_7 : m ∈ hL S_2 := hf_4.mem mm
  have hk_8 : Kd S_2 m 12 := hf_4.kd mm mk
  have hm_9 : x_g ∈ hL S_2 := hf_4.mem mx_g
  have hk_10 : Kd S_2 x_g 6 := hf_4.kd mx_g kx_g
  have hv_11 : hI S_2 1240 m = 0 := hf_4.fi mm (fun h9 => h9) i1
  have hv_12 : hI S_2 602 x_g = 0 := hf_4.fi mx_g (fun h9 => h9) i0
  have hv_13 : hR S_2 1106 h = (some x_g) := hf_4.fr hm (fun h9 => h9) rx_g
  refine j_aload_n C dL_law_428 rfl 1 rfl ?_
  refine j_aload_n C dL_law_429 rfl 3 rfl ?_
  refine j_iload_n C dL_law_430 rfl 0 rfl ?_
  refine j_iconst (v := 1) C dL_law_431 (by decide) ?_
  refine j_iadd (v := 1) C dL_law_432 (by decide) ?_
  refine j_sld (j := 1) C X dL_law_433 (by rw [hL6]; exact vp_lit (by decide)) (by decide) ?_
  refine j_aload_n C dL_law_434 rfl 3 rfl ?_
  show J _ _ _ _ _ 435 _
  refine j_iload_n C dL_law_435 rfl 0 rfl ?_
  refine j_iconst (v := 2) C dL_law_436 (by decide) ?_
  refine j_iadd (v := 2) C dL_law_437 (by decide) ?_
  refine j_sld (j := 2) C X dL_law_438 (by rw [hL6]; exact vp_lit (by decide)) (by decide) ?_
  refine j_aload_n C dL_law_439 rfl 3 rfl ?_
  refine j_iload_n C dL_law_440 rfl 0 rfl ?_
  refine j_iconst (v := 3) C dL_law_441 (by decide) ?_
  refine j_iadd (v := 3) C dL_law_442 (by decide) ?_
  show J _ _ _ _ _ 443 _
  refine j_sld (j := 3) C X dL_law_443 (by rw [hL6]; exact vp_lit (by decide)) (by decide) ?_
  refine j_callV (ci := 12) C [.int (xs 1), .int (xs 2), .int (xs 3)] [.int (-1)] mlL_72 mcX12_dot (c_X12_dot S_2 m hm_7 hk_8 hv_11 (xs 1) (xs 2) (xs 3)) hm_7 hk_8 rfl (M.rm (by decide) (by decide) (by omega) (by omega)) rfl rfl (Nat.le_of_ble_eq_true rfl) dL_law_444 (fun r_14 S_15 hp_16 => ?_)
  obtain ⟨rfl, hf_17⟩ := hp_16
  refine J.eq (st' := [.int (-1), .int (-1)]) rfl rfl rfl ?_
  have hm_18 : h ∈ hL S_15 := hf_17.mem hm_5
  have hk_19 : Kd S_15 h 11 := hf_17.kd hm_5 hk_6
  have hm_20 : m ∈ hL S_15 := hf_17.mem hm_7
  have hk_21 : Kd S_15 m 12 := hf_17.kd hm_7 hk_8
  have hm_22 : x_g ∈ hL S_15 := hf_17.mem hm_9
  have hk_23 : Kd S_15 x_g 6 := hf_17.kd hm_9 hk_10
  have hv_24 : hI S_15 1240 m = 0 := hf_17.fi hm_7 (fun h9 => h9) hv_11
  have hv_25 : hI S_15 602 x_g = 0 := hf_17.fi hm_9 (fun h9 => h9) hv_12
  have hv_26 : hR S_15 1106 h = (some x_g) := hf_17.fr hm_5 (fun h9 => h9) hv_13
  refine j_ic_eq (tgt := 544) C dL_law_447 (by decide) (fun c9 => ?_) (fun c9 => absurd (by decide) c9)
  exact law_tail C M X hn9 _ h m _ _ (by omega) (by omega) hL6

set_option maxRecDepth 100000 in
set_option maxHeartbeats 4000000 in
theorem law_14 {x : JX} {b L : Nat} {xs : Nat → Int32} (C : CB x RL cL_law) (M : LM x b) (X : LX x b L xs) (hn9 : x_n x = 4) (S : Hp) (h m k n : Nat) (hkq : k ≤ 600000) (hnq : n ≤ 7302250) (hL6 : L = 6) (hm : h ∈ hL S) (hk : hK S h = 11) (mm : m ∈ hL S) (mk : hK S m = 12) (x_g : Nat) (rx_g : hR S 1106 h = some x_g) (mx_g : x_g ∈ hL S) (kx_g : Kd S x_g 6) (i0 : hI S 602 x_g = 0) (i1 : hI S 1240 m = 0) : J x k n S [(3, .int 0), (2, .ref m), (1, .ref h), (0, .ref b)] 452 [] := by
  refine j_aload_n C dL_law_452 rfl 2 rfl ?_
  refine j_aload_n C dL_law_453 rfl 3 rfl ?_
  refine j_iload_n C dL_law_454 rfl 0 rfl ?_
  refine j_iconst (v := 1) C dL_law_455 (by decide) ?_
  refine j_iadd (v := 1) C dL_law_456 (by decide) ?_
  refine j_sld (j := 1) C X dL_law_457 (by rw [hL6]; exact vp_lit (by decide)) (by decide) ?_
  refine j_aload_n C dL_law_458 rfl 3 rfl ?_
  refine j_iload_n C dL_law_459 rfl 0 rfl ?_
  show J _ _ _ _ _ 460 _
  refine j_iconst (v := 2) C dL_law_460 (by decide) ?_
  refine j_iadd (v := 2) C dL_law_461 (by decide) ?_
  refine j_sld (j := 2) C X dL_law_462 (by rw [hL6]; exact vp_lit (by decide)) (by decide) ?_
  refine j_callV (ci := 11) C [.int (xs 1), .int (xs 2)] [] mlL_73 mcX11_black (c_X11_black S h hm hk x_g rx_g mx_g kx_g i0 (xs 1) (xs 2)) hm hk rfl (M.rm (by decide) (by decide) (by omega) (by omega)) rfl rfl (Nat.le_of_ble_eq_true rfl) dL_law_463 (fun r_1 S_2 hp_3 => ?_)
  obtain ⟨rfl, hf_4⟩ := hp_3
  refine J.eq (st' := [.int (-1)]) rfl rfl rfl ?_
  have hm_5 : h ∈ hL S_2 := hf_4.mem hm
  have hk_6 : Kd S_2 h 11 := hf_4.kd hm hk
  have hm_7 : m ∈ hL S_2 := hf_4.mem mm
  have hk_8 : Kd S_2 m 12 := hf_4.kd mm mk
  have hm_9 : x_g ∈ hL S_2 := hf_4.mem mx_g
  have hk_10 : Kd S_2 x_g 6 := hf_4.kd mx_g kx_g
  have hv_11 : hI S_2 1240 m = 0 := hf_4.fi mm (fun h9 => h9) i1
  have hv_12 : hI S_2 602 x_g = 0 := hf_4.fi mx_g (fun h9 => h9) i0
  have hv_13 : hR S_2 1106 h = (some x_g) := hf_4.fr hm (fun h9 => h9) rx_g
  refine j_aload_n C dL_law_466 rfl 1 rfl ?_
  refine j_aload_n C dL_law_467 rfl 3 rfl ?_
  refine j_iload_n C dL_law_468 rfl 0 rfl ?_
  refine j_iconst (v := 1) C dL_law_469 (by decide) ?_
  show J _ _ _ _ _ 470 _
  refine j_iadd (v := 1) C dL_law_470 (by decide) ?_
  refine j_sld (j := 1) C X dL_law_471 (by rw [hL6]; exact vp_lit (by decide)) (by decide) ?_
  refine j_aload_n C dL_law_472 rfl 3 rfl ?_
  refine j_iload_n C dL_law_473 rfl 0 rfl ?_
  refine j_iconst (v := 2) C dL_law_474 (by decide) ?_
  refine j_iadd (v := 2) C dL_law_475 (by decide) ?_
  refine j_sld (j := 2) C X dL_law_476 (by rw [hL6]; exact vp_lit (by decide)) (by decide) ?_
  refine j_callV (ci := 12) C [.int (xs 1), .int (xs 2)] [.int (-1)] mlL_77 mcX12_black (c_X12_black S_2 m hm_7 hk_8 hv_11 (xs 1) (xs 2)) hm_7 hk_8 rfl (M.rm (by decide) (by decide) (by omega) (by omega)) rfl rfl (Nat.le_of_ble_eq_true rfl) dL_law_477 (fun r_14 S_15 hp_16 => ?_)
  obtain ⟨rfl, hf_17⟩ := hp_16
  refine J.eq (st' := [.int (-1), .int (-1)]) rfl rfl rfl ?_
  have hm_18 : h ∈ hL S_15 := hf_17.mem hm_5
  have hk_19 : Kd S_15 h 11 := hf_17.kd hm_5 hk_6
  have hm_20 : m ∈ hL S_15 := hf_17.mem hm_7
  have hk_21 : Kd S_15 m 12 := hf_17.kd hm_7 hk_8
  have hm_22 : x_g ∈ hL S_15 := hf_17.mem hm_9
  have hk_23 : Kd S_15 x_g 6 := hf_17.kd hm_9 hk_10
  have hv_24 : hI S_15 1240 m = 0 := hf_17.fi hm_7 (fun h9 => h9) hv_11
  have hv_25 : hI S_15 602 x_g = 0 := hf_17.fi hm_9 (fun h9 => h9) hv_12
  have hv_26 : hR S_15 1106 h = (some x_g) := hf_17.fr hm_5 (fun h9 => h9) hv_13
  show J _ _ _ _ _ 480 _
  refine j_ic_eq (tgt := 544) C dL_law_480 (by decide) (fun c9 => ?_) (fun c9 => absurd (by decide) c9)
  exact law_tail C M X hn9 _ h m _ _ (by omega) (by omega) hL6

set_option maxRecDepth 100000 in
set_option maxHeartbeats 4000000 in
theorem law_15 {x : JX} {b L : Nat} {xs : Nat → Int32} (C : CB x RL cL_law) (M : LM x b) (X : LX x b L xs) (hn9 : x_n x = 4) (S : Hp) (h m k n : Nat) (hkq : k ≤ 600000) (hnq : n ≤ 7302250) (hL6 : L = 6) (hm : h ∈ hL S) (hk : hK S h = 11) (mm : m ∈ hL S) (mk : hK S m = 12) (x_w : Nat) (rx_w : hR S 1107 h = some x_w) (mx_w : x_w ∈ hL S) (kx_w : Kd S x_w 9) (x_q : Nat) (rx_q : hR S 917 x_w = some x_q) (mx_q : x_q ∈ hL S) (kx_q : Kd S x_q 14) (lx_q : Ln S x_q 12) (i0 : hI S 918 x_w = 0) (i1 : hI S 1247 m = 0) : J x k n S [(3, .int 0), (2, .ref m), (1, .ref h), (0, .ref b)] 485 [] := by
  refine j_aload_n C dL_law_485 rfl 2 rfl ?_
  refine j_aload_n C dL_law_486 rfl 3 rfl ?_
  refine j_iload_n C dL_law_487 rfl 0 rfl ?_
  refine j_iconst (v := 1) C dL_law_488 (by decide) ?_
  refine j_iadd (v := 1) C dL_law_489 (by decide) ?_
  refine j_sld (j := 1) C X dL_law_490 (by rw [hL6]; exact vp_lit (by decide)) (by decide) ?_
  refine j_callV (ci := 11) C [.int (xs 1)] [] mlL_78 mcX11_state (c_X11_state S h hm hk x_w rx_w mx_w kx_w x_q rx_q mx_q kx_q lx_q i0 (xs 1)) hm hk rfl (M.rm (by decide) (by decide) (by omega) (by omega)) rfl rfl (Nat.le_of_ble_eq_true rfl) dL_law_491 (fun r_1 S_2 hp_3 => ?_)
  obtain ⟨rfl, hf_4⟩ := hp_3
  refine J.eq (st' := [.int (-1)]) rfl rfl rfl ?_
  have hm_5 : h ∈ hL S_2 := hf_4.mem hm
  have hk_6 : Kd S_2 h 11 := hf_4.kd hm hk
  have hm_7 : m ∈ hL S_2 := hf_4.mem mm
  have hk_8 : Kd S_2 m 12 := hf_4.kd mm mk
  have hm_9 : x_q ∈ hL S_2 := hf_4.mem mx_q
  have hk_10 : Kd S_2 x_q 14 := hf_4.kd mx_q kx_q
  have hn_11 : Ln S_2 x_q 12 := hf_4.ln mx_q lx_q
  have hm_12 : x_w ∈ hL S_2 := hf_4.mem mx_w
  have hk_13 : Kd S_2 x_w 9 := hf_4.kd mx_w kx_w
  have hv_14 : hI S_2 1247 m = 0 := hf_4.fi mm (fun h9 => h9) i1
  have hv_15 : hI S_2 918 x_w = 0 := hf_4.fi mx_w (fun h9 => h9) i0
  have hv_16 : hR S_2 1107 h = (some x_w) := hf_4.fr hm (fun h9 => h9) rx_w
  have hv_17 : hR S_2 917 x_w = (some x_q) := hf_4.fr mx_w (fun h9 => h9) rx_q
  refine j_aload_n C dL_law_494 rfl 1 rfl ?_
  show J _ _ _ _ _ 495 _
  refine j_aload_n C dL_law_495 rfl 3 rfl ?_
  refine j_iload_n C dL_law_496 rfl 0 rfl ?_
  refine j_iconst (v := 1) C dL_law_497 (by decide) ?_
  refine j_iadd (v := 1) C dL_law_498 (by decide) ?_
  refine j_sld (j := 1) C X dL_law_499 (by rw [hL6]; exact vp_lit (by decide)) (by decide) ?_
  refine j_callV (ci := 12) C [.int (xs 1)] [.int (-1)] mlL_81 mcX12_state (c_X12_state S_2 m hm_7 hk_8 hv_14 (xs 1)) hm_7 hk_8 rfl (M.rm (by decide) (by decide) (by omega) (by omega)) rfl rfl (Nat.le_of_ble_eq_true rfl) dL_law_500 (fun r_18 S_19 hp_20 => ?_)
  obtain ⟨rfl, hf_21⟩ := hp_20
  refine J.eq (st' := [.int (-1), .int (-1)]) rfl rfl rfl ?_
  have hm_22 : h ∈ hL S_19 := hf_21.mem hm_5
  have hk_23 : Kd S_19 h 11 := hf_21.kd hm_5 hk_6
  have hm_24 : m ∈ hL S_19 := hf_21.mem hm_7
  have hk_25 : Kd S_19 m 12 := hf_21.kd hm_7 hk_8
  have hm_26 : x_q ∈ hL S_19 := hf_21.mem hm_9
  have hk_27 : Kd S_19 x_q 14 := hf_21.kd hm_9 hk_10
  have hn_28 : Ln S_19 x_q 12 := hf_21.ln hm_9 hn_11
  have hm_29 : x_w ∈ hL S_19 := hf_21.mem hm_12
  have hk_30 : Kd S_19 x_w 9 := hf_21.kd hm_12 hk_13
  have hv_31 : hI S_19 1247 m = 0 := hf_21.fi hm_7 (fun h9 => h9) hv_14
  have hv_32 : hI S_19 918 x_w = 0 := hf_21.fi hm_12 (fun h9 => h9) hv_15
  have hv_33 : hR S_19 1107 h = (some x_w) := hf_21.fr hm_5 (fun h9 => h9) hv_16
  have hv_34 : hR S_19 917 x_w = (some x_q) := hf_21.fr hm_12 (fun h9 => h9) hv_17
  refine j_ic_eq (tgt := 544) C dL_law_503 (by decide) (fun c9 => ?_) (fun c9 => absurd (by decide) c9)
  exact law_tail C M X hn9 _ h m _ _ (by omega) (by omega) hL6

set_option maxRecDepth 100000 in
set_option maxHeartbeats 4000000 in
theorem law_16 {x : JX} {b L : Nat} {xs : Nat → Int32} (C : CB x RL cL_law) (M : LM x b) (X : LX x b L xs) (hn9 : x_n x = 4) (S : Hp) (h m k n : Nat) (hkq : k ≤ 600000) (hnq : n ≤ 7302250) (hL6 : L = 6) (hm : h ∈ hL S) (hk : hK S h = 11) (mm : m ∈ hL S) (mk : hK S m = 12) (x_w : Nat) (rx_w : hR S 1107 h = some x_w) (mx_w : x_w ∈ hL S) (kx_w : Kd S x_w 9) (x_f0 : Nat) (rx_f0 : hR S 902 x_w = some x_f0) (mx_f0 : x_f0 ∈ hL S) (kx_f0 : Kd S x_f0 2) (x_s : Nat) (rx_s : hR S 200 x_f0 = some x_s) (mx_s : x_s ∈ hL S) (kx_s : Kd S x_s 8) (x_q : Nat) (rx_q : hR S 800 x_s = some x_q) (mx_q : x_q ∈ hL S) (kx_q : Kd S x_q 14) (lx_q : Ln S x_q 16) (zx_q : ∀ j, aI S x_q j = 0) (x_s2 : Nat) (rx_s2 : hR S 903 x_w = some x_s2) (mx_s2 : x_s2 ∈ hL S) (kx_s2 : Kd S x_s2 8) (x_q2 : Nat) (rx_q2 : hR S 800 x_s2 = some x_q2) (mx_q2 : x_q2 ∈ hL S) (kx_q2 : Kd S x_q2 14) (lx_q2 : Ln S x_q2 16) (zx_q2 : ∀ j, aI S x_q2 j = 0) (x_s3 : Nat) (rx_s3 : hR S 906 x_w = some x_s3) (mx_s3 : x_s3 ∈ hL S) (kx_s3 : Kd S x_s3 8) (x_q3 : Nat) (rx_q3 : hR S 800 x_s3 = some x_q3) (mx_q3 : x_q3 ∈ hL S) (kx_q3 : Kd S x_q3 14) (lx_q3 : Ln S x_q3 16) (zx_q3 : ∀ j, aI S x_q3 j = 0) (x_z : Nat) (rx_z : hR S 908 x_w = some x_z) (mx_z : x_z ∈ hL S) (kx_z : Kd S x_z 14) (lx_z : Ln S x_z 16) (x_c0 : Nat) (rx_c0 : hR S 901 x_w = some x_c0) (mx_c0 : x_c0 ∈ hL S) (kx_c0 : Kd S x_c0 0) (m_ft : Nat) (rm_ft : hR S 1202 m = some m_ft) (mm_ft : m_ft ∈ hL S) (km_ft : Kd S m_ft 17) (lm_ft : Ln S m_ft 17) (zm_ft : ∀ j, j < 16 → aI S m_ft j = 0) (m_v1 : Nat) (rm_v1 : hR S 1210 m = some m_v1) (mm_v1 : m_v1 ∈ hL S) (km_v1 : Kd S m_v1 17) (lm_v1 : Ln S m_v1 16) (zm_v1 : ∀ j, aI S m_v1 j = 0) (m_v2 : Nat) (rm_v2 : hR S 1215 m = some m_v2) (mm_v2 : m_v2 ∈ hL S) (km_v2 : Kd S m_v2 17) (lm_v2 : Ln S m_v2 16) (zm_v2 : ∀ j, aI S m_v2 j = 0) (m_mz : Nat) (rm_mz : hR S 1217 m = some m_mz) (mm_mz : m_mz ∈ hL S) (km_mz : Kd S m_mz 14) (lm_mz : Ln S m_mz 16) (i0 : hI S 206 x_f0 = 0) (i1 : hI S 916 x_w = 0) (i2 : hI S 3 x_c0 = 0) (i3 : hI S 1209 m = 0) (i4 : hI S 1232 m = 0) (i5 : hI S 1236 m = 0) : J x k n S [(3, .int 0), (2, .ref m), (1, .ref h), (0, .ref b)] 508 [] := by
  refine j_aload_n C dL_law_508 rfl 2 rfl ?_
  refine j_aload_n C dL_law_509 rfl 3 rfl ?_
  refine j_iload_n C dL_law_510 rfl 0 rfl ?_
  refine j_iconst (v := 1) C dL_law_511 (by decide) ?_
  refine j_iadd (v := 1) C dL_law_512 (by decide) ?_
  refine j_sld (j := 1) C X dL_law_513 (by rw [hL6]; exact vp_lit (by decide)) (by decide) ?_
  refine j_callV (ci := 11) C [.int (xs 1)] [] mlL_82 mcX11_held (c_X11_held S h hm hk x_w rx_w mx_w kx_w x_f0 rx_f0 mx_f0 kx_f0 x_s rx_s mx_s kx_s x_q rx_q mx_q kx_q lx_q zx_q x_s2 rx_s2 mx_s2 kx_s2 x_q2 rx_q2 mx_q2 kx_q2 lx_q2 zx_q2 x_s3 rx_s3 mx_s3 kx_s3 x_q3 rx_q3 mx_q3 kx_q3 lx_q3 zx_q3 x_z rx_z mx_z kx_z lx_z x_c0 rx_c0 mx_c0 kx_c0 i0 i1 i2 (xs 1)) hm hk rfl (M.rm (by decide) (by decide) (by omega) (by omega)) rfl rfl (Nat.le_of_ble_eq_true rfl) dL_law_514 (fun r_1 S_2 hp_3 => ?_)
  obtain ⟨rfl, hf_4⟩ := hp_3
  refine J.eq (st' := [.int (an_held (xs 1))]) rfl rfl rfl ?_
  have hz_5 : ∀ j, aI S_2 m_v1 j = 0 := fun j9 => (hf_4.ai mm_v1 (fun h9 => h9) j9).trans (zm_v1 j9)
  have hz_6 : ∀ j, aI S_2 m_v2 j = 0 := fun j9 => (hf_4.ai mm_v2 (fun h9 => h9) j9).trans (zm_v2 j9)
  have hz_7 : ∀ j, aI S_2 x_q j = 0 := fun j9 => (hf_4.ai mx_q (fun h9 => h9) j9).trans (zx_q j9)
  have hz_8 : ∀ j, aI S_2 x_q2 j = 0 := fun j9 => (hf_4.ai mx_q2 (fun h9 => h9) j9).trans (zx_q2 j9)
  have hz_9 : ∀ j, aI S_2 x_q3 j = 0 := fun j9 => (hf_4.ai mx_q3 (fun h9 => h9) j9).trans (zx_q3 j9)
  have hy_10 : ∀ j, j < 16 → aI S_2 m_ft j = 0 := fun j9 h9 => (hf_4.ai mm_ft (fun h9 => h9) j9).trans (zm_ft j9 h9)
  have hm_11 : h ∈ hL S_2 := hf_4.mem hm
  have hk_12 : Kd S_2 h 11 := hf_4.kd hm hk
  have hm_13 : m ∈ hL S_2 := hf_4.mem mm
  have hk_14 : Kd S_2 m 12 := hf_4.kd mm mk
  have hm_15 : m_ft ∈ hL S_2 := hf_4.mem mm_ft
  have hk_16 : Kd S_2 m_ft 17 := hf_4.kd mm_ft km_ft
  have hn_17 : Ln S_2 m_ft 17 := hf_4.ln mm_ft lm_ft
  have hm_18 : m_mz ∈ hL S_2 := hf_4.mem mm_mz
  have hk_19 : Kd S_2 m_mz 14 := hf_4.kd mm_mz km_mz
  have hn_20 : Ln S_2 m_mz 16 := hf_4.ln mm_mz lm_mz
  have hm_21 : m_v1 ∈ hL S_2 := hf_4.mem mm_v1
  have hk_22 : Kd S_2 m_v1 17 := hf_4.kd mm_v1 km_v1
  have hn_23 : Ln S_2 m_v1 16 := hf_4.ln mm_v1 lm_v1
  have hm_24 : m_v2 ∈ hL S_2 := hf_4.mem mm_v2
  have hk_25 : Kd S_2 m_v2 17 := hf_4.kd mm_v2 km_v2
  have hn_26 : Ln S_2 m_v2 16 := hf_4.ln mm_v2 lm_v2
  have hm_27 : x_c0 ∈ hL S_2 := hf_4.mem mx_c0
  have hk_28 : Kd S_2 x_c0 0 := hf_4.kd mx_c0 kx_c0
  have hm_29 : x_f0 ∈ hL S_2 := hf_4.mem mx_f0
  have hk_30 : Kd S_2 x_f0 2 := hf_4.kd mx_f0 kx_f0
  have hm_31 : x_q ∈ hL S_2 := hf_4.mem mx_q
  have hk_32 : Kd S_2 x_q 14 := hf_4.kd mx_q kx_q
  have hn_33 : Ln S_2 x_q 16 := hf_4.ln mx_q lx_q
  have hm_34 : x_q2 ∈ hL S_2 := hf_4.mem mx_q2
  have hk_35 : Kd S_2 x_q2 14 := hf_4.kd mx_q2 kx_q2
  have hn_36 : Ln S_2 x_q2 16 := hf_4.ln mx_q2 lx_q2
  have hm_37 : x_q3 ∈ hL S_2 := hf_4.mem mx_q3
  have hk_38 : Kd S_2 x_q3 14 := hf_4.kd mx_q3 kx_q3
  have hn_39 : Ln S_2 x_q3 16 := hf_4.ln mx_q3 lx_q3
  have hm_40 : x_s ∈ hL S_2 := hf_4.mem mx_s
  have hk_41 : Kd S_2 x_s 8 := hf_4.kd mx_s kx_s
  have hm_42 : x_s2 ∈ hL S_2 := hf_4.mem mx_s2
  have hk_43 : Kd S_2 x_s2 8 := hf_4.kd mx_s2 kx_s2
  have hm_44 : x_s3 ∈ hL S_2 := hf_4.mem mx_s3
  have hk_45 : Kd S_2 x_s3 8 := hf_4.kd mx_s3 kx_s3
  have hm_46 : x_w ∈ hL S_2 := hf_4.mem mx_w
  have hk_47 : Kd S_2 x_w 9 := hf_4.kd mx_w kx_w
  have hm_48 : x_z ∈ hL S_2 := hf_4.mem mx_z
  have hk_49 : Kd S_2 x_z 14 := hf_4.kd mx_z kx_z
  have hn_50 : Ln S_2 x_z 16 := hf_4.ln mx_z lx_z
  have hv_51 : hI S_2 1209 m = 0 := hf_4.fi mm (fun h9 => h9) i3
  have hv_52 : hI S_2 1232 m = 0 := hf_4.fi mm (fun h9 => h9) i4
  have hv_53 : hI S_2 1236 m = 0 := hf_4.fi mm (fun h9 => h9) i5
  have hv_54 : hI S_2 206 x_f0 = 0 := hf_4.fi mx_f0 (fun h9 => h9) i0
  have hv_55 : hI S_2 3 x_c0 = 0 := hf_4.fi mx_c0 (fun h9 => h9) i2
  have hv_56 : hI S_2 916 x_w = 0 := hf_4.fi mx_w (fun h9 => h9) i1
  have hv_57 : hR S_2 1107 h = (some x_w) := hf_4.fr hm (fun h9 => h9) rx_w
  have hv_58 : hR S_2 1202 m = (some m_ft) := hf_4.fr mm (fun h9 => h9) rm_ft
  have hv_59 : hR S_2 1210 m = (some m_v1) := hf_4.fr mm (fun h9 => h9) rm_v1
  have hv_60 : hR S_2 1215 m = (some m_v2) := hf_4.fr mm (fun h9 => h9) rm_v2
  have hv_61 : hR S_2 1217 m = (some m_mz) := hf_4.fr mm (fun h9 => h9) rm_mz
  have hv_62 : hR S_2 200 x_f0 = (some x_s) := hf_4.fr mx_f0 (fun h9 => h9) rx_s
  have hv_63 : hR S_2 800 x_s = (some x_q) := hf_4.fr mx_s (fun h9 => h9) rx_q
  have hv_64 : hR S_2 800 x_s2 = (some x_q2) := hf_4.fr mx_s2 (fun h9 => h9) rx_q2
  have hv_65 : hR S_2 800 x_s3 = (some x_q3) := hf_4.fr mx_s3 (fun h9 => h9) rx_q3
  have hv_66 : hR S_2 901 x_w = (some x_c0) := hf_4.fr mx_w (fun h9 => h9) rx_c0
  have hv_67 : hR S_2 902 x_w = (some x_f0) := hf_4.fr mx_w (fun h9 => h9) rx_f0
  have hv_68 : hR S_2 903 x_w = (some x_s2) := hf_4.fr mx_w (fun h9 => h9) rx_s2
  have hv_69 : hR S_2 906 x_w = (some x_s3) := hf_4.fr mx_w (fun h9 => h9) rx_s3
  have hv_70 : hR S_2 908 x_w = (some x_z) := hf_4.fr mx_w (fun h9 => h9) rx_z
  refine j_aload_n C dL_law_517 rfl 1 rfl ?_
  show J _ _ _ _ _ 518 _
  refine j_aload_n C dL_law_518 rfl 3 rfl ?_
  refine j_iload_n C dL_law_519 rfl 0 rfl ?_
  refine j_iconst (v := 1) C dL_law_520 (by decide) ?_
  refine j_iadd (v := 1) C dL_law_521 (by decide) ?_
  refine j_sld (j := 1) C X dL_law_522 (by rw [hL6]; exact vp_lit (by decide)) (by decide) ?_
  refine j_callV (ci := 12) C [.int (xs 1)] [.int (an_held (xs 1))] mlL_85 mcX12_held (c_X12_held S_2 m hm_13 hk_14 m_ft hv_58 hm_15 hk_16 hn_17 hy_10 m_v1 hv_59 hm_21 hk_22 hn_23 hz_5 m_v2 hv_60 hm_24 hk_25 hn_26 hz_6 m_mz hv_61 hm_18 hk_19 hn_20 hv_51 hv_52 hv_53 (xs 1)) hm_13 hk_14 rfl (M.rm (by decide) (by decide) (by omega) (by omega)) rfl rfl (Nat.le_of_ble_eq_true rfl) dL_law_523 (fun r_71 S_72 hp_73 => ?_)
  obtain ⟨rfl, hf_74⟩ := hp_73
  refine J.eq (st' := [.int (an_held (xs 1)), .int (an_held (xs 1))]) rfl rfl rfl ?_
  have hz_75 : ∀ j, aI S_72 m_v1 j = 0 := fun j9 => (hf_74.ai hm_21 (fun h9 => h9) j9).trans (hz_5 j9)
  have hz_76 : ∀ j, aI S_72 m_v2 j = 0 := fun j9 => (hf_74.ai hm_24 (fun h9 => h9) j9).trans (hz_6 j9)
  have hz_77 : ∀ j, aI S_72 x_q j = 0 := fun j9 => (hf_74.ai hm_31 (fun h9 => h9) j9).trans (hz_7 j9)
  have hz_78 : ∀ j, aI S_72 x_q2 j = 0 := fun j9 => (hf_74.ai hm_34 (fun h9 => h9) j9).trans (hz_8 j9)
  have hz_79 : ∀ j, aI S_72 x_q3 j = 0 := fun j9 => (hf_74.ai hm_37 (fun h9 => h9) j9).trans (hz_9 j9)
  have hy_80 : ∀ j, j < 16 → aI S_72 m_ft j = 0 := fun j9 h9 => (hf_74.ai hm_15 (fun h9 => h9) j9).trans (hy_10 j9 h9)
  have hm_81 : h ∈ hL S_72 := hf_74.mem hm_11
  have hk_82 : Kd S_72 h 11 := hf_74.kd hm_11 hk_12
  have hm_83 : m ∈ hL S_72 := hf_74.mem hm_13
  have hk_84 : Kd S_72 m 12 := hf_74.kd hm_13 hk_14
  have hm_85 : m_ft ∈ hL S_72 := hf_74.mem hm_15
  have hk_86 : Kd S_72 m_ft 17 := hf_74.kd hm_15 hk_16
  have hn_87 : Ln S_72 m_ft 17 := hf_74.ln hm_15 hn_17
  have hm_88 : m_mz ∈ hL S_72 := hf_74.mem hm_18
  have hk_89 : Kd S_72 m_mz 14 := hf_74.kd hm_18 hk_19
  have hn_90 : Ln S_72 m_mz 16 := hf_74.ln hm_18 hn_20
  have hm_91 : m_v1 ∈ hL S_72 := hf_74.mem hm_21
  have hk_92 : Kd S_72 m_v1 17 := hf_74.kd hm_21 hk_22
  have hn_93 : Ln S_72 m_v1 16 := hf_74.ln hm_21 hn_23
  have hm_94 : m_v2 ∈ hL S_72 := hf_74.mem hm_24
  have hk_95 : Kd S_72 m_v2 17 := hf_74.kd hm_24 hk_25
  have hn_96 : Ln S_72 m_v2 16 := hf_74.ln hm_24 hn_26
  have hm_97 : x_c0 ∈ hL S_72 := hf_74.mem hm_27
  have hk_98 : Kd S_72 x_c0 0 := hf_74.kd hm_27 hk_28
  have hm_99 : x_f0 ∈ hL S_72 := hf_74.mem hm_29
  have hk_100 : Kd S_72 x_f0 2 := hf_74.kd hm_29 hk_30
  have hm_101 : x_q ∈ hL S_72 := hf_74.mem hm_31
  have hk_102 : Kd S_72 x_q 14 := hf_74.kd hm_31 hk_32
  have hn_103 : Ln S_72 x_q 16 := hf_74.ln hm_31 hn_33
  have hm_104 : x_q2 ∈ hL S_72 := hf_74.mem hm_34
  have hk_105 : Kd S_72 x_q2 14 := hf_74.kd hm_34 hk_35
  have hn_106 : Ln S_72 x_q2 16 := hf_74.ln hm_34 hn_36
  have hm_107 : x_q3 ∈ hL S_72 := hf_74.mem hm_37
  have hk_108 : Kd S_72 x_q3 14 := hf_74.kd hm_37 hk_38
  have hn_109 : Ln S_72 x_q3 16 := hf_74.ln hm_37 hn_39
  have hm_110 : x_s ∈ hL S_72 := hf_74.mem hm_40
  have hk_111 : Kd S_72 x_s 8 := hf_74.kd hm_40 hk_41
  have hm_112 : x_s2 ∈ hL S_72 := hf_74.mem hm_42
  have hk_113 : Kd S_72 x_s2 8 := hf_74.kd hm_42 hk_43
  have hm_114 : x_s3 ∈ hL S_72 := hf_74.mem hm_44
  have hk_115 : Kd S_72 x_s3 8 := hf_74.kd hm_44 hk_45
  have hm_116 : x_w ∈ hL S_72 := hf_74.mem hm_46
  have hk_117 : Kd S_72 x_w 9 := hf_74.kd hm_46 hk_47
  have hm_118 : x_z ∈ hL S_72 := hf_74.mem hm_48
  have hk_119 : Kd S_72 x_z 14 := hf_74.kd hm_48 hk_49
  have hn_120 : Ln S_72 x_z 16 := hf_74.ln hm_48 hn_50
  have hv_121 : hI S_72 1209 m = 0 := hf_74.fi hm_13 (fun h9 => h9) hv_51
  have hv_122 : hI S_72 1232 m = 0 := hf_74.fi hm_13 (fun h9 => h9) hv_52
  have hv_123 : hI S_72 1236 m = 0 := hf_74.fi hm_13 (fun h9 => h9) hv_53
  have hv_124 : hI S_72 206 x_f0 = 0 := hf_74.fi hm_29 (fun h9 => h9) hv_54
  have hv_125 : hI S_72 3 x_c0 = 0 := hf_74.fi hm_27 (fun h9 => h9) hv_55
  have hv_126 : hI S_72 916 x_w = 0 := hf_74.fi hm_46 (fun h9 => h9) hv_56
  have hv_127 : hR S_72 1107 h = (some x_w) := hf_74.fr hm_11 (fun h9 => h9) hv_57
  have hv_128 : hR S_72 1202 m = (some m_ft) := hf_74.fr hm_13 (fun h9 => h9) hv_58
  have hv_129 : hR S_72 1210 m = (some m_v1) := hf_74.fr hm_13 (fun h9 => h9) hv_59
  have hv_130 : hR S_72 1215 m = (some m_v2) := hf_74.fr hm_13 (fun h9 => h9) hv_60
  have hv_131 : hR S_72 1217 m = (some m_mz) := hf_74.fr hm_13 (fun h9 => h9) hv_61
  have hv_132 : hR S_72 200 x_f0 = (some x_s) := hf_74.fr hm_29 (fun h9 => h9) hv_62
  have hv_133 : hR S_72 800 x_s = (some x_q) := hf_74.fr hm_40 (fun h9 => h9) hv_63
  have hv_134 : hR S_72 800 x_s2 = (some x_q2) := hf_74.fr hm_42 (fun h9 => h9) hv_64
  have hv_135 : hR S_72 800 x_s3 = (some x_q3) := hf_74.fr hm_44 (fun h9 => h9) hv_65
  have hv_136 : hR S_72 901 x_w = (some x_c0) := hf_74.fr hm_46 (fun h9 => h9) hv_66
  have hv_137 : hR S_72 902 x_w = (some x_f0) := hf_74.fr hm_46 (fun h9 => h9) hv_67
  have hv_138 : hR S_72 903 x_w = (some x_s2) := hf_74.fr hm_46 (fun h9 => h9) hv_68
  have hv_139 : hR S_72 906 x_w = (some x_s3) := hf_74.fr hm_46 (fun h9 => h9) hv_69
  have hv_140 : hR S_72 908 x_w = (some x_z) := hf_74.fr hm_46 (fun h9 => h9) hv_70
  refine j_ic_eq (tgt := 544) C dL_law_526 (by decide) (fun c_526 => ?_) (fun c_526 => absurd rfl c_526)
  exact law_tail C M X hn9 _ h m _ _ (by omega) (by omega) hL6

set_option maxRecDepth 100000 in
set_option maxHeartbeats 4000000 in
theorem law_17 {x : JX} {b L : Nat} {xs : Nat → Int32} (C : CB x RL cL_law) (M : LM x b) (X : LX x b L xs) (hn9 : x_n x = 4) (S : Hp) (h m k n : Nat) (hkq : k ≤ 600000) (hnq : n ≤ 7302250) (hL6 : L = 6) (hm : h ∈ hL S) (hk : hK S h = 11) (mm : m ∈ hL S) (mk : hK S m = 12) (x_w : Nat) (rx_w : hR S 1107 h = some x_w) (mx_w : x_w ∈ hL S) (kx_w : Kd S x_w 9) (x_f0 : Nat) (rx_f0 : hR S 902 x_w = some x_f0) (mx_f0 : x_f0 ∈ hL S) (kx_f0 : Kd S x_f0 2) (x_s : Nat) (rx_s : hR S 200 x_f0 = some x_s) (mx_s : x_s ∈ hL S) (kx_s : Kd S x_s 8) (x_q : Nat) (rx_q : hR S 800 x_s = some x_q) (mx_q : x_q ∈ hL S) (kx_q : Kd S x_q 14) (lx_q : Ln S x_q 16) (zx_q : ∀ j, aI S x_q j = 0) (x_s2 : Nat) (rx_s2 : hR S 903 x_w = some x_s2) (mx_s2 : x_s2 ∈ hL S) (kx_s2 : Kd S x_s2 8) (x_q2 : Nat) (rx_q2 : hR S 800 x_s2 = some x_q2) (mx_q2 : x_q2 ∈ hL S) (kx_q2 : Kd S x_q2 14) (lx_q2 : Ln S x_q2 16) (zx_q2 : ∀ j, aI S x_q2 j = 0) (x_s3 : Nat) (rx_s3 : hR S 906 x_w = some x_s3) (mx_s3 : x_s3 ∈ hL S) (kx_s3 : Kd S x_s3 8) (x_q3 : Nat) (rx_q3 : hR S 800 x_s3 = some x_q3) (mx_q3 : x_q3 ∈ hL S) (kx_q3 : Kd S x_q3 14) (lx_q3 : Ln S x_q3 16) (zx_q3 : ∀ j, aI S x_q3 j = 0) (m_ft : Nat) (rm_ft : hR S 1202 m = some m_ft) (mm_ft : m_ft ∈ hL S) (km_ft : Kd S m_ft 17) (lm_ft : Ln S m_ft 17) (zm_ft : ∀ j, j < 16 → aI S m_ft j = 0) (m_v1 : Nat) (rm_v1 : hR S 1210 m = some m_v1) (mm_v1 : m_v1 ∈ hL S) (km_v1 : Kd S m_v1 17) (lm_v1 : Ln S m_v1 16) (zm_v1 : ∀ j, aI S m_v1 j = 0) (m_v2 : Nat) (rm_v2 : hR S 1215 m = some m_v2) (mm_v2 : m_v2 ∈ hL S) (km_v2 : Kd S m_v2 17) (lm_v2 : Ln S m_v2 16) (zm_v2 : ∀ j, aI S m_v2 j = 0) (m_mz : Nat) (rm_mz : hR S 1217 m = some m_mz) (mm_mz : m_mz ∈ hL S) (km_mz : Kd S m_mz 14) (lm_mz : Ln S m_mz 16) (i0 : hI S 1209 m = 0) (i1 : hI S 1232 m = 0) (i2 : hI S 1236 m = 0) : J x k n S [(3, .int 0), (2, .ref m), (1, .ref h), (0, .ref b)] 531 [] := by
  refine j_aload_n C dL_law_531 rfl 2 rfl ?_
  refine j_callV (ci := 11) C [] [] mlL_86 mcX11_off (c_X11_off S h hm hk x_w rx_w mx_w kx_w x_f0 rx_f0 mx_f0 kx_f0 x_s rx_s mx_s kx_s x_q rx_q mx_q kx_q lx_q zx_q x_s2 rx_s2 mx_s2 kx_s2 x_q2 rx_q2 mx_q2 kx_q2 lx_q2 zx_q2 x_s3 rx_s3 mx_s3 kx_s3 x_q3 rx_q3 mx_q3 kx_q3 lx_q3 zx_q3) hm hk rfl (M.rm (by decide) (by decide) (by omega) (by omega)) rfl rfl (Nat.le_of_ble_eq_true rfl) dL_law_532 (fun r_1 S_2 hp_3 => ?_)
  obtain ⟨rfl, hf_4⟩ := hp_3
  refine J.eq (st' := [.int 0]) rfl rfl rfl ?_
  have hz_5 : ∀ j, aI S_2 m_v1 j = 0 := fun j9 => (hf_4.ai mm_v1 (fun h9 => h9.elim (fun q9 => (fun e9 => absurd ((km_v1).symm.trans ((congrArg (hK _) e9).trans kx_q2)) (by decide)) q9) (fun q9 => (fun e9 => absurd ((km_v1).symm.trans ((congrArg (hK _) e9).trans kx_q3)) (by decide)) q9)) j9).trans (zm_v1 j9)
  have hz_6 : ∀ j, aI S_2 m_v2 j = 0 := fun j9 => (hf_4.ai mm_v2 (fun h9 => h9.elim (fun q9 => (fun e9 => absurd ((km_v2).symm.trans ((congrArg (hK _) e9).trans kx_q2)) (by decide)) q9) (fun q9 => (fun e9 => absurd ((km_v2).symm.trans ((congrArg (hK _) e9).trans kx_q3)) (by decide)) q9)) j9).trans (zm_v2 j9)
  have hy_7 : ∀ j, j < 16 → aI S_2 m_ft j = 0 := fun j9 h9 => (hf_4.ai mm_ft (fun h9 => h9.elim (fun q9 => (fun e9 => absurd ((km_ft).symm.trans ((congrArg (hK _) e9).trans kx_q2)) (by decide)) q9) (fun q9 => (fun e9 => absurd ((km_ft).symm.trans ((congrArg (hK _) e9).trans kx_q3)) (by decide)) q9)) j9).trans (zm_ft j9 h9)
  have hm_8 : h ∈ hL S_2 := hf_4.mem hm
  have hk_9 : Kd S_2 h 11 := hf_4.kd hm hk
  have hm_10 : m ∈ hL S_2 := hf_4.mem mm
  have hk_11 : Kd S_2 m 12 := hf_4.kd mm mk
  have hm_12 : m_ft ∈ hL S_2 := hf_4.mem mm_ft
  have hk_13 : Kd S_2 m_ft 17 := hf_4.kd mm_ft km_ft
  have hn_14 : Ln S_2 m_ft 17 := hf_4.ln mm_ft lm_ft
  have hm_15 : m_mz ∈ hL S_2 := hf_4.mem mm_mz
  have hk_16 : Kd S_2 m_mz 14 := hf_4.kd mm_mz km_mz
  have hn_17 : Ln S_2 m_mz 16 := hf_4.ln mm_mz lm_mz
  have hm_18 : m_v1 ∈ hL S_2 := hf_4.mem mm_v1
  have hk_19 : Kd S_2 m_v1 17 := hf_4.kd mm_v1 km_v1
  have hn_20 : Ln S_2 m_v1 16 := hf_4.ln mm_v1 lm_v1
  have hm_21 : m_v2 ∈ hL S_2 := hf_4.mem mm_v2
  have hk_22 : Kd S_2 m_v2 17 := hf_4.kd mm_v2 km_v2
  have hn_23 : Ln S_2 m_v2 16 := hf_4.ln mm_v2 lm_v2
  have hm_24 : x_f0 ∈ hL S_2 := hf_4.mem mx_f0
  have hk_25 : Kd S_2 x_f0 2 := hf_4.kd mx_f0 kx_f0
  have hm_26 : x_q ∈ hL S_2 := hf_4.mem mx_q
  have hk_27 : Kd S_2 x_q 14 := hf_4.kd mx_q kx_q
  have hn_28 : Ln S_2 x_q 16 := hf_4.ln mx_q lx_q
  have hm_29 : x_q2 ∈ hL S_2 := hf_4.mem mx_q2
  have hk_30 : Kd S_2 x_q2 14 := hf_4.kd mx_q2 kx_q2
  have hn_31 : Ln S_2 x_q2 16 := hf_4.ln mx_q2 lx_q2
  have hm_32 : x_q3 ∈ hL S_2 := hf_4.mem mx_q3
  have hk_33 : Kd S_2 x_q3 14 := hf_4.kd mx_q3 kx_q3
  have hn_34 : Ln S_2 x_q3 16 := hf_4.ln mx_q3 lx_q3
  have hm_35 : x_s ∈ hL S_2 := hf_4.mem mx_s
  have hk_36 : Kd S_2 x_s 8 := hf_4.kd mx_s kx_s
  have hm_37 : x_s2 ∈ hL S_2 := hf_4.mem mx_s2
  have hk_38 : Kd S_2 x_s2 8 := hf_4.kd mx_s2 kx_s2
  have hm_39 : x_s3 ∈ hL S_2 := hf_4.mem mx_s3
  have hk_40 : Kd S_2 x_s3 8 := hf_4.kd mx_s3 kx_s3
  have hm_41 : x_w ∈ hL S_2 := hf_4.mem mx_w
  have hk_42 : Kd S_2 x_w 9 := hf_4.kd mx_w kx_w
  have hv_43 : hI S_2 1209 m = 0 := hf_4.fi mm (fun q9 => absurd q9.1 (by decide)) i0
  have hv_44 : hI S_2 1232 m = 0 := hf_4.fi mm (fun q9 => absurd q9.1 (by decide)) i1
  have hv_45 : hI S_2 1236 m = 0 := hf_4.fi mm (fun q9 => absurd q9.1 (by decide)) i2
  have hv_46 : hR S_2 1107 h = (some x_w) := hf_4.fr hm (fun h9 => h9) rx_w
  have hv_47 : hR S_2 1202 m = (some m_ft) := hf_4.fr mm (fun h9 => h9) rm_ft
  have hv_48 : hR S_2 1210 m = (some m_v1) := hf_4.fr mm (fun h9 => h9) rm_v1
  have hv_49 : hR S_2 1215 m = (some m_v2) := hf_4.fr mm (fun h9 => h9) rm_v2
  have hv_50 : hR S_2 1217 m = (some m_mz) := hf_4.fr mm (fun h9 => h9) rm_mz
  have hv_51 : hR S_2 200 x_f0 = (some x_s) := hf_4.fr mx_f0 (fun h9 => h9) rx_s
  have hv_52 : hR S_2 800 x_s = (some x_q) := hf_4.fr mx_s (fun h9 => h9) rx_q
  have hv_53 : hR S_2 800 x_s2 = (some x_q2) := hf_4.fr mx_s2 (fun h9 => h9) rx_q2
  have hv_54 : hR S_2 800 x_s3 = (some x_q3) := hf_4.fr mx_s3 (fun h9 => h9) rx_q3
  have hv_55 : hR S_2 902 x_w = (some x_f0) := hf_4.fr mx_w (fun h9 => h9) rx_f0
  have hv_56 : hR S_2 903 x_w = (some x_s2) := hf_4.fr mx_w (fun h9 => h9) rx_s2
  have hv_57 : hR S_2 906 x_w = (some x_s3) := hf_4.fr mx_w (fun h9 => h9) rx_s3
  refine j_aload_n C dL_law_535 rfl 1 rfl ?_
  refine j_callV (ci := 12) C [] [.int 0] mlL_89 mcX12_off (c_X12_off S_2 m hm_10 hk_11 m_ft hv_47 hm_12 hk_13 hn_14 hy_7 m_v1 hv_48 hm_18 hk_19 hn_20 hz_5 m_v2 hv_49 hm_21 hk_22 hn_23 hz_6 m_mz hv_50 hm_15 hk_16 hn_17 hv_43 hv_44 hv_45) hm_10 hk_11 rfl (M.rm (by decide) (by decide) (by omega) (by omega)) rfl rfl (Nat.le_of_ble_eq_true rfl) dL_law_536 (fun r_58 S_59 hp_60 => ?_)
  obtain ⟨rfl, hf_61⟩ := hp_60
  refine J.eq (st' := [.int 0, .int 0]) rfl rfl rfl ?_
  have hm_62 : h ∈ hL S_59 := hf_61.mem hm_8
  have hk_63 : Kd S_59 h 11 := hf_61.kd hm_8 hk_9
  have hm_64 : m ∈ hL S_59 := hf_61.mem hm_10
  have hk_65 : Kd S_59 m 12 := hf_61.kd hm_10 hk_11
  have hm_66 : m_ft ∈ hL S_59 := hf_61.mem hm_12
  have hk_67 : Kd S_59 m_ft 17 := hf_61.kd hm_12 hk_13
  have hn_68 : Ln S_59 m_ft 17 := hf_61.ln hm_12 hn_14
  have hm_69 : m_mz ∈ hL S_59 := hf_61.mem hm_15
  have hk_70 : Kd S_59 m_mz 14 := hf_61.kd hm_15 hk_16
  have hn_71 : Ln S_59 m_mz 16 := hf_61.ln hm_15 hn_17
  have hm_72 : m_v1 ∈ hL S_59 := hf_61.mem hm_18
  have hk_73 : Kd S_59 m_v1 17 := hf_61.kd hm_18 hk_19
  have hn_74 : Ln S_59 m_v1 16 := hf_61.ln hm_18 hn_20
  have hm_75 : m_v2 ∈ hL S_59 := hf_61.mem hm_21
  have hk_76 : Kd S_59 m_v2 17 := hf_61.kd hm_21 hk_22
  have hn_77 : Ln S_59 m_v2 16 := hf_61.ln hm_21 hn_23
  have hm_78 : x_f0 ∈ hL S_59 := hf_61.mem hm_24
  have hk_79 : Kd S_59 x_f0 2 := hf_61.kd hm_24 hk_25
  have hm_80 : x_q ∈ hL S_59 := hf_61.mem hm_26
  have hk_81 : Kd S_59 x_q 14 := hf_61.kd hm_26 hk_27
  have hn_82 : Ln S_59 x_q 16 := hf_61.ln hm_26 hn_28
  have hm_83 : x_q2 ∈ hL S_59 := hf_61.mem hm_29
  have hk_84 : Kd S_59 x_q2 14 := hf_61.kd hm_29 hk_30
  have hn_85 : Ln S_59 x_q2 16 := hf_61.ln hm_29 hn_31
  have hm_86 : x_q3 ∈ hL S_59 := hf_61.mem hm_32
  have hk_87 : Kd S_59 x_q3 14 := hf_61.kd hm_32 hk_33
  have hn_88 : Ln S_59 x_q3 16 := hf_61.ln hm_32 hn_34
  have hm_89 : x_s ∈ hL S_59 := hf_61.mem hm_35
  have hk_90 : Kd S_59 x_s 8 := hf_61.kd hm_35 hk_36
  have hm_91 : x_s2 ∈ hL S_59 := hf_61.mem hm_37
  have hk_92 : Kd S_59 x_s2 8 := hf_61.kd hm_37 hk_38
  have hm_93 : x_s3 ∈ hL S_59 := hf_61.mem hm_39
  have hk_94 : Kd S_59 x_s3 8 := hf_61.kd hm_39 hk_40
  have hm_95 : x_w ∈ hL S_59 := hf_61.mem hm_41
  have hk_96 : Kd S_59 x_w 9 := hf_61.kd hm_41 hk_42
  have hv_97 : hI S_59 1209 m = 0 := hf_61.fi hm_10 (fun h9 => h9) hv_43
  have hv_98 : hI S_59 1232 m = 0 := hf_61.fi hm_10 (fun h9 => h9) hv_44
  have hv_99 : hI S_59 1236 m = 0 := hf_61.fi hm_10 (fun h9 => h9) hv_45
  have hv_100 : hR S_59 1107 h = (some x_w) := hf_61.fr hm_8 (fun h9 => h9) hv_46
  have hv_101 : hR S_59 1202 m = (some m_ft) := hf_61.fr hm_10 (fun h9 => h9) hv_47
  have hv_102 : hR S_59 1210 m = (some m_v1) := hf_61.fr hm_10 (fun h9 => h9) hv_48
  have hv_103 : hR S_59 1215 m = (some m_v2) := hf_61.fr hm_10 (fun h9 => h9) hv_49
  have hv_104 : hR S_59 1217 m = (some m_mz) := hf_61.fr hm_10 (fun h9 => h9) hv_50
  have hv_105 : hR S_59 200 x_f0 = (some x_s) := hf_61.fr hm_24 (fun h9 => h9) hv_51
  have hv_106 : hR S_59 800 x_s = (some x_q) := hf_61.fr hm_35 (fun h9 => h9) hv_52
  have hv_107 : hR S_59 800 x_s2 = (some x_q2) := hf_61.fr hm_37 (fun h9 => h9) hv_53
  have hv_108 : hR S_59 800 x_s3 = (some x_q3) := hf_61.fr hm_39 (fun h9 => h9) hv_54
  have hv_109 : hR S_59 902 x_w = (some x_f0) := hf_61.fr hm_41 (fun h9 => h9) hv_55
  have hv_110 : hR S_59 903 x_w = (some x_s2) := hf_61.fr hm_41 (fun h9 => h9) hv_56
  have hv_111 : hR S_59 906 x_w = (some x_s3) := hf_61.fr hm_41 (fun h9 => h9) hv_57
  refine j_ic_eq (tgt := 544) C dL_law_539 (by decide) (fun c9 => ?_) (fun c9 => absurd (by decide) c9)
  exact law_tail C M X hn9 _ h m _ _ (by omega) (by omega) hL6
