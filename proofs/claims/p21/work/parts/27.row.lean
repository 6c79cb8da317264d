theorem near_eq {a b j : Nat} (h : a + 3 = b + j) (ha : a < 1000) (hb : b < 1000) (hj : j < 1000) : nI a - nI b + 3 = nI j := Int32.toBitVec_inj.1 (by
  show BitVec.ofNat 32 a - BitVec.ofNat 32 b + 3#32 = BitVec.ofNat 32 j
  apply BitVec.eq_of_toNat_eq
  simp
  omega)
theorem near_lo {a b : Nat} (h : a + 3 < b) (ha : a < 1000) (hb : b < 1000) : nI a - nI b + 3 < 0 := by
  have e : nI a - nI b + 3 = nI (a + 3) - nI b := Int32.toBitVec_inj.1 (by
    show BitVec.ofNat 32 a - BitVec.ofNat 32 b + 3#32 = BitVec.ofNat 32 (a + 3) - BitVec.ofNat 32 b
    apply BitVec.eq_of_toNat_eq
    simp
    omega)
  rw [e]
  exact pk_sneg (by omega) h
/-- the sheaf's state while a page is written: tb bits so far -/
def SF (ad : Nat → Nat) (S0 S : Hp) (D : Nat → Int32) (tb : Nat) : Prop := Wd ad S ∧ Fm (fun f9 b9 => (f9 = 601 ∧ b9 = (ad 5)) ∨ (f9 = 608 ∧ b9 = (ad 5)) ∨ (f9 = 609 ∧ b9 = (ad 5))) (fun _ _ => False) (fun b9 => b9 = (ad 7)) S0 S ∧ hI S 601 (ad 5) = nI (tb / 8) ∧ hI S 609 (ad 5) = nI (tb % 8) ∧ aI S (ad 11) = D

theorem dX6_writeRow_0 : decode cX6_writeRow 0 = .ok (.iload_n 2, 1) := by decide +kernel
theorem dX6_writeRow_1 : decode cX6_writeRow 1 = .ok (.bipush 20, 2) := by decide +kernel
theorem dX6_writeRow_3 : decode cX6_writeRow 3 = .ok (.imul, 1) := by decide +kernel
theorem dX6_writeRow_4 : decode cX6_writeRow 4 = .ok (.istore 4, 2) := by decide +kernel
theorem dX6_writeRow_6 : decode cX6_writeRow 6 = .ok (.iload_n 2, 1) := by decide +kernel
theorem dX6_writeRow_7 : decode cX6_writeRow 7 = .ok (.ifCond .ne 7, 3) := by decide +kernel
theorem dX6_writeRow_10 : decode cX6_writeRow 10 = .ok (.iconst (-1), 1) := by decide +kernel
theorem dX6_writeRow_11 : decode cX6_writeRow 11 = .ok (.goto 8, 3) := by decide +kernel
theorem dX6_writeRow_14 : decode cX6_writeRow 14 = .ok (.iload 4, 2) := by decide +kernel
theorem dX6_writeRow_16 : decode cX6_writeRow 16 = .ok (.bipush 20, 2) := by decide +kernel
theorem dX6_writeRow_18 : decode cX6_writeRow 18 = .ok (.isub, 1) := by decide +kernel
theorem dX6_writeRow_19 : decode cX6_writeRow 19 = .ok (.istore 5, 2) := by decide +kernel
theorem dX6_writeRow_21 : decode cX6_writeRow 21 = .ok (.iconst (-1), 1) := by decide +kernel
theorem dX6_writeRow_22 : decode cX6_writeRow 22 = .ok (.istore 6, 2) := by decide +kernel
theorem dX6_writeRow_24 : decode cX6_writeRow 24 = .ok (.iconst 0, 1) := by decide +kernel
theorem dX6_writeRow_25 : decode cX6_writeRow 25 = .ok (.istore 7, 2) := by decide +kernel
theorem dX6_writeRow_27 : decode cX6_writeRow 27 = .ok (.iconst 0, 1) := by decide +kernel
theorem dX6_writeRow_28 : decode cX6_writeRow 28 = .ok (.istore 8, 2) := by decide +kernel
theorem dX6_writeRow_30 : decode cX6_writeRow 30 = .ok (.iload 8, 2) := by decide +kernel
theorem dX6_writeRow_32 : decode cX6_writeRow 32 = .ok (.iload_n 3, 1) := by decide +kernel
theorem dX6_writeRow_33 : decode cX6_writeRow 33 = .ok (.if_icmp .gt 194, 3) := by decide +kernel
theorem dX6_writeRow_36 : decode cX6_writeRow 36 = .ok (.iload 6, 2) := by decide +kernel
theorem dX6_writeRow_38 : decode cX6_writeRow 38 = .ok (.iload_n 3, 1) := by decide +kernel
theorem dX6_writeRow_39 : decode cX6_writeRow 39 = .ok (.if_icmp .ge 188, 3) := by decide +kernel
theorem dX6_writeRow_42 : decode cX6_writeRow 42 = .ok (.iload 6, 2) := by decide +kernel
theorem dX6_writeRow_44 : decode cX6_writeRow 44 = .ok (.iconst 0, 1) := by decide +kernel
theorem dX6_writeRow_45 : decode cX6_writeRow 45 = .ok (.invokestatic 55, 3) := by decide +kernel
theorem dX6_writeRow_48 : decode cX6_writeRow 48 = .ok (.istore 9, 2) := by decide +kernel
theorem dX6_writeRow_50 : decode cX6_writeRow 50 = .ok (.aload_n 1, 1) := by decide +kernel
theorem dX6_writeRow_51 : decode cX6_writeRow 51 = .ok (.iload 4, 2) := by decide +kernel
theorem dX6_writeRow_53 : decode cX6_writeRow 53 = .ok (.iload 9, 2) := by decide +kernel
theorem dX6_writeRow_55 : decode cX6_writeRow 55 = .ok (.iload_n 3, 1) := by decide +kernel
theorem dX6_writeRow_56 : decode cX6_writeRow 56 = .ok (.iload 7, 2) := by decide +kernel
theorem dX6_writeRow_58 : decode cX6_writeRow 58 = .ok (.invokestatic 104, 3) := by decide +kernel
theorem dX6_writeRow_61 : decode cX6_writeRow 61 = .ok (.istore 10, 2) := by decide +kernel
theorem dX6_writeRow_63 : decode cX6_writeRow 63 = .ok (.aload_n 1, 1) := by decide +kernel
theorem dX6_writeRow_64 : decode cX6_writeRow 64 = .ok (.iload 5, 2) := by decide +kernel
theorem dX6_writeRow_66 : decode cX6_writeRow 66 = .ok (.iload 6, 2) := by decide +kernel
theorem dX6_writeRow_68 : decode cX6_writeRow 68 = .ok (.iload_n 3, 1) := by decide +kernel
theorem dX6_writeRow_69 : decode cX6_writeRow 69 = .ok (.iload 7, 2) := by decide +kernel
theorem dX6_writeRow_71 : decode cX6_writeRow 71 = .ok (.invokestatic 108, 3) := by decide +kernel
theorem dX6_writeRow_74 : decode cX6_writeRow 74 = .ok (.istore 11, 2) := by decide +kernel
theorem dX6_writeRow_76 : decode cX6_writeRow 76 = .ok (.aload_n 1, 1) := by decide +kernel
theorem dX6_writeRow_77 : decode cX6_writeRow 77 = .ok (.iload 5, 2) := by decide +kernel
theorem dX6_writeRow_79 : decode cX6_writeRow 79 = .ok (.iload 11, 2) := by decide +kernel
theorem dX6_writeRow_81 : decode cX6_writeRow 81 = .ok (.iload_n 3, 1) := by decide +kernel
theorem dX6_writeRow_82 : decode cX6_writeRow 82 = .ok (.iconst 1, 1) := by decide +kernel
theorem dX6_writeRow_83 : decode cX6_writeRow 83 = .ok (.iload 7, 2) := by decide +kernel
theorem dX6_writeRow_85 : decode cX6_writeRow 85 = .ok (.isub, 1) := by decide +kernel
theorem dX6_writeRow_86 : decode cX6_writeRow 86 = .ok (.invokestatic 104, 3) := by decide +kernel
theorem dX6_writeRow_89 : decode cX6_writeRow 89 = .ok (.istore 12, 2) := by decide +kernel
theorem dX6_writeRow_91 : decode cX6_writeRow 91 = .ok (.iload 10, 2) := by decide +kernel
theorem dX6_writeRow_93 : decode cX6_writeRow 93 = .ok (.iload 11, 2) := by decide +kernel
theorem dX6_writeRow_95 : decode cX6_writeRow 95 = .ok (.isub, 1) := by decide +kernel
theorem dX6_writeRow_96 : decode cX6_writeRow 96 = .ok (.iconst 3, 1) := by decide +kernel
theorem dX6_writeRow_97 : decode cX6_writeRow 97 = .ok (.iadd, 1) := by decide +kernel
theorem dX6_writeRow_98 : decode cX6_writeRow 98 = .ok (.istore 13, 2) := by decide +kernel
theorem dX6_writeRow_100 : decode cX6_writeRow 100 = .ok (.iload 12, 2) := by decide +kernel
theorem dX6_writeRow_102 : decode cX6_writeRow 102 = .ok (.iload 10, 2) := by decide +kernel
theorem dX6_writeRow_104 : decode cX6_writeRow 104 = .ok (.if_icmp .ge 16, 3) := by decide +kernel
theorem dX6_writeRow_107 : decode cX6_writeRow 107 = .ok (.aload_n 0, 1) := by decide +kernel
theorem dX6_writeRow_108 : decode cX6_writeRow 108 = .ok (.iconst 1, 1) := by decide +kernel
theorem dX6_writeRow_109 : decode cX6_writeRow 109 = .ok (.iconst 4, 1) := by decide +kernel
theorem dX6_writeRow_110 : decode cX6_writeRow 110 = .ok (.invokevirtual 80, 3) := by decide +kernel
theorem dX6_writeRow_113 : decode cX6_writeRow 113 = .ok (.iload 12, 2) := by decide +kernel
theorem dX6_writeRow_115 : decode cX6_writeRow 115 = .ok (.istore 6, 2) := by decide +kernel
theorem dX6_writeRow_117 : decode cX6_writeRow 117 = .ok (.goto 104, 3) := by decide +kernel
theorem dX6_writeRow_120 : decode cX6_writeRow 120 = .ok (.iload 13, 2) := by decide +kernel
theorem dX6_writeRow_122 : decode cX6_writeRow 122 = .ok (.ifCond .lt 50, 3) := by decide +kernel
theorem dX6_writeRow_125 : decode cX6_writeRow 125 = .ok (.iload 13, 2) := by decide +kernel
theorem dX6_writeRow_127 : decode cX6_writeRow 127 = .ok (.getstatic 111, 3) := by decide +kernel
theorem dX6_writeRow_130 : decode cX6_writeRow 130 = .ok (.arraylength, 1) := by decide +kernel
theorem dX6_writeRow_131 : decode cX6_writeRow 131 = .ok (.if_icmp .ge 41, 3) := by decide +kernel
theorem dX6_writeRow_134 : decode cX6_writeRow 134 = .ok (.iload 13, 2) := by decide +kernel
theorem dX6_writeRow_136 : decode cX6_writeRow 136 = .ok (.getstatic 114, 3) := by decide +kernel
theorem dX6_writeRow_139 : decode cX6_writeRow 139 = .ok (.arraylength, 1) := by decide +kernel
theorem dX6_writeRow_140 : decode cX6_writeRow 140 = .ok (.if_icmp .ge 32, 3) := by decide +kernel
theorem dX6_writeRow_143 : decode cX6_writeRow 143 = .ok (.aload_n 0, 1) := by decide +kernel
theorem dX6_writeRow_144 : decode cX6_writeRow 144 = .ok (.getstatic 111, 3) := by decide +kernel
theorem dX6_writeRow_147 : decode cX6_writeRow 147 = .ok (.iload 13, 2) := by decide +kernel
theorem dX6_writeRow_149 : decode cX6_writeRow 149 = .ok (.iaload, 1) := by decide +kernel
theorem dX6_writeRow_150 : decode cX6_writeRow 150 = .ok (.getstatic 114, 3) := by decide +kernel
theorem dX6_writeRow_153 : decode cX6_writeRow 153 = .ok (.iload 13, 2) := by decide +kernel
theorem dX6_writeRow_155 : decode cX6_writeRow 155 = .ok (.iaload, 1) := by decide +kernel
theorem dX6_writeRow_156 : decode cX6_writeRow 156 = .ok (.invokevirtual 80, 3) := by decide +kernel
theorem dX6_writeRow_159 : decode cX6_writeRow 159 = .ok (.iload 10, 2) := by decide +kernel
theorem dX6_writeRow_161 : decode cX6_writeRow 161 = .ok (.istore 6, 2) := by decide +kernel
theorem dX6_writeRow_163 : decode cX6_writeRow 163 = .ok (.iconst 1, 1) := by decide +kernel
theorem dX6_writeRow_164 : decode cX6_writeRow 164 = .ok (.iload 7, 2) := by decide +kernel
theorem dX6_writeRow_166 : decode cX6_writeRow 166 = .ok (.isub, 1) := by decide +kernel
theorem dX6_writeRow_167 : decode cX6_writeRow 167 = .ok (.istore 7, 2) := by decide +kernel
theorem dX6_writeRow_169 : decode cX6_writeRow 169 = .ok (.goto 52, 3) := by decide +kernel
theorem dX6_writeRow_172 : decode cX6_writeRow 172 = .ok (.aload_n 1, 1) := by decide +kernel
theorem dX6_writeRow_173 : decode cX6_writeRow 173 = .ok (.iload 4, 2) := by decide +kernel
theorem dX6_writeRow_175 : decode cX6_writeRow 175 = .ok (.iload 10, 2) := by decide +kernel
theorem dX6_writeRow_177 : decode cX6_writeRow 177 = .ok (.iload_n 3, 1) := by decide +kernel
theorem dX6_writeRow_178 : decode cX6_writeRow 178 = .ok (.iconst 1, 1) := by decide +kernel
theorem dX6_writeRow_179 : decode cX6_writeRow 179 = .ok (.iload 7, 2) := by decide +kernel
theorem dX6_writeRow_181 : decode cX6_writeRow 181 = .ok (.isub, 1) := by decide +kernel
theorem dX6_writeRow_182 : decode cX6_writeRow 182 = .ok (.invokestatic 104, 3) := by decide +kernel
theorem dX6_writeRow_185 : decode cX6_writeRow 185 = .ok (.istore 14, 2) := by decide +kernel
theorem dX6_writeRow_187 : decode cX6_writeRow 187 = .ok (.aload_n 0, 1) := by decide +kernel
theorem dX6_writeRow_188 : decode cX6_writeRow 188 = .ok (.iconst 1, 1) := by decide +kernel
theorem dX6_writeRow_189 : decode cX6_writeRow 189 = .ok (.iconst 3, 1) := by decide +kernel
theorem dX6_writeRow_190 : decode cX6_writeRow 190 = .ok (.invokevirtual 80, 3) := by decide +kernel
theorem dX6_writeRow_193 : decode cX6_writeRow 193 = .ok (.aload_n 0, 1) := by decide +kernel
theorem dX6_writeRow_194 : decode cX6_writeRow 194 = .ok (.iload 10, 2) := by decide +kernel
theorem dX6_writeRow_196 : decode cX6_writeRow 196 = .ok (.iload 9, 2) := by decide +kernel
theorem dX6_writeRow_198 : decode cX6_writeRow 198 = .ok (.isub, 1) := by decide +kernel
theorem dX6_writeRow_199 : decode cX6_writeRow 199 = .ok (.iload 7, 2) := by decide +kernel
theorem dX6_writeRow_201 : decode cX6_writeRow 201 = .ok (.invokevirtual 117, 3) := by decide +kernel
theorem dX6_writeRow_204 : decode cX6_writeRow 204 = .ok (.aload_n 0, 1) := by decide +kernel
theorem dX6_writeRow_205 : decode cX6_writeRow 205 = .ok (.iload 14, 2) := by decide +kernel
theorem dX6_writeRow_207 : decode cX6_writeRow 207 = .ok (.iload 10, 2) := by decide +kernel
theorem dX6_writeRow_209 : decode cX6_writeRow 209 = .ok (.isub, 1) := by decide +kernel
theorem dX6_writeRow_210 : decode cX6_writeRow 210 = .ok (.iconst 1, 1) := by decide +kernel
theorem dX6_writeRow_211 : decode cX6_writeRow 211 = .ok (.iload 7, 2) := by decide +kernel
theorem dX6_writeRow_213 : decode cX6_writeRow 213 = .ok (.isub, 1) := by decide +kernel
theorem dX6_writeRow_214 : decode cX6_writeRow 214 = .ok (.invokevirtual 117, 3) := by decide +kernel
theorem dX6_writeRow_217 : decode cX6_writeRow 217 = .ok (.iload 14, 2) := by decide +kernel
theorem dX6_writeRow_219 : decode cX6_writeRow 219 = .ok (.istore 6, 2) := by decide +kernel
theorem dX6_writeRow_221 : decode cX6_writeRow 221 = .ok (.iinc 8 1, 3) := by decide +kernel
theorem dX6_writeRow_224 : decode cX6_writeRow 224 = .ok (.goto (-194), 3) := by decide +kernel
theorem dX6_writeRow_227 : decode cX6_writeRow 227 = .ok (.return_, 1) := by decide +kernel

set_option maxRecDepth 100000 in
set_option maxHeartbeats 4000000 in
theorem rt_fP {x : JX} {Q : Option Value → Hp → Prop} {S0 : Hp} (C : CB x RX6 cX6_writeRow) (M : CM x 5 0 0 none S0 Q) (hn9 : x_n x = 15) (ad : Nat → Nat) (S : Hp) (D : Nat → Int32) (tb y9 tu : Nat) (ra : Int32) (Ph Pa : Nat → Bool) (hy : y9 < 240) (hPh : RP D (nI (y9 * 20)) Ph 200 16000) (hPa : RP D ra Pa 200 16000) (a1 b1 b2 : Nat) (e1 : fo Ph 0 200 false = a1) (e2 : fch Pa false 0 200 = b1) (e3 : fo Pa b1 200 (!false) = b2) (hc : b2 < a1) (hb1 : b1 ≤ 200) (hb2 : b2 ≤ 200) (ha1 : a1 ≤ 200) (htu : tu ≤ 200) (h9 : SF ad S0 S D tb) (ht : tb + 4 < 480000) (K : ∀ S' : Hp, SF ad S0 S' D (tb + 4) → J x 0 0 S' [(0, .ref (ad 5)), (1, .ref (ad 11)), (2, .int (nI y9)), (3, .int 200), (4, .int (nI (y9 * 20))), (5, .int ra), (6, .int (nI b2)), (7, .int (cI false)), (8, .int (nI (tu + 1)))] 30 []) : J x 0 0 S [(0, .ref (ad 5)), (1, .ref (ad 11)), (2, .int (nI y9)), (3, .int 200), (4, .int (nI (y9 * 20))), (5, .int ra), (6, .int (-1)), (7, .int (cI false)), (8, .int (nI tu))] 30 [] := by
  obtain ⟨hW, hF, hi601, hi609, hD⟩ := h9
  have hPh9 : RP (aI S (ad 11)) (nI (y9 * 20)) Ph 200 16000 := by rw [hD]; exact hPh
  have hPa9 : RP (aI S (ad 11)) ra Pa 200 16000 := by rw [hD]; exact hPa
  refine j_iload C dX6_writeRow_30 8 rfl ?_
  refine j_iload_n C dX6_writeRow_32 rfl 3 rfl ?_
  refine j_ic_gt (tgt := 227) C dX6_writeRow_33 (by decide) (fun c_33 => absurd c_33 (nI_nlt (a := 200) (b := tu) htu (by decide))) (fun c_33 => ?_)
  refine j_iload C dX6_writeRow_36 6 rfl ?_
  refine j_iload_n C dX6_writeRow_38 rfl 3 rfl ?_
  refine j_ic_ge (tgt := 227) C dX6_writeRow_39 (by decide) (fun c9 => absurd c9 (by decide)) (fun c9 => ?_)
  refine j_iload C dX6_writeRow_42 6 rfl ?_
  refine j_iconst (v := 0) C dX6_writeRow_44 (by decide) ?_
  show J _ _ _ _ _ 45 _
  refine j_callS C [.int (-1), .int 0] [] mlX6_55 mcJ9_max_7cf53 (c_J9_max_7cf53 S (-1) 0) (M.rm (by decide) (by decide) (Nat.le_of_ble_eq_true rfl) (Nat.le_of_ble_eq_true rfl)) rfl rfl (Nat.le_of_ble_eq_true rfl) dX6_writeRow_45 (fun r_1 S_2 hp_3 => ?_)
  obtain ⟨rfl, e_4⟩ := hp_3
  refine J.eq (S' := S) (st' := .int 0 :: []) (lv' := [(0, .ref (ad 5)), (1, .ref (ad 11)), (2, .int (nI y9)), (3, .int 200), (4, .int (nI (y9 * 20))), (5, .int ra), (6, .int (-1)), (7, .int (cI false)), (8, .int (nI tu))]) e_4 rfl (congrArg (fun z9 => Value.int z9 :: []) (by decide)) ?_
  refine J.eq (S' := S) (st' := [.int 0]) (lv' := [(0, .ref (ad 5)), (1, .ref (ad 11)), (2, .int (nI y9)), (3, .int 200), (4, .int (nI (y9 * 20))), (5, .int ra), (6, .int (-1)), (7, .int (cI false)), (8, .int (nI tu))]) rfl rfl rfl ?_
  refine j_istore (lv' := [(9, .int 0), (0, .ref (ad 5)), (1, .ref (ad 11)), (2, .int (nI y9)), (3, .int 200), (4, .int (nI (y9 * 20))), (5, .int ra), (6, .int (-1)), (7, .int (cI false)), (8, .int (nI tu))]) C dX6_writeRow_48 (by rw [hn9]; decide) rfl ?_
  refine j_aload_n C dX6_writeRow_50 rfl 2 rfl ?_
  refine j_iload C dX6_writeRow_51 5 rfl ?_
  refine j_iload C dX6_writeRow_53 0 rfl ?_
  refine j_iload_n C dX6_writeRow_55 rfl 4 rfl ?_
  refine j_iload C dX6_writeRow_56 8 rfl ?_
  refine j_callS C [.ref (ad 11), .int (nI (y9 * 20)), .int 0, .int 200, .int (cI false)] [] mlX6_104 mcX11_firstOther (c_fo S (ad 11) (nI (y9 * 20)) 16000 (wm_11 (S := S) hW) (wk_11 (S := S) hW) (wl_11 (S := S) hW) 0 200 false Ph hPh9 (by omega) (by omega) (by omega)) (M.rm (by decide) (by decide) (Nat.le_of_ble_eq_true rfl) (Nat.le_of_ble_eq_true rfl)) rfl rfl (Nat.le_of_ble_eq_true rfl) dX6_writeRow_58 (fun r_5 S_6 hp_7 => ?_)
  obtain ⟨rfl, e_8⟩ := hp_7
  refine J.eq (S' := S) (st' := [.int (nI (fo Ph 0 200 false))]) (lv' := [(9, .int 0), (0, .ref (ad 5)), (1, .ref (ad 11)), (2, .int (nI y9)), (3, .int 200), (4, .int (nI (y9 * 20))), (5, .int ra), (6, .int (-1)), (7, .int (cI false)), (8, .int (nI tu))]) e_8 rfl rfl ?_
  show J _ _ _ _ _ 61 _
  refine J.eq (st' := .int (nI a1) :: []) rfl rfl (congrArg (fun z9 => Value.int z9 :: []) (congrArg nI e1)) ?_
  refine j_istore (lv' := [(10, .int (nI a1)), (9, .int 0), (0, .ref (ad 5)), (1, .ref (ad 11)), (2, .int (nI y9)), (3, .int 200), (4, .int (nI (y9 * 20))), (5, .int ra), (6, .int (-1)), (7, .int (cI false)), (8, .int (nI tu))]) C dX6_writeRow_61 (by rw [hn9]; decide) rfl ?_
  refine j_aload_n C dX6_writeRow_63 rfl 3 rfl ?_
  refine j_iload C dX6_writeRow_64 7 rfl ?_
  refine j_iload C dX6_writeRow_66 8 rfl ?_
  refine j_iload_n C dX6_writeRow_68 rfl 5 rfl ?_
  refine j_iload C dX6_writeRow_69 9 rfl ?_
  refine j_callS C [.ref (ad 11), .int ra, .int (-1), .int 200, .int (cI false)] [] mlX6_108 mcX11_firstChange (c_fc0 S (ad 11) ra 16000 (wm_11 (S := S) hW) (wk_11 (S := S) hW) (wl_11 (S := S) hW) 200 false Pa hPa9 (by omega) (by omega)) (M.rm (by decide) (by decide) (Nat.le_of_ble_eq_true rfl) (Nat.le_of_ble_eq_true rfl)) rfl rfl (Nat.le_of_ble_eq_true rfl) dX6_writeRow_71 (fun r_9 S_10 hp_11 => ?_)
  obtain ⟨rfl, e_12⟩ := hp_11
  refine J.eq (S' := S) (st' := [.int (nI (fch Pa false 0 200))]) (lv' := [(10, .int (nI a1)), (9, .int 0), (0, .ref (ad 5)), (1, .ref (ad 11)), (2, .int (nI y9)), (3, .int 200), (4, .int (nI (y9 * 20))), (5, .int ra), (6, .int (-1)), (7, .int (cI false)), (8, .int (nI tu))]) e_12 rfl rfl ?_
  refine J.eq (st' := .int (nI b1) :: []) rfl rfl (congrArg (fun z9 => Value.int z9 :: []) (congrArg nI e2)) ?_
  refine j_istore (lv' := [(11, .int (nI b1)), (10, .int (nI a1)), (9, .int 0), (0, .ref (ad 5)), (1, .ref (ad 11)), (2, .int (nI y9)), (3, .int 200), (4, .int (nI (y9 * 20))), (5, .int ra), (6, .int (-1)), (7, .int (cI false)), (8, .int (nI tu))]) C dX6_writeRow_74 (by rw [hn9]; decide) rfl ?_
  show J _ _ _ _ _ 76 _
  refine j_aload_n C dX6_writeRow_76 rfl 4 rfl ?_
  refine j_iload C dX6_writeRow_77 8 rfl ?_
  refine j_iload C dX6_writeRow_79 0 rfl ?_
  refine j_iload_n C dX6_writeRow_81 rfl 6 rfl ?_
  refine j_iconst (v := 1) C dX6_writeRow_82 (by decide) ?_
  refine j_iload C dX6_writeRow_83 10 rfl ?_
  refine j_isub (v := cI (!false)) C dX6_writeRow_85 (cI_not false) ?_
  refine j_callS C [.ref (ad 11), .int ra, .int (nI b1), .int 200, .int (cI (!false))] [] mlX6_104 mcX11_firstOther (c_fo S (ad 11) ra 16000 (wm_11 (S := S) hW) (wk_11 (S := S) hW) (wl_11 (S := S) hW) b1 200 (!false) Pa hPa9 (by omega) (by omega) (by omega)) (M.rm (by decide) (by decide) (Nat.le_of_ble_eq_true rfl) (Nat.le_of_ble_eq_true rfl)) rfl rfl (Nat.le_of_ble_eq_true rfl) dX6_writeRow_86 (fun r_13 S_14 hp_15 => ?_)
  obtain ⟨rfl, e_16⟩ := hp_15
  refine J.eq (S' := S) (st' := [.int (nI (fo Pa b1 200 (!false)))]) (lv' := [(11, .int (nI b1)), (10, .int (nI a1)), (9, .int 0), (0, .ref (ad 5)), (1, .ref (ad 11)), (2, .int (nI y9)), (3, .int 200), (4, .int (nI (y9 * 20))), (5, .int ra), (6, .int (-1)), (7, .int (cI false)), (8, .int (nI tu))]) e_16 rfl rfl ?_
  show J _ _ _ _ _ 89 _
  refine J.eq (st' := .int (nI b2) :: []) rfl rfl (congrArg (fun z9 => Value.int z9 :: []) (congrArg nI e3)) ?_
  refine j_istore (lv' := [(12, .int (nI b2)), (11, .int (nI b1)), (10, .int (nI a1)), (9, .int 0), (0, .ref (ad 5)), (1, .ref (ad 11)), (2, .int (nI y9)), (3, .int 200), (4, .int (nI (y9 * 20))), (5, .int ra), (6, .int (-1)), (7, .int (cI false)), (8, .int (nI tu))]) C dX6_writeRow_89 (by rw [hn9]; decide) rfl ?_
  refine j_iload C dX6_writeRow_91 2 rfl ?_
  refine j_iload C dX6_writeRow_93 1 rfl ?_
  refine j_isub (v := (nI a1 - nI b1)) C dX6_writeRow_95 rfl ?_
  refine j_iconst (v := 3) C dX6_writeRow_96 (by decide) ?_
  refine j_iadd (v := (nI a1 - nI b1 + 3)) C dX6_writeRow_97 rfl ?_
  refine j_istore (lv' := [(13, .int (nI a1 - nI b1 + 3)), (12, .int (nI b2)), (11, .int (nI b1)), (10, .int (nI a1)), (9, .int 0), (0, .ref (ad 5)), (1, .ref (ad 11)), (2, .int (nI y9)), (3, .int 200), (4, .int (nI (y9 * 20))), (5, .int ra), (6, .int (-1)), (7, .int (cI false)), (8, .int (nI tu))]) C dX6_writeRow_98 (by rw [hn9]; decide) rfl ?_
  refine j_iload C dX6_writeRow_100 1 rfl ?_
  show J _ _ _ _ _ 102 _
  refine j_iload C dX6_writeRow_102 3 rfl ?_
  refine j_ic_ge (tgt := 120) C dX6_writeRow_104 (by decide) (fun c_104 => absurd c_104 (nI_ge hc (by omega))) (fun c_104 => ?_)
  refine j_aload_n C dX6_writeRow_107 rfl 5 rfl ?_
  refine j_iconst (v := 1) C dX6_writeRow_108 (by decide) ?_
  refine j_iconst (v := 4) C dX6_writeRow_109 (by decide) ?_
  refine j_callV (ci := 6) C [.int 1, .int 4] [] mlX6_80 mcX6_putBits (c_pb S ad hW 1 4 tb hi601 hi609 (by omega) (by omega)) (wm_5 (S := S) hW) (wk_5 (S := S) hW) rfl (M.rm (by decide) (by decide) (Nat.le_of_ble_eq_true rfl) (Nat.le_of_ble_eq_true rfl)) rfl rfl (Nat.le_of_ble_eq_true rfl) dX6_writeRow_110 (fun r_19 S_20 hp_21 => ?_)
  obtain ⟨rfl, hf_22, e_17, e_18⟩ := hp_21
  refine J.eq (st' := []) rfl rfl rfl ?_
  have hf_23 : Fm (fun f9 b9 => (f9 = 601 ∧ b9 = (ad 5)) ∨ (f9 = 608 ∧ b9 = (ad 5)) ∨ (f9 = 609 ∧ b9 = (ad 5))) (fun _ _ => False) (fun b9 => b9 = (ad 7)) S0 S_20 := hF.then hf_22 (fun a9 ha9 => ⟨(fun f9 h9 => (fun h9 => h9.elim (fun h8 => (Or.inl h8)) (fun h9 => h9.elim (fun h8 => (Or.inr (Or.inl h8))) (fun h8 => (Or.inr (Or.inr h8))))) h9), (fun f9 h9 => h9.elim), (fun h9 => (fun h8 => h8) h9)⟩)
  have hW_24 : Wd ad S_20 := hW.fm hf_22 (by intro _ _ h9; exact h9) (by intro p9 hp9; simp only [wqL, List.mem_cons, List.not_mem_nil, or_false] at hp9; rcases hp9 with rfl | rfl <;> intro h9 <;> skip <;> exact absurd h9 (wn hW (by decide) (by decide) (by decide)))
  have hx_25 : aI S_20 (ad 11) = D := by
    have e0_9 : (aI S_20 (ad 11)) = (aI S (ad 11)) := funext fun j9 => hf_22.ai (wm_11 (S := S) hW) (fun q9 => (wn (S := S) hW (i := 11) (j := 7) (by decide) (by decide) (by decide)) q9) j9
    first | (rw [e0_9]; exact hD) | rw [e0_9]
  refine j_iload C dX6_writeRow_113 1 rfl ?_
  refine j_istore (lv' := [(6, .int (nI b2)), (13, .int (nI a1 - nI b1 + 3)), (12, .int (nI b2)), (11, .int (nI b1)), (10, .int (nI a1)), (9, .int 0), (0, .ref (ad 5)), (1, .ref (ad 11)), (2, .int (nI y9)), (3, .int 200), (4, .int (nI (y9 * 20))), (5, .int ra), (7, .int (cI false)), (8, .int (nI tu))]) C dX6_writeRow_115 (by rw [hn9]; decide) rfl ?_
  show J _ _ _ _ _ 117 _
  refine j_goto (tgt := 221) C dX6_writeRow_117 (by decide) ?_
  refine j_iinc (q := 13) (v := nI (tu + 1)) (lv' := [(8, .int (nI (tu + 1))), (6, .int (nI b2)), (13, .int (nI a1 - nI b1 + 3)), (12, .int (nI b2)), (11, .int (nI b1)), (10, .int (nI a1)), (9, .int 0), (0, .ref (ad 5)), (1, .ref (ad 11)), (2, .int (nI y9)), (3, .int 200), (4, .int (nI (y9 * 20))), (5, .int ra), (7, .int (cI false))]) C dX6_writeRow_221 rfl (nI_add tu 1) (by rw [hn9]; decide) rfl ?_
  refine j_goto (tgt := 30) C dX6_writeRow_224 (by decide) ?_
  refine J.sub [7, 8, 9, 10, 11, 12, 1, 13, 0] (lv' := [(0, .ref (ad 5)), (1, .ref (ad 11)), (2, .int (nI y9)), (3, .int 200), (4, .int (nI (y9 * 20))), (5, .int ra), (6, .int (nI b2)), (7, .int (cI false)), (8, .int (nI (tu + 1)))]) (by rfl) ?_
  exact K S_20 ⟨hW_24, hf_23, e_17, e_18, hx_25⟩

set_option maxRecDepth 100000 in
set_option maxHeartbeats 4000000 in
theorem rt_fN {x : JX} {Q : Option Value → Hp → Prop} {S0 : Hp} (C : CB x RX6 cX6_writeRow) (M : CM x 5 0 0 none S0 Q) (hn9 : x_n x = 15) (ad : Nat → Nat) (S : Hp) (D : Nat → Int32) (tb y9 tu : Nat) (ra : Int32) (Ph Pa : Nat → Bool) (hy : y9 < 240) (hPh : RP D (nI (y9 * 20)) Ph 200 16000) (hPa : RP D ra Pa 200 16000) (a1 b1 b2 : Nat) (e1 : fo Ph 0 200 false = a1) (e2 : fch Pa false 0 200 = b1) (e3 : fo Pa b1 200 (!false) = b2) (jn : Nat) (hc : a1 ≤ b2) (hj : a1 + 3 = b1 + jn) (hj7 : jn < 7) (hb1 : b1 ≤ 200) (hb2 : b2 ≤ 200) (ha1 : a1 ≤ 200) (htu : tu ≤ 200) (h9 : SF ad S0 S D tb) (ht : tb + nbN jn < 480000) (K : ∀ S' : Hp, SF ad S0 S' D (tb + nbN jn) → J x 0 0 S' [(0, .ref (ad 5)), (1, .ref (ad 11)), (2, .int (nI y9)), (3, .int 200), (4, .int (nI (y9 * 20))), (5, .int ra), (6, .int (nI a1)), (7, .int (cI (!false))), (8, .int (nI (tu + 1)))] 30 []) : J x 0 0 S [(0, .ref (ad 5)), (1, .ref (ad 11)), (2, .int (nI y9)), (3, .int 200), (4, .int (nI (y9 * 20))), (5, .int ra), (6, .int (-1)), (7, .int (cI false)), (8, .int (nI tu))] 30 [] := by
  obtain ⟨hW, hF, hi601, hi609, hD⟩ := h9
  have hPh9 : RP (aI S (ad 11)) (nI (y9 * 20)) Ph 200 16000 := by rw [hD]; exact hPh
  have hPa9 : RP (aI S (ad 11)) ra Pa 200 16000 := by rw [hD]; exact hPa
  refine j_iload C dX6_writeRow_30 8 rfl ?_
  refine j_iload_n C dX6_writeRow_32 rfl 3 rfl ?_
  refine j_ic_gt (tgt := 227) C dX6_writeRow_33 (by decide) (fun c_33 => absurd c_33 (nI_nlt (a := 200) (b := tu) htu (by decide))) (fun c_33 => ?_)
  refine j_iload C dX6_writeRow_36 6 rfl ?_
  refine j_iload_n C dX6_writeRow_38 rfl 3 rfl ?_
  refine j_ic_ge (tgt := 227) C dX6_writeRow_39 (by decide) (fun c9 => absurd c9 (by decide)) (fun c9 => ?_)
  refine j_iload C dX6_writeRow_42 6 rfl ?_
  refine j_iconst (v := 0) C dX6_writeRow_44 (by decide) ?_
  show J _ _ _ _ _ 45 _
  refine j_callS C [.int (-1), .int 0] [] mlX6_55 mcJ9_max_7cf53 (c_J9_max_7cf53 S (-1) 0) (M.rm (by decide) (by decide) (Nat.le_of_ble_eq_true rfl) (Nat.le_of_ble_eq_true rfl)) rfl rfl (Nat.le_of_ble_eq_true rfl) dX6_writeRow_45 (fun r_1 S_2 hp_3 => ?_)
  obtain ⟨rfl, e_4⟩ := hp_3
  refine J.eq (S' := S) (st' := .int 0 :: []) (lv' := [(0, .ref (ad 5)), (1, .ref (ad 11)), (2, .int (nI y9)), (3, .int 200), (4, .int (nI (y9 * 20))), (5, .int ra), (6, .int (-1)), (7, .int (cI false)), (8, .int (nI tu))]) e_4 rfl (congrArg (fun z9 => Value.int z9 :: []) (by decide)) ?_
  refine J.eq (S' := S) (st' := [.int 0]) (lv' := [(0, .ref (ad 5)), (1, .ref (ad 11)), (2, .int (nI y9)), (3, .int 200), (4, .int (nI (y9 * 20))), (5, .int ra), (6, .int (-1)), (7, .int (cI false)), (8, .int (nI tu))]) rfl rfl rfl ?_
  refine j_istore (lv' := [(9, .int 0), (0, .ref (ad 5)), (1, .ref (ad 11)), (2, .int (nI y9)), (3, .int 200), (4, .int (nI (y9 * 20))), (5, .int ra), (6, .int (-1)), (7, .int (cI false)), (8, .int (nI tu))]) C dX6_writeRow_48 (by rw [hn9]; decide) rfl ?_
  refine j_aload_n C dX6_writeRow_50 rfl 2 rfl ?_
  refine j_iload C dX6_writeRow_51 5 rfl ?_
  refine j_iload C dX6_writeRow_53 0 rfl ?_
  refine j_iload_n C dX6_writeRow_55 rfl 4 rfl ?_
  refine j_iload C dX6_writeRow_56 8 rfl ?_
  refine j_callS C [.ref (ad 11), .int (nI (y9 * 20)), .int 0, .int 200, .int (cI false)] [] mlX6_104 mcX11_firstOther (c_fo S (ad 11) (nI (y9 * 20)) 16000 (wm_11 (S := S) hW) (wk_11 (S := S) hW) (wl_11 (S := S) hW) 0 200 false Ph hPh9 (by omega) (by omega) (by omega)) (M.rm (by decide) (by decide) (Nat.le_of_ble_eq_true rfl) (Nat.le_of_ble_eq_true rfl)) rfl rfl (Nat.le_of_ble_eq_true rfl) dX6_writeRow_58 (fun r_5 S_6 hp_7 => ?_)
  obtain ⟨rfl, e_8⟩ := hp_7
  refine J.eq (S' := S) (st' := [.int (nI (fo Ph 0 200 false))]) (lv' := [(9, .int 0), (0, .ref (ad 5)), (1, .ref (ad 11)), (2, .int (nI y9)), (3, .int 200), (4, .int (nI (y9 * 20))), (5, .int ra), (6, .int (-1)), (7, .int (cI false)), (8, .int (nI tu))]) e_8 rfl rfl ?_
  show J _ _ _ _ _ 61 _
  refine J.eq (st' := .int (nI a1) :: []) rfl rfl (congrArg (fun z9 => Value.int z9 :: []) (congrArg nI e1)) ?_
  refine j_istore (lv' := [(10, .int (nI a1)), (9, .int 0), (0, .ref (ad 5)), (1, .ref (ad 11)), (2, .int (nI y9)), (3, .int 200), (4, .int (nI (y9 * 20))), (5, .int ra), (6, .int (-1)), (7, .int (cI false)), (8, .int (nI tu))]) C dX6_writeRow_61 (by rw [hn9]; decide) rfl ?_
  refine j_aload_n C dX6_writeRow_63 rfl 3 rfl ?_
  refine j_iload C dX6_writeRow_64 7 rfl ?_
  refine j_iload C dX6_writeRow_66 8 rfl ?_
  refine j_iload_n C dX6_writeRow_68 rfl 5 rfl ?_
  refine j_iload C dX6_writeRow_69 9 rfl ?_
  refine j_callS C [.ref (ad 11), .int ra, .int (-1), .int 200, .int (cI false)] [] mlX6_108 mcX11_firstChange (c_fc0 S (ad 11) ra 16000 (wm_11 (S := S) hW) (wk_11 (S := S) hW) (wl_11 (S := S) hW) 200 false Pa hPa9 (by omega) (by omega)) (M.rm (by decide) (by decide) (Nat.le_of_ble_eq_true rfl) (Nat.le_of_ble_eq_true rfl)) rfl rfl (Nat.le_of_ble_eq_true rfl) dX6_writeRow_71 (fun r_9 S_10 hp_11 => ?_)
  obtain ⟨rfl, e_12⟩ := hp_11
  refine J.eq (S' := S) (st' := [.int (nI (fch Pa false 0 200))]) (lv' := [(10, .int (nI a1)), (9, .int 0), (0, .ref (ad 5)), (1, .ref (ad 11)), (2, .int (nI y9)), (3, .int 200), (4, .int (nI (y9 * 20))), (5, .int ra), (6, .int (-1)), (7, .int (cI false)), (8, .int (nI tu))]) e_12 rfl rfl ?_
  refine J.eq (st' := .int (nI b1) :: []) rfl rfl (congrArg (fun z9 => Value.int z9 :: []) (congrArg nI e2)) ?_
  refine j_istore (lv' := [(11, .int (nI b1)), (10, .int (nI a1)), (9, .int 0), (0, .ref (ad 5)), (1, .ref (ad 11)), (2, .int (nI y9)), (3, .int 200), (4, .int (nI (y9 * 20))), (5, .int ra), (6, .int (-1)), (7, .int (cI false)), (8, .int (nI tu))]) C dX6_writeRow_74 (by rw [hn9]; decide) rfl ?_
  show J _ _ _ _ _ 76 _
  refine j_aload_n C dX6_writeRow_76 rfl 4 rfl ?_
  refine j_iload C dX6_writeRow_77 8 rfl ?_
  refine j_iload C dX6_writeRow_79 0 rfl ?_
  refine j_iload_n C dX6_writeRow_81 rfl 6 rfl ?_
  refine j_iconst (v := 1) C dX6_writeRow_82 (by decide) ?_
  refine j_iload C dX6_writeRow_83 10 rfl ?_
  refine j_isub (v := cI (!false)) C dX6_writeRow_85 (cI_not false) ?_
  refine j_callS C [.ref (ad 11), .int ra, .int (nI b1), .int 200, .int (cI (!false))] [] mlX6_104 mcX11_firstOther (c_fo S (ad 11) ra 16000 (wm_11 (S := S) hW) (wk_11 (S := S) hW) (wl_11 (S := S) hW) b1 200 (!false) Pa hPa9 (by omega) (by omega) (by omega)) (M.rm (by decide) (by decide) (Nat.le_of_ble_eq_true rfl) (Nat.le_of_ble_eq_true rfl)) rfl rfl (Nat.le_of_ble_eq_true rfl) dX6_writeRow_86 (fun r_13 S_14 hp_15 => ?_)
  obtain ⟨rfl, e_16⟩ := hp_15
  refine J.eq (S' := S) (st' := [.int (nI (fo Pa b1 200 (!false)))]) (lv' := [(11, .int (nI b1)), (10, .int (nI a1)), (9, .int 0), (0, .ref (ad 5)), (1, .ref (ad 11)), (2, .int (nI y9)), (3, .int 200), (4, .int (nI (y9 * 20))), (5, .int ra), (6, .int (-1)), (7, .int (cI false)), (8, .int (nI tu))]) e_16 rfl rfl ?_
  show J _ _ _ _ _ 89 _
  refine J.eq (st' := .int (nI b2) :: []) rfl rfl (congrArg (fun z9 => Value.int z9 :: []) (congrArg nI e3)) ?_
  refine j_istore (lv' := [(12, .int (nI b2)), (11, .int (nI b1)), (10, .int (nI a1)), (9, .int 0), (0, .ref (ad 5)), (1, .ref (ad 11)), (2, .int (nI y9)), (3, .int 200), (4, .int (nI (y9 * 20))), (5, .int ra), (6, .int (-1)), (7, .int (cI false)), (8, .int (nI tu))]) C dX6_writeRow_89 (by rw [hn9]; decide) rfl ?_
  refine j_iload C dX6_writeRow_91 2 rfl ?_
  refine j_iload C dX6_writeRow_93 1 rfl ?_
  refine j_isub (v := (nI a1 - nI b1)) C dX6_writeRow_95 rfl ?_
  refine j_iconst (v := 3) C dX6_writeRow_96 (by decide) ?_
  refine j_iadd (v := nI jn) C dX6_writeRow_97 (near_eq hj (by omega) (by omega) (by omega)) ?_
  refine j_istore (lv' := [(13, .int (nI jn)), (12, .int (nI b2)), (11, .int (nI b1)), (10, .int (nI a1)), (9, .int 0), (0, .ref (ad 5)), (1, .ref (ad 11)), (2, .int (nI y9)), (3, .int 200), (4, .int (nI (y9 * 20))), (5, .int ra), (6, .int (-1)), (7, .int (cI false)), (8, .int (nI tu))]) C dX6_writeRow_98 (by rw [hn9]; decide) rfl ?_
  refine j_iload C dX6_writeRow_100 1 rfl ?_
  show J _ _ _ _ _ 102 _
  refine j_iload C dX6_writeRow_102 3 rfl ?_
  refine j_ic_ge (tgt := 120) C dX6_writeRow_104 (by decide) (fun c_104 => ?_) (fun c_104 => absurd (nI_le hc (by omega)) c_104)
  refine j_iload C dX6_writeRow_120 0 rfl ?_
  refine j_if_lt (tgt := 172) C dX6_writeRow_122 (by decide) (fun c_122 => absurd c_122 (nI_pos (by omega))) (fun c_122 => ?_)
  refine j_iload C dX6_writeRow_125 0 rfl ?_
  refine j_gets C 5 rfl (Or.inr ⟨_, gsX6_111⟩) dX6_writeRow_127 ?_
  refine j_stlen (v := 7) C 5 rfl dX6_writeRow_130 (by decide) ?_
  refine j_ic_ge (tgt := 172) C dX6_writeRow_131 (by decide) (fun c_131 => absurd c_131 (nI_ge (b := 7) hj7 (by decide))) (fun c_131 => ?_)
  show J _ _ _ _ _ 134 _
  refine j_iload C dX6_writeRow_134 0 rfl ?_
  refine j_gets C 4 rfl (Or.inr ⟨_, gsX6_114⟩) dX6_writeRow_136 ?_
  refine j_stlen (v := 7) C 4 rfl dX6_writeRow_139 (by decide) ?_
  refine j_ic_ge (tgt := 172) C dX6_writeRow_140 (by decide) (fun c_140 => absurd c_140 (nI_ge (b := 7) hj7 (by decide))) (fun c_140 => ?_)
  refine j_aload_n C dX6_writeRow_143 rfl 5 rfl ?_
  refine j_gets C 5 rfl (Or.inr ⟨_, gsX6_111⟩) dX6_writeRow_144 ?_
  refine j_iload C dX6_writeRow_147 0 rfl ?_
  refine j_stld (v := (st_NEAR_CODES.getD jn 0)) C 5 rfl dX6_writeRow_149 (show vp_in (nI jn) 7 from vp_in_nI (by omega) (by omega)) ((congrArg (fun z9 => st_NEAR_CODES.getD z9 0) (nI_clamp (by omega))).trans rfl) ?_
  show J _ _ _ _ _ 150 _
  refine j_gets C 4 rfl (Or.inr ⟨_, gsX6_114⟩) dX6_writeRow_150 ?_
  refine j_iload C dX6_writeRow_153 0 rfl ?_
  refine j_stld (v := nI (nbN jn)) C 4 rfl dX6_writeRow_155 (show vp_in (nI jn) 7 from vp_in_nI (by omega) (by omega)) ((congrArg (fun z9 => st_NEAR_BITS.getD z9 0) (nI_clamp (by omega))).trans (nb_ok jn hj7)) ?_
  refine j_callV (ci := 6) C [.int (st_NEAR_CODES.getD jn 0), .int (nI (nbN jn))] [] mlX6_80 mcX6_putBits (c_pb S ad hW (st_NEAR_CODES.getD jn 0) (nbN jn) tb hi601 hi609 (Nat.le_trans (nb_le jn (by omega)) (by decide)) (by omega)) (wm_5 (S := S) hW) (wk_5 (S := S) hW) rfl (M.rm (by decide) (by decide) (Nat.le_of_ble_eq_true rfl) (Nat.le_of_ble_eq_true rfl)) rfl rfl (Nat.le_of_ble_eq_true rfl) dX6_writeRow_156 (fun r_19 S_20 hp_21 => ?_)
  obtain ⟨rfl, hf_22, e_17, e_18⟩ := hp_21
  refine J.eq (st' := []) rfl rfl rfl ?_
  have hf_23 : Fm (fun f9 b9 => (f9 = 601 ∧ b9 = (ad 5)) ∨ (f9 = 608 ∧ b9 = (ad 5)) ∨ (f9 = 609 ∧ b9 = (ad 5))) (fun _ _ => False) (fun b9 => b9 = (ad 7)) S0 S_20 := hF.then hf_22 (fun a9 ha9 => ⟨(fun f9 h9 => (fun h9 => h9.elim (fun h8 => (Or.inl h8)) (fun h9 => h9.elim (fun h8 => (Or.inr (Or.inl h8))) (fun h8 => (Or.inr (Or.inr h8))))) h9), (fun f9 h9 => h9.elim), (fun h9 => (fun h8 => h8) h9)⟩)
  have hW_24 : Wd ad S_20 := hW.fm hf_22 (by intro _ _ h9; exact h9) (by intro p9 hp9; simp only [wqL, List.mem_cons, List.not_mem_nil, or_false] at hp9; rcases hp9 with rfl | rfl <;> intro h9 <;> skip <;> exact absurd h9 (wn hW (by decide) (by decide) (by decide)))
  have hx_25 : aI S_20 (ad 11) = D := by
    have e0_9 : (aI S_20 (ad 11)) = (aI S (ad 11)) := funext fun j9 => hf_22.ai (wm_11 (S := S) hW) (fun q9 => (wn (S := S) hW (i := 11) (j := 7) (by decide) (by decide) (by decide)) q9) j9
    first | (rw [e0_9]; exact hD) | rw [e0_9]
  refine j_iload C dX6_writeRow_159 3 rfl ?_
  refine j_istore (lv' := [(6, .int (nI a1)), (13, .int (nI jn)), (12, .int (nI b2)), (11, .int (nI b1)), (10, .int (nI a1)), (9, .int 0), (0, .ref (ad 5)), (1, .ref (ad 11)), (2, .int (nI y9)), (3, .int 200), (4, .int (nI (y9 * 20))), (5, .int ra), (7, .int (cI false)), (8, .int (nI tu))]) C dX6_writeRow_161 (by rw [hn9]; decide) rfl ?_
  refine j_iconst (v := 1) C dX6_writeRow_163 (by decide) ?_
  refine j_iload C dX6_writeRow_164 12 rfl ?_
  show J _ _ _ _ _ 166 _
  refine j_isub (v := cI (!false)) C dX6_writeRow_166 (cI_not false) ?_
  refine j_istore (lv' := [(7, .int (cI (!false))), (6, .int (nI a1)), (13, .int (nI jn)), (12, .int (nI b2)), (11, .int (nI b1)), (10, .int (nI a1)), (9, .int 0), (0, .ref (ad 5)), (1, .ref (ad 11)), (2, .int (nI y9)), (3, .int 200), (4, .int (nI (y9 * 20))), (5, .int ra), (8, .int (nI tu))]) C dX6_writeRow_167 (by rw [hn9]; decide) rfl ?_
  refine j_goto (tgt := 221) C dX6_writeRow_169 (by decide) ?_
  refine j_iinc (q := 13) (v := nI (tu + 1)) (lv' := [(8, .int (nI (tu + 1))), (7, .int (cI (!false))), (6, .int (nI a1)), (13, .int (nI jn)), (12, .int (nI b2)), (11, .int (nI b1)), (10, .int (nI a1)), (9, .int 0), (0, .ref (ad 5)), (1, .ref (ad 11)), (2, .int (nI y9)), (3, .int 200), (4, .int (nI (y9 * 20))), (5, .int ra)]) C dX6_writeRow_221 rfl (nI_add tu 1) (by rw [hn9]; decide) rfl ?_
  refine j_goto (tgt := 30) C dX6_writeRow_224 (by decide) ?_
  refine J.sub [8, 9, 10, 11, 12, 13, 2, 1, 0] (lv' := [(0, .ref (ad 5)), (1, .ref (ad 11)), (2, .int (nI y9)), (3, .int 200), (4, .int (nI (y9 * 20))), (5, .int ra), (6, .int (nI a1)), (7, .int (cI (!false))), (8, .int (nI (tu + 1)))]) (by rfl) ?_
  exact K S_20 ⟨hW_24, hf_23, e_17, e_18, hx_25⟩

set_option maxRecDepth 100000 in
set_option maxHeartbeats 4000000 in
theorem rt_fL {x : JX} {Q : Option Value → Hp → Prop} {S0 : Hp} (C : CB x RX6 cX6_writeRow) (M : CM x 5 0 0 none S0 Q) (hn9 : x_n x = 15) (ad : Nat → Nat) (S : Hp) (D : Nat → Int32) (tb y9 tu : Nat) (ra : Int32) (Ph Pa : Nat → Bool) (hy : y9 < 240) (hPh : RP D (nI (y9 * 20)) Ph 200 16000) (hPa : RP D ra Pa 200 16000) (a1 b1 b2 : Nat) (e1 : fo Ph 0 200 false = a1) (e2 : fch Pa false 0 200 = b1) (e3 : fo Pa b1 200 (!false) = b2) (a2 : Nat) (e4 : fo Ph a1 200 (!false) = a2) (hc : a1 ≤ b2) (hj : a1 + 3 < b1) (hb1 : b1 ≤ 200) (hb2 : b2 ≤ 200) (ha1 : a1 ≤ 200) (hf : 0 ≤ a1) (ha2 : a1 ≤ a2) (ha3 : a2 ≤ 200) (htu : tu ≤ 200) (h9 : SF ad S0 S D tb) (ht : tb + 3 + runB false (a1 - 0) + runB (!false) (a2 - a1) < 480000) (K : ∀ S' : Hp, SF ad S0 S' D (tb + 3 + runB false (a1 - 0) + runB (!false) (a2 - a1)) → J x 0 0 S' [(0, .ref (ad 5)), (1, .ref (ad 11)), (2, .int (nI y9)), (3, .int 200), (4, .int (nI (y9 * 20))), (5, .int ra), (6, .int (nI a2)), (7, .int (cI false)), (8, .int (nI (tu + 1)))] 30 []) : J x 0 0 S [(0, .ref (ad 5)), (1, .ref (ad 11)), (2, .int (nI y9)), (3, .int 200), (4, .int (nI (y9 * 20))), (5, .int ra), (6, .int (-1)), (7, .int (cI false)), (8, .int (nI tu))] 30 [] := by
  obtain ⟨hW, hF, hi601, hi609, hD⟩ := h9
  have hPh9 : RP (aI S (ad 11)) (nI (y9 * 20)) Ph 200 16000 := by rw [hD]; exact hPh
  have hPa9 : RP (aI S (ad 11)) ra Pa 200 16000 := by rw [hD]; exact hPa
  refine j_iload C dX6_writeRow_30 8 rfl ?_
  refine j_iload_n C dX6_writeRow_32 rfl 3 rfl ?_
  refine j_ic_gt (tgt := 227) C dX6_writeRow_33 (by decide) (fun c_33 => absurd c_33 (nI_nlt (a := 200) (b := tu) htu (by decide))) (fun c_33 => ?_)
  refine j_iload C dX6_writeRow_36 6 rfl ?_
  refine j_iload_n C dX6_writeRow_38 rfl 3 rfl ?_
  refine j_ic_ge (tgt := 227) C dX6_writeRow_39 (by decide) (fun c9 => absurd c9 (by decide)) (fun c9 => ?_)
  refine j_iload C dX6_writeRow_42 6 rfl ?_
  refine j_iconst (v := 0) C dX6_writeRow_44 (by decide) ?_
  show J _ _ _ _ _ 45 _
  refine j_callS C [.int (-1), .int 0] [] mlX6_55 mcJ9_max_7cf53 (c_J9_max_7cf53 S (-1) 0) (M.rm (by decide) (by decide) (Nat.le_of_ble_eq_true rfl) (Nat.le_of_ble_eq_true rfl)) rfl rfl (Nat.le_of_ble_eq_true rfl) dX6_writeRow_45 (fun r_1 S_2 hp_3 => ?_)
  obtain ⟨rfl, e_4⟩ := hp_3
  refine J.eq (S' := S) (st' := .int 0 :: []) (lv' := [(0, .ref (ad 5)), (1, .ref (ad 11)), (2, .int (nI y9)), (3, .int 200), (4, .int (nI (y9 * 20))), (5, .int ra), (6, .int (-1)), (7, .int (cI false)), (8, .int (nI tu))]) e_4 rfl (congrArg (fun z9 => Value.int z9 :: []) (by decide)) ?_
  refine J.eq (S' := S) (st' := [.int 0]) (lv' := [(0, .ref (ad 5)), (1, .ref (ad 11)), (2, .int (nI y9)), (3, .int 200), (4, .int (nI (y9 * 20))), (5, .int ra), (6, .int (-1)), (7, .int (cI false)), (8, .int (nI tu))]) rfl rfl rfl ?_
  refine j_istore (lv' := [(9, .int 0), (0, .ref (ad 5)), (1, .ref (ad 11)), (2, .int (nI y9)), (3, .int 200), (4, .int (nI (y9 * 20))), (5, .int ra), (6, .int (-1)), (7, .int (cI false)), (8, .int (nI tu))]) C dX6_writeRow_48 (by rw [hn9]; decide) rfl ?_
  refine j_aload_n C dX6_writeRow_50 rfl 2 rfl ?_
  refine j_iload C dX6_writeRow_51 5 rfl ?_
  refine j_iload C dX6_writeRow_53 0 rfl ?_
  refine j_iload_n C dX6_writeRow_55 rfl 4 rfl ?_
  refine j_iload C dX6_writeRow_56 8 rfl ?_
  refine j_callS C [.ref (ad 11), .int (nI (y9 * 20)), .int 0, .int 200, .int (cI false)] [] mlX6_104 mcX11_firstOther (c_fo S (ad 11) (nI (y9 * 20)) 16000 (wm_11 (S := S) hW) (wk_11 (S := S) hW) (wl_11 (S := S) hW) 0 200 false Ph hPh9 (by omega) (by omega) (by omega)) (M.rm (by decide) (by decide) (Nat.le_of_ble_eq_true rfl) (Nat.le_of_ble_eq_true rfl)) rfl rfl (Nat.le_of_ble_eq_true rfl) dX6_writeRow_58 (fun r_5 S_6 hp_7 => ?_)
  obtain ⟨rfl, e_8⟩ := hp_7
  refine J.eq (S' := S) (st' := [.int (nI (fo Ph 0 200 false))]) (lv' := [(9, .int 0), (0, .ref (ad 5)), (1, .ref (ad 11)), (2, .int (nI y9)), (3, .int 200), (4, .int (nI (y9 * 20))), (5, .int ra), (6, .int (-1)), (7, .int (cI false)), (8, .int (nI tu))]) e_8 rfl rfl ?_
  show J _ _ _ _ _ 61 _
  refine J.eq (st' := .int (nI a1) :: []) rfl rfl (congrArg (fun z9 => Value.int z9 :: []) (congrArg nI e1)) ?_
  refine j_istore (lv' := [(10, .int (nI a1)), (9, .int 0), (0, .ref (ad 5)), (1, .ref (ad 11)), (2, .int (nI y9)), (3, .int 200), (4, .int (nI (y9 * 20))), (5, .int ra), (6, .int (-1)), (7, .int (cI false)), (8, .int (nI tu))]) C dX6_writeRow_61 (by rw [hn9]; decide) rfl ?_
  refine j_aload_n C dX6_writeRow_63 rfl 3 rfl ?_
  refine j_iload C dX6_writeRow_64 7 rfl ?_
  refine j_iload C dX6_writeRow_66 8 rfl ?_
  refine j_iload_n C dX6_writeRow_68 rfl 5 rfl ?_
  refine j_iload C dX6_writeRow_69 9 rfl ?_
  refine j_callS C [.ref (ad 11), .int ra, .int (-1), .int 200, .int (cI false)] [] mlX6_108 mcX11_firstChange (c_fc0 S (ad 11) ra 16000 (wm_11 (S := S) hW) (wk_11 (S := S) hW) (wl_11 (S := S) hW) 200 false Pa hPa9 (by omega) (by omega)) (M.rm (by decide) (by decide) (Nat.le_of_ble_eq_true rfl) (Nat.le_of_ble_eq_true rfl)) rfl rfl (Nat.le_of_ble_eq_true rfl) dX6_writeRow_71 (fun r_9 S_10 hp_11 => ?_)
  obtain ⟨rfl, e_12⟩ := hp_11
  refine J.eq (S' := S) (st' := [.int (nI (fch Pa false 0 200))]) (lv' := [(10, .int (nI a1)), (9, .int 0), (0, .ref (ad 5)), (1, .ref (ad 11)), (2, .int (nI y9)), (3, .int 200), (4, .int (nI (y9 * 20))), (5, .int ra), (6, .int (-1)), (7, .int (cI false)), (8, .int (nI tu))]) e_12 rfl rfl ?_
  refine J.eq (st' := .int (nI b1) :: []) rfl rfl (congrArg (fun z9 => Value.int z9 :: []) (congrArg nI e2)) ?_
  refine j_istore (lv' := [(11, .int (nI b1)), (10, .int (nI a1)), (9, .int 0), (0, .ref (ad 5)), (1, .ref (ad 11)), (2, .int (nI y9)), (3, .int 200), (4, .int (nI (y9 * 20))), (5, .int ra), (6, .int (-1)), (7, .int (cI false)), (8, .int (nI tu))]) C dX6_writeRow_74 (by rw [hn9]; decide) rfl ?_
  show J _ _ _ _ _ 76 _
  refine j_aload_n C dX6_writeRow_76 rfl 4 rfl ?_
  refine j_iload C dX6_writeRow_77 8 rfl ?_
  refine j_iload C dX6_writeRow_79 0 rfl ?_
  refine j_iload_n C dX6_writeRow_81 rfl 6 rfl ?_
  refine j_iconst (v := 1) C dX6_writeRow_82 (by decide) ?_
  refine j_iload C dX6_writeRow_83 10 rfl ?_
  refine j_isub (v := cI (!false)) C dX6_writeRow_85 (cI_not false) ?_
  refine j_callS C [.ref (ad 11), .int ra, .int (nI b1), .int 200, .int (cI (!false))] [] mlX6_104 mcX11_firstOther (c_fo S (ad 11) ra 16000 (wm_11 (S := S) hW) (wk_11 (S := S) hW) (wl_11 (S := S) hW) b1 200 (!false) Pa hPa9 (by omega) (by omega) (by omega)) (M.rm (by decide) (by decide) (Nat.le_of_ble_eq_true rfl) (Nat.le_of_ble_eq_true rfl)) rfl rfl (Nat.le_of_ble_eq_true rfl) dX6_writeRow_86 (fun r_13 S_14 hp_15 => ?_)
  obtain ⟨rfl, e_16⟩ := hp_15
  refine J.eq (S' := S) (st' := [.int (nI (fo Pa b1 200 (!false)))]) (lv' := [(11, .int (nI b1)), (10, .int (nI a1)), (9, .int 0), (0, .ref (ad 5)), (1, .ref (ad 11)), (2, .int (nI y9)), (3, .int 200), (4, .int (nI (y9 * 20))), (5, .int ra), (6, .int (-1)), (7, .int (cI false)), (8, .int (nI tu))]) e_16 rfl rfl ?_
  show J _ _ _ _ _ 89 _
  refine J.eq (st' := .int (nI b2) :: []) rfl rfl (congrArg (fun z9 => Value.int z9 :: []) (congrArg nI e3)) ?_
  refine j_istore (lv' := [(12, .int (nI b2)), (11, .int (nI b1)), (10, .int (nI a1)), (9, .int 0), (0, .ref (ad 5)), (1, .ref (ad 11)), (2, .int (nI y9)), (3, .int 200), (4, .int (nI (y9 * 20))), (5, .int ra), (6, .int (-1)), (7, .int (cI false)), (8, .int (nI tu))]) C dX6_writeRow_89 (by rw [hn9]; decide) rfl ?_
  refine j_iload C dX6_writeRow_91 2 rfl ?_
  refine j_iload C dX6_writeRow_93 1 rfl ?_
  refine j_isub (v := (nI a1 - nI b1)) C dX6_writeRow_95 rfl ?_
  refine j_iconst (v := 3) C dX6_writeRow_96 (by decide) ?_
  refine j_iadd (v := (nI a1 - nI b1 + 3)) C dX6_writeRow_97 rfl ?_
  refine j_istore (lv' := [(13, .int (nI a1 - nI b1 + 3)), (12, .int (nI b2)), (11, .int (nI b1)), (10, .int (nI a1)), (9, .int 0), (0, .ref (ad 5)), (1, .ref (ad 11)), (2, .int (nI y9)), (3, .int 200), (4, .int (nI (y9 * 20))), (5, .int ra), (6, .int (-1)), (7, .int (cI false)), (8, .int (nI tu))]) C dX6_writeRow_98 (by rw [hn9]; decide) rfl ?_
  refine j_iload C dX6_writeRow_100 1 rfl ?_
  show J _ _ _ _ _ 102 _
  refine j_iload C dX6_writeRow_102 3 rfl ?_
  refine j_ic_ge (tgt := 120) C dX6_writeRow_104 (by decide) (fun c_104 => ?_) (fun c_104 => absurd (nI_le hc (by omega)) c_104)
  refine j_iload C dX6_writeRow_120 0 rfl ?_
  refine j_if_lt (tgt := 172) C dX6_writeRow_122 (by decide) (fun c_122 => ?_) (fun c_122 => absurd (near_lo hj (by omega) (by omega)) c_122)
  refine j_aload_n C dX6_writeRow_172 rfl 6 rfl ?_
  refine j_iload C dX6_writeRow_173 9 rfl ?_
  refine j_iload C dX6_writeRow_175 3 rfl ?_
  refine j_iload_n C dX6_writeRow_177 rfl 8 rfl ?_
  show J _ _ _ _ _ 178 _
  refine j_iconst (v := 1) C dX6_writeRow_178 (by decide) ?_
  refine j_iload C dX6_writeRow_179 12 rfl ?_
  refine j_isub (v := cI (!false)) C dX6_writeRow_181 (cI_not false) ?_
  refine j_callS C [.ref (ad 11), .int (nI (y9 * 20)), .int (nI a1), .int 200, .int (cI (!false))] [] mlX6_104 mcX11_firstOther (c_fo S (ad 11) (nI (y9 * 20)) 16000 (wm_11 (S := S) hW) (wk_11 (S := S) hW) (wl_11 (S := S) hW) a1 200 (!false) Ph hPh9 (by omega) (by omega) (by omega)) (M.rm (by decide) (by decide) (Nat.le_of_ble_eq_true rfl) (Nat.le_of_ble_eq_true rfl)) rfl rfl (Nat.le_of_ble_eq_true rfl) dX6_writeRow_182 (fun r_17 S_18 hp_19 => ?_)
  obtain ⟨rfl, e_20⟩ := hp_19
  refine J.eq (S' := S) (st' := [.int (nI (fo Ph a1 200 (!false)))]) (lv' := [(13, .int (nI a1 - nI b1 + 3)), (12, .int (nI b2)), (11, .int (nI b1)), (10, .int (nI a1)), (9, .int 0), (0, .ref (ad 5)), (1, .ref (ad 11)), (2, .int (nI y9)), (3, .int 200), (4, .int (nI (y9 * 20))), (5, .int ra), (6, .int (-1)), (7, .int (cI false)), (8, .int (nI tu))]) e_20 rfl rfl ?_
  refine J.eq (st' := .int (nI a2) :: []) rfl rfl (congrArg (fun z9 => Value.int z9 :: []) (congrArg nI (by first | exact e4))) ?_
  refine j_istore (lv' := [(14, .int (nI a2)), (13, .int (nI a1 - nI b1 + 3)), (12, .int (nI b2)), (11, .int (nI b1)), (10, .int (nI a1)), (9, .int 0), (0, .ref (ad 5)), (1, .ref (ad 11)), (2, .int (nI y9)), (3, .int 200), (4, .int (nI (y9 * 20))), (5, .int ra), (6, .int (-1)), (7, .int (cI false)), (8, .int (nI tu))]) C dX6_writeRow_185 (by rw [hn9]; decide) rfl ?_
  refine j_aload_n C dX6_writeRow_187 rfl 6 rfl ?_
  refine j_iconst (v := 1) C dX6_writeRow_188 (by decide) ?_
  refine j_iconst (v := 3) C dX6_writeRow_189 (by decide) ?_
  show J _ _ _ _ _ 190 _
  refine j_callV (ci := 6) C [.int 1, .int 3] [] mlX6_80 mcX6_putBits (c_pb S ad hW 1 3 tb hi601 hi609 (by omega) (by omega)) (wm_5 (S := S) hW) (wk_5 (S := S) hW) rfl (M.rm (by decide) (by decide) (Nat.le_of_ble_eq_true rfl) (Nat.le_of_ble_eq_true rfl)) rfl rfl (Nat.le_of_ble_eq_true rfl) dX6_writeRow_190 (fun r_23 S_24 hp_25 => ?_)
  obtain ⟨rfl, hf_26, e_21, e_22⟩ := hp_25
  refine J.eq (st' := []) rfl rfl rfl ?_
  have hf_27 : Fm (fun f9 b9 => (f9 = 601 ∧ b9 = (ad 5)) ∨ (f9 = 608 ∧ b9 = (ad 5)) ∨ (f9 = 609 ∧ b9 = (ad 5))) (fun _ _ => False) (fun b9 => b9 = (ad 7)) S0 S_24 := hF.then hf_26 (fun a9 ha9 => ⟨(fun f9 h9 => (fun h9 => h9.elim (fun h8 => (Or.inl h8)) (fun h9 => h9.elim (fun h8 => (Or.inr (Or.inl h8))) (fun h8 => (Or.inr (Or.inr h8))))) h9), (fun f9 h9 => h9.elim), (fun h9 => (fun h8 => h8) h9)⟩)
  have hW_28 : Wd ad S_24 := hW.fm hf_26 (by intro _ _ h9; exact h9) (by intro p9 hp9; simp only [wqL, List.mem_cons, List.not_mem_nil, or_false] at hp9; rcases hp9 with rfl | rfl <;> intro h9 <;> skip <;> exact absurd h9 (wn hW (by decide) (by decide) (by decide)))
  have hx_29 : aI S_24 (ad 11) = D := by
    have e0_9 : (aI S_24 (ad 11)) = (aI S (ad 11)) := funext fun j9 => hf_26.ai (wm_11 (S := S) hW) (fun q9 => (wn (S := S) hW (i := 11) (j := 7) (by decide) (by decide) (by decide)) q9) j9
    first | (rw [e0_9]; exact hD) | rw [e0_9]
  refine j_aload_n C dX6_writeRow_193 rfl 6 rfl ?_
  refine j_iload C dX6_writeRow_194 4 rfl ?_
  refine j_iload C dX6_writeRow_196 5 rfl ?_
  refine j_isub (v := nI (a1 - 0)) C dX6_writeRow_198 (pk_sub (a := a1) (b := 0) (by omega)) ?_
  refine j_iload C dX6_writeRow_199 13 rfl ?_
  refine j_callV (ci := 6) C [.int (nI (a1 - 0)), .int (cI false)] [] mlX6_117 mcX6_putRun (c_pr S_24 ad hW_28 (a1 - 0) false (tb + 3) e_21 e_22 (by omega) (by omega)) (wm_5 (S := S_24) hW_28) (wk_5 (S := S_24) hW_28) rfl (M.rm (by decide) (by decide) (Nat.le_of_ble_eq_true rfl) (Nat.le_of_ble_eq_true rfl)) rfl rfl (Nat.le_of_ble_eq_true rfl) dX6_writeRow_201 (fun r_32 S_33 hp_34 => ?_)
  obtain ⟨rfl, hf_35, e_30, e_31⟩ := hp_34
  refine J.eq (st' := []) rfl rfl rfl ?_
  have hf_36 : Fm (fun f9 b9 => (f9 = 601 ∧ b9 = (ad 5)) ∨ (f9 = 608 ∧ b9 = (ad 5)) ∨ (f9 = 609 ∧ b9 = (ad 5))) (fun _ _ => False) (fun b9 => b9 = (ad 7)) S0 S_33 := hf_27.then hf_35 (fun a9 ha9 => ⟨(fun f9 h9 => (fun h9 => h9.elim (fun h8 => (Or.inl h8)) (fun h9 => h9.elim (fun h8 => (Or.inr (Or.inl h8))) (fun h8 => (Or.inr (Or.inr h8))))) h9), (fun f9 h9 => h9.elim), (fun h9 => (fun h8 => h8) h9)⟩)
  have hW_37 : Wd ad S_33 := hW_28.fm hf_35 (by intro _ _ h9; exact h9) (by intro p9 hp9; simp only [wqL, List.mem_cons, List.not_mem_nil, or_false] at hp9; rcases hp9 with rfl | rfl <;> intro h9 <;> skip <;> exact absurd h9 (wn hW_28 (by decide) (by decide) (by decide)))
  have hx_38 : aI S_33 (ad 11) = D := by
    have e0_9 : (aI S_33 (ad 11)) = (aI S_24 (ad 11)) := funext fun j9 => hf_35.ai (wm_11 (S := S_24) hW_28) (fun q9 => (wn (S := S_24) hW_28 (i := 11) (j := 7) (by decide) (by decide) (by decide)) q9) j9
    first | (rw [e0_9]; exact hx_29) | rw [e0_9]
  refine j_aload_n C dX6_writeRow_204 rfl 6 rfl ?_
  show J _ _ _ _ _ 205 _
  refine j_iload C dX6_writeRow_205 0 rfl ?_
  refine j_iload C dX6_writeRow_207 4 rfl ?_
  refine j_isub (v := nI (a2 - a1)) C dX6_writeRow_209 (pk_sub (a := a2) (b := a1) (by omega)) ?_
  refine j_iconst (v := 1) C dX6_writeRow_210 (by decide) ?_
  refine j_iload C dX6_writeRow_211 13 rfl ?_
  refine j_isub (v := cI (!false)) C dX6_writeRow_213 (cI_not false) ?_
  refine j_callV (ci := 6) C [.int (nI (a2 - a1)), .int (cI (!false))] [] mlX6_117 mcX6_putRun (c_pr S_33 ad hW_37 (a2 - a1) (!false) ((tb + 3) + runB false (a1 - 0)) e_30 e_31 (by omega) (by omega)) (wm_5 (S := S_33) hW_37) (wk_5 (S := S_33) hW_37) rfl (M.rm (by decide) (by decide) (Nat.le_of_ble_eq_true rfl) (Nat.le_of_ble_eq_true rfl)) rfl rfl (Nat.le_of_ble_eq_true rfl) dX6_writeRow_214 (fun r_41 S_42 hp_43 => ?_)
  obtain ⟨rfl, hf_44, e_39, e_40⟩ := hp_43
  refine J.eq (st' := []) rfl rfl rfl ?_
  have hf_45 : Fm (fun f9 b9 => (f9 = 601 ∧ b9 = (ad 5)) ∨ (f9 = 608 ∧ b9 = (ad 5)) ∨ (f9 = 609 ∧ b9 = (ad 5))) (fun _ _ => False) (fun b9 => b9 = (ad 7)) S0 S_42 := hf_36.then hf_44 (fun a9 ha9 => ⟨(fun f9 h9 => (fun h9 => h9.elim (fun h8 => (Or.inl h8)) (fun h9 => h9.elim (fun h8 => (Or.inr (Or.inl h8))) (fun h8 => (Or.inr (Or.inr h8))))) h9), (fun f9 h9 => h9.elim), (fun h9 => (fun h8 => h8) h9)⟩)
  have hW_46 : Wd ad S_42 := hW_37.fm hf_44 (by intro _ _ h9; exact h9) (by intro p9 hp9; simp only [wqL, List.mem_cons, List.not_mem_nil, or_false] at hp9; rcases hp9 with rfl | rfl <;> intro h9 <;> skip <;> exact absurd h9 (wn hW_37 (by decide) (by decide) (by decide)))
  have hx_47 : aI S_42 (ad 11) = D := by
    have e0_9 : (aI S_42 (ad 11)) = (aI S_33 (ad 11)) := funext fun j9 => hf_44.ai (wm_11 (S := S_33) hW_37) (fun q9 => (wn (S := S_33) hW_37 (i := 11) (j := 7) (by decide) (by decide) (by decide)) q9) j9
    first | (rw [e0_9]; exact hx_38) | rw [e0_9]
  refine j_iload C dX6_writeRow_217 0 rfl ?_
  show J _ _ _ _ _ 219 _
  refine j_istore (lv' := [(6, .int (nI a2)), (14, .int (nI a2)), (13, .int (nI a1 - nI b1 + 3)), (12, .int (nI b2)), (11, .int (nI b1)), (10, .int (nI a1)), (9, .int 0), (0, .ref (ad 5)), (1, .ref (ad 11)), (2, .int (nI y9)), (3, .int 200), (4, .int (nI (y9 * 20))), (5, .int ra), (7, .int (cI false)), (8, .int (nI tu))]) C dX6_writeRow_219 (by rw [hn9]; decide) rfl ?_
  refine j_iinc (q := 14) (v := nI (tu + 1)) (lv' := [(8, .int (nI (tu + 1))), (6, .int (nI a2)), (14, .int (nI a2)), (13, .int (nI a1 - nI b1 + 3)), (12, .int (nI b2)), (11, .int (nI b1)), (10, .int (nI a1)), (9, .int 0), (0, .ref (ad 5)), (1, .ref (ad 11)), (2, .int (nI y9)), (3, .int 200), (4, .int (nI (y9 * 20))), (5, .int ra), (7, .int (cI false))]) C dX6_writeRow_221 rfl (nI_add tu 1) (by rw [hn9]; decide) rfl ?_
  refine j_goto (tgt := 30) C dX6_writeRow_224 (by decide) ?_
  refine J.sub [8, 9, 10, 11, 12, 13, 1, 14, 0] (lv' := [(0, .ref (ad 5)), (1, .ref (ad 11)), (2, .int (nI y9)), (3, .int 200), (4, .int (nI (y9 * 20))), (5, .int ra), (6, .int (nI a2)), (7, .int (cI false)), (8, .int (nI (tu + 1)))]) (by rfl) ?_
  exact K S_42 ⟨hW_46, hf_45, e_39, e_40, hx_47⟩

set_option maxRecDepth 100000 in
set_option maxHeartbeats 4000000 in
theorem rt_fH {x : JX} {Q : Option Value → Hp → Prop} {S0 : Hp} (C : CB x RX6 cX6_writeRow) (M : CM x 5 0 0 none S0 Q) (hn9 : x_n x = 15) (ad : Nat → Nat) (S : Hp) (D : Nat → Int32) (tb y9 tu : Nat) (ra : Int32) (Ph Pa : Nat → Bool) (hy : y9 < 240) (hPh : RP D (nI (y9 * 20)) Ph 200 16000) (hPa : RP D ra Pa 200 16000) (a1 b1 b2 : Nat) (e1 : fo Ph 0 200 false = a1) (e2 : fch Pa false 0 200 = b1) (e3 : fo Pa b1 200 (!false) = b2) (jn a2 : Nat) (e4 : fo Ph a1 200 (!false) = a2) (hc : a1 ≤ b2) (hj : a1 + 3 = b1 + jn) (hj7 : 7 ≤ jn) (hb1 : b1 ≤ 200) (hb2 : b2 ≤ 200) (ha1 : a1 ≤ 200) (hf : 0 ≤ a1) (ha2 : a1 ≤ a2) (ha3 : a2 ≤ 200) (htu : tu ≤ 200) (h9 : SF ad S0 S D tb) (ht : tb + 3 + runB false (a1 - 0) + runB (!false) (a2 - a1) < 480000) (K : ∀ S' : Hp, SF ad S0 S' D (tb + 3 + runB false (a1 - 0) + runB (!false) (a2 - a1)) → J x 0 0 S' [(0, .ref (ad 5)), (1, .ref (ad 11)), (2, .int (nI y9)), (3, .int 200), (4, .int (nI (y9 * 20))), (5, .int ra), (6, .int (nI a2)), (7, .int (cI false)), (8, .int (nI (tu + 1)))] 30 []) : J x 0 0 S [(0, .ref (ad 5)), (1, .ref (ad 11)), (2, .int (nI y9)), (3, .int 200), (4, .int (nI (y9 * 20))), (5, .int ra), (6, .int (-1)), (7, .int (cI false)), (8, .int (nI tu))] 30 [] := by
  obtain ⟨hW, hF, hi601, hi609, hD⟩ := h9
  have hPh9 : RP (aI S (ad 11)) (nI (y9 * 20)) Ph 200 16000 := by rw [hD]; exact hPh
  have hPa9 : RP (aI S (ad 11)) ra Pa 200 16000 := by rw [hD]; exact hPa
  refine j_iload C dX6_writeRow_30 8 rfl ?_
  refine j_iload_n C dX6_writeRow_32 rfl 3 rfl ?_
  refine j_ic_gt (tgt := 227) C dX6_writeRow_33 (by decide) (fun c_33 => absurd c_33 (nI_nlt (a := 200) (b := tu) htu (by decide))) (fun c_33 => ?_)
  refine j_iload C dX6_writeRow_36 6 rfl ?_
  refine j_iload_n C dX6_writeRow_38 rfl 3 rfl ?_
  refine j_ic_ge (tgt := 227) C dX6_writeRow_39 (by decide) (fun c9 => absurd c9 (by decide)) (fun c9 => ?_)
  refine j_iload C dX6_writeRow_42 6 rfl ?_
  refine j_iconst (v := 0) C dX6_writeRow_44 (by decide) ?_
  show J _ _ _ _ _ 45 _
  refine j_callS C [.int (-1), .int 0] [] mlX6_55 mcJ9_max_7cf53 (c_J9_max_7cf53 S (-1) 0) (M.rm (by decide) (by decide) (Nat.le_of_ble_eq_true rfl) (Nat.le_of_ble_eq_true rfl)) rfl rfl (Nat.le_of_ble_eq_true rfl) dX6_writeRow_45 (fun r_1 S_2 hp_3 => ?_)
  obtain ⟨rfl, e_4⟩ := hp_3
  refine J.eq (S' := S) (st' := .int 0 :: []) (lv' := [(0, .ref (ad 5)), (1, .ref (ad 11)), (2, .int (nI y9)), (3, .int 200), (4, .int (nI (y9 * 20))), (5, .int ra), (6, .int (-1)), (7, .int (cI false)), (8, .int (nI tu))]) e_4 rfl (congrArg (fun z9 => Value.int z9 :: []) (by decide)) ?_
  refine J.eq (S' := S) (st' := [.int 0]) (lv' := [(0, .ref (ad 5)), (1, .ref (ad 11)), (2, .int (nI y9)), (3, .int 200), (4, .int (nI (y9 * 20))), (5, .int ra), (6, .int (-1)), (7, .int (cI false)), (8, .int (nI tu))]) rfl rfl rfl ?_
  refine j_istore (lv' := [(9, .int 0), (0, .ref (ad 5)), (1, .ref (ad 11)), (2, .int (nI y9)), (3, .int 200), (4, .int (nI (y9 * 20))), (5, .int ra), (6, .int (-1)), (7, .int (cI false)), (8, .int (nI tu))]) C dX6_writeRow_48 (by rw [hn9]; decide) rfl ?_
  refine j_aload_n C dX6_writeRow_50 rfl 2 rfl ?_
  refine j_iload C dX6_writeRow_51 5 rfl ?_
  refine j_iload C dX6_writeRow_53 0 rfl ?_
  refine j_iload_n C dX6_writeRow_55 rfl 4 rfl ?_
  refine j_iload C dX6_writeRow_56 8 rfl ?_
  refine j_callS C [.ref (ad 11), .int (nI (y9 * 20)), .int 0, .int 200, .int (cI false)] [] mlX6_104 mcX11_firstOther (c_fo S (ad 11) (nI (y9 * 20)) 16000 (wm_11 (S := S) hW) (wk_11 (S := S) hW) (wl_11 (S := S) hW) 0 200 false Ph hPh9 (by omega) (by omega) (by omega)) (M.rm (by decide) (by decide) (Nat.le_of_ble_eq_true rfl) (Nat.le_of_ble_eq_true rfl)) rfl rfl (Nat.le_of_ble_eq_true rfl) dX6_writeRow_58 (fun r_5 S_6 hp_7 => ?_)
  obtain ⟨rfl, e_8⟩ := hp_7
  refine J.eq (S' := S) (st' := [.int (nI (fo Ph 0 200 false))]) (lv' := [(9, .int 0), (0, .ref (ad 5)), (1, .ref (ad 11)), (2, .int (nI y9)), (3, .int 200), (4, .int (nI (y9 * 20))), (5, .int ra), (6, .int (-1)), (7, .int (cI false)), (8, .int (nI tu))]) e_8 rfl rfl ?_
  show J _ _ _ _ _ 61 _
  refine J.eq (st' := .int (nI a1) :: []) rfl rfl (congrArg (fun z9 => Value.int z9 :: []) (congrArg nI e1)) ?_
  refine j_istore (lv' := [(10, .int (nI a1)), (9, .int 0), (0, .ref (ad 5)), (1, .ref (ad 11)), (2, .int (nI y9)), (3, .int 200), (4, .int (nI (y9 * 20))), (5, .int ra), (6, .int (-1)), (7, .int (cI false)), (8, .int (nI tu))]) C dX6_writeRow_61 (by rw [hn9]; decide) rfl ?_
  refine j_aload_n C dX6_writeRow_63 rfl 3 rfl ?_
  refine j_iload C dX6_writeRow_64 7 rfl ?_
  refine j_iload C dX6_writeRow_66 8 rfl ?_
  refine j_iload_n C dX6_writeRow_68 rfl 5 rfl ?_
  refine j_iload C dX6_writeRow_69 9 rfl ?_
  refine j_callS C [.ref (ad 11), .int ra, .int (-1), .int 200, .int (cI false)] [] mlX6_108 mcX11_firstChange (c_fc0 S (ad 11) ra 16000 (wm_11 (S := S) hW) (wk_11 (S := S) hW) (wl_11 (S := S) hW) 200 false Pa hPa9 (by omega) (by omega)) (M.rm (by decide) (by decide) (Nat.le_of_ble_eq_true rfl) (Nat.le_of_ble_eq_true rfl)) rfl rfl (Nat.le_of_ble_eq_true rfl) dX6_writeRow_71 (fun r_9 S_10 hp_11 => ?_)
  obtain ⟨rfl, e_12⟩ := hp_11
  refine J.eq (S' := S) (st' := [.int (nI (fch Pa false 0 200))]) (lv' := [(10, .int (nI a1)), (9, .int 0), (0, .ref (ad 5)), (1, .ref (ad 11)), (2, .int (nI y9)), (3, .int 200), (4, .int (nI (y9 * 20))), (5, .int ra), (6, .int (-1)), (7, .int (cI false)), (8, .int (nI tu))]) e_12 rfl rfl ?_
  refine J.eq (st' := .int (nI b1) :: []) rfl rfl (congrArg (fun z9 => Value.int z9 :: []) (congrArg nI e2)) ?_
  refine j_istore (lv' := [(11, .int (nI b1)), (10, .int (nI a1)), (9, .int 0), (0, .ref (ad 5)), (1, .ref (ad 11)), (2, .int (nI y9)), (3, .int 200), (4, .int (nI (y9 * 20))), (5, .int ra), (6, .int (-1)), (7, .int (cI false)), (8, .int (nI tu))]) C dX6_writeRow_74 (by rw [hn9]; decide) rfl ?_
  show J _ _ _ _ _ 76 _
  refine j_aload_n C dX6_writeRow_76 rfl 4 rfl ?_
  refine j_iload C dX6_writeRow_77 8 rfl ?_
  refine j_iload C dX6_writeRow_79 0 rfl ?_
  refine j_iload_n C dX6_writeRow_81 rfl 6 rfl ?_
  refine j_iconst (v := 1) C dX6_writeRow_82 (by decide) ?_
  refine j_iload C dX6_writeRow_83 10 rfl ?_
  refine j_isub (v := cI (!false)) C dX6_writeRow_85 (cI_not false) ?_
  refine j_callS C [.ref (ad 11), .int ra, .int (nI b1), .int 200, .int (cI (!false))] [] mlX6_104 mcX11_firstOther (c_fo S (ad 11) ra 16000 (wm_11 (S := S) hW) (wk_11 (S := S) hW) (wl_11 (S := S) hW) b1 200 (!false) Pa hPa9 (by omega) (by omega) (by omega)) (M.rm (by decide) (by decide) (Nat.le_of_ble_eq_true rfl) (Nat.le_of_ble_eq_true rfl)) rfl rfl (Nat.le_of_ble_eq_true rfl) dX6_writeRow_86 (fun r_13 S_14 hp_15 => ?_)
  obtain ⟨rfl, e_16⟩ := hp_15
  refine J.eq (S' := S) (st' := [.int (nI (fo Pa b1 200 (!false)))]) (lv' := [(11, .int (nI b1)), (10, .int (nI a1)), (9, .int 0), (0, .ref (ad 5)), (1, .ref (ad 11)), (2, .int (nI y9)), (3, .int 200), (4, .int (nI (y9 * 20))), (5, .int ra), (6, .int (-1)), (7, .int (cI false)), (8, .int (nI tu))]) e_16 rfl rfl ?_
  show J _ _ _ _ _ 89 _
  refine J.eq (st' := .int (nI b2) :: []) rfl rfl (congrArg (fun z9 => Value.int z9 :: []) (congrArg nI e3)) ?_
  refine j_istore (lv' := [(12, .int (nI b2)), (11, .int (nI b1)), (10, .int (nI a1)), (9, .int 0), (0, .ref (ad 5)), (1, .ref (ad 11)), (2, .int (nI y9)), (3, .int 200), (4, .int (nI (y9 * 20))), (5, .int ra), (6, .int (-1)), (7, .int (cI false)), (8, .int (nI tu))]) C dX6_writeRow_89 (by rw [hn9]; decide) rfl ?_
  refine j_iload C dX6_writeRow_91 2 rfl ?_
  refine j_iload C dX6_writeRow_93 1 rfl ?_
  refine j_isub (v := (nI a1 - nI b1)) C dX6_writeRow_95 rfl ?_
  refine j_iconst (v := 3) C dX6_writeRow_96 (by decide) ?_
  refine j_iadd (v := nI jn) C dX6_writeRow_97 (near_eq hj (by omega) (by omega) (by omega)) ?_
  refine j_istore (lv' := [(13, .int (nI jn)), (12, .int (nI b2)), (11, .int (nI b1)), (10, .int (nI a1)), (9, .int 0), (0, .ref (ad 5)), (1, .ref (ad 11)), (2, .int (nI y9)), (3, .int 200), (4, .int (nI (y9 * 20))), (5, .int ra), (6, .int (-1)), (7, .int (cI false)), (8, .int (nI tu))]) C dX6_writeRow_98 (by rw [hn9]; decide) rfl ?_
  refine j_iload C dX6_writeRow_100 1 rfl ?_
  show J _ _ _ _ _ 102 _
  refine j_iload C dX6_writeRow_102 3 rfl ?_
  refine j_ic_ge (tgt := 120) C dX6_writeRow_104 (by decide) (fun c_104 => ?_) (fun c_104 => absurd (nI_le hc (by omega)) c_104)
  refine j_iload C dX6_writeRow_120 0 rfl ?_
  refine j_if_lt (tgt := 172) C dX6_writeRow_122 (by decide) (fun c_122 => absurd c_122 (nI_pos (by omega))) (fun c_122 => ?_)
  refine j_iload C dX6_writeRow_125 0 rfl ?_
  refine j_gets C 5 rfl (Or.inr ⟨_, gsX6_111⟩) dX6_writeRow_127 ?_
  refine j_stlen (v := 7) C 5 rfl dX6_writeRow_130 (by decide) ?_
  refine j_ic_ge (tgt := 172) C dX6_writeRow_131 (by decide) (fun c_131 => ?_) (fun c_131 => absurd (nI_le (a := 7) hj7 (by omega)) c_131)
  show J _ _ _ _ _ 172 _
  refine j_aload_n C dX6_writeRow_172 rfl 6 rfl ?_
  refine j_iload C dX6_writeRow_173 9 rfl ?_
  refine j_iload C dX6_writeRow_175 3 rfl ?_
  refine j_iload_n C dX6_writeRow_177 rfl 8 rfl ?_
  refine j_iconst (v := 1) C dX6_writeRow_178 (by decide) ?_
  refine j_iload C dX6_writeRow_179 12 rfl ?_
  refine j_isub (v := cI (!false)) C dX6_writeRow_181 (cI_not false) ?_
  refine j_callS C [.ref (ad 11), .int (nI (y9 * 20)), .int (nI a1), .int 200, .int (cI (!false))] [] mlX6_104 mcX11_firstOther (c_fo S (ad 11) (nI (y9 * 20)) 16000 (wm_11 (S := S) hW) (wk_11 (S := S) hW) (wl_11 (S := S) hW) a1 200 (!false) Ph hPh9 (by omega) (by omega) (by omega)) (M.rm (by decide) (by decide) (Nat.le_of_ble_eq_true rfl) (Nat.le_of_ble_eq_true rfl)) rfl rfl (Nat.le_of_ble_eq_true rfl) dX6_writeRow_182 (fun r_17 S_18 hp_19 => ?_)
  obtain ⟨rfl, e_20⟩ := hp_19
  refine J.eq (S' := S) (st' := [.int (nI (fo Ph a1 200 (!false)))]) (lv' := [(13, .int (nI jn)), (12, .int (nI b2)), (11, .int (nI b1)), (10, .int (nI a1)), (9, .int 0), (0, .ref (ad 5)), (1, .ref (ad 11)), (2, .int (nI y9)), (3, .int 200), (4, .int (nI (y9 * 20))), (5, .int ra), (6, .int (-1)), (7, .int (cI false)), (8, .int (nI tu))]) e_20 rfl rfl ?_
  show J _ _ _ _ _ 185 _
  refine J.eq (st' := .int (nI a2) :: []) rfl rfl (congrArg (fun z9 => Value.int z9 :: []) (congrArg nI (by first | exact e4))) ?_
  refine j_istore (lv' := [(14, .int (nI a2)), (13, .int (nI jn)), (12, .int (nI b2)), (11, .int (nI b1)), (10, .int (nI a1)), (9, .int 0), (0, .ref (ad 5)), (1, .ref (ad 11)), (2, .int (nI y9)), (3, .int 200), (4, .int (nI (y9 * 20))), (5, .int ra), (6, .int (-1)), (7, .int (cI false)), (8, .int (nI tu))]) C dX6_writeRow_185 (by rw [hn9]; decide) rfl ?_
  refine j_aload_n C dX6_writeRow_187 rfl 6 rfl ?_
  refine j_iconst (v := 1) C dX6_writeRow_188 (by decide) ?_
  refine j_iconst (v := 3) C dX6_writeRow_189 (by decide) ?_
  refine j_callV (ci := 6) C [.int 1, .int 3] [] mlX6_80 mcX6_putBits (c_pb S ad hW 1 3 tb hi601 hi609 (by omega) (by omega)) (wm_5 (S := S) hW) (wk_5 (S := S) hW) rfl (M.rm (by decide) (by decide) (Nat.le_of_ble_eq_true rfl) (Nat.le_of_ble_eq_true rfl)) rfl rfl (Nat.le_of_ble_eq_true rfl) dX6_writeRow_190 (fun r_23 S_24 hp_25 => ?_)
  obtain ⟨rfl, hf_26, e_21, e_22⟩ := hp_25
  refine J.eq (st' := []) rfl rfl rfl ?_
  have hf_27 : Fm (fun f9 b9 => (f9 = 601 ∧ b9 = (ad 5)) ∨ (f9 = 608 ∧ b9 = (ad 5)) ∨ (f9 = 609 ∧ b9 = (ad 5))) (fun _ _ => False) (fun b9 => b9 = (ad 7)) S0 S_24 := hF.then hf_26 (fun a9 ha9 => ⟨(fun f9 h9 => (fun h9 => h9.elim (fun h8 => (Or.inl h8)) (fun h9 => h9.elim (fun h8 => (Or.inr (Or.inl h8))) (fun h8 => (Or.inr (Or.inr h8))))) h9), (fun f9 h9 => h9.elim), (fun h9 => (fun h8 => h8) h9)⟩)
  have hW_28 : Wd ad S_24 := hW.fm hf_26 (by intro _ _ h9; exact h9) (by intro p9 hp9; simp only [wqL, List.mem_cons, List.not_mem_nil, or_false] at hp9; rcases hp9 with rfl | rfl <;> intro h9 <;> skip <;> exact absurd h9 (wn hW (by decide) (by decide) (by decide)))
  have hx_29 : aI S_24 (ad 11) = D := by
    have e0_9 : (aI S_24 (ad 11)) = (aI S (ad 11)) := funext fun j9 => hf_26.ai (wm_11 (S := S) hW) (fun q9 => (wn (S := S) hW (i := 11) (j := 7) (by decide) (by decide) (by decide)) q9) j9
    first | (rw [e0_9]; exact hD) | rw [e0_9]
  refine j_aload_n C dX6_writeRow_193 rfl 6 rfl ?_
  refine j_iload C dX6_writeRow_194 4 rfl ?_
  refine j_iload C dX6_writeRow_196 5 rfl ?_
  show J _ _ _ _ _ 198 _
  refine j_isub (v := nI (a1 - 0)) C dX6_writeRow_198 (pk_sub (a := a1) (b := 0) (by omega)) ?_
  refine j_iload C dX6_writeRow_199 13 rfl ?_
  refine j_callV (ci := 6) C [.int (nI (a1 - 0)), .int (cI false)] [] mlX6_117 mcX6_putRun (c_pr S_24 ad hW_28 (a1 - 0) false (tb + 3) e_21 e_22 (by omega) (by omega)) (wm_5 (S := S_24) hW_28) (wk_5 (S := S_24) hW_28) rfl (M.rm (by decide) (by decide) (Nat.le_of_ble_eq_true rfl) (Nat.le_of_ble_eq_true rfl)) rfl rfl (Nat.le_of_ble_eq_true rfl) dX6_writeRow_201 (fun r_32 S_33 hp_34 => ?_)
  obtain ⟨rfl, hf_35, e_30, e_31⟩ := hp_34
  refine J.eq (st' := []) rfl rfl rfl ?_
  have hf_36 : Fm (fun f9 b9 => (f9 = 601 ∧ b9 = (ad 5)) ∨ (f9 = 608 ∧ b9 = (ad 5)) ∨ (f9 = 609 ∧ b9 = (ad 5))) (fun _ _ => False) (fun b9 => b9 = (ad 7)) S0 S_33 := hf_27.then hf_35 (fun a9 ha9 => ⟨(fun f9 h9 => (fun h9 => h9.elim (fun h8 => (Or.inl h8)) (fun h9 => h9.elim (fun h8 => (Or.inr (Or.inl h8))) (fun h8 => (Or.inr (Or.inr h8))))) h9), (fun f9 h9 => h9.elim), (fun h9 => (fun h8 => h8) h9)⟩)
  have hW_37 : Wd ad S_33 := hW_28.fm hf_35 (by intro _ _ h9; exact h9) (by intro p9 hp9; simp only [wqL, List.mem_cons, List.not_mem_nil, or_false] at hp9; rcases hp9 with rfl | rfl <;> intro h9 <;> skip <;> exact absurd h9 (wn hW_28 (by decide) (by decide) (by decide)))
  have hx_38 : aI S_33 (ad 11) = D := by
    have e0_9 : (aI S_33 (ad 11)) = (aI S_24 (ad 11)) := funext fun j9 => hf_35.ai (wm_11 (S := S_24) hW_28) (fun q9 => (wn (S := S_24) hW_28 (i := 11) (j := 7) (by decide) (by decide) (by decide)) q9) j9
    first | (rw [e0_9]; exact hx_29) | rw [e0_9]
  refine j_aload_n C dX6_writeRow_204 rfl 6 rfl ?_
  refine j_iload C dX6_writeRow_205 0 rfl ?_
  refine j_iload C dX6_writeRow_207 4 rfl ?_
  refine j_isub (v := nI (a2 - a1)) C dX6_writeRow_209 (pk_sub (a := a2) (b := a1) (by omega)) ?_
  refine j_iconst (v := 1) C dX6_writeRow_210 (by decide) ?_
  show J _ _ _ _ _ 211 _
  refine j_iload C dX6_writeRow_211 13 rfl ?_
  refine j_isub (v := cI (!false)) C dX6_writeRow_213 (cI_not false) ?_
  refine j_callV (ci := 6) C [.int (nI (a2 - a1)), .int (cI (!false))] [] mlX6_117 mcX6_putRun (c_pr S_33 ad hW_37 (a2 - a1) (!false) ((tb + 3) + runB false (a1 - 0)) e_30 e_31 (by omega) (by omega)) (wm_5 (S := S_33) hW_37) (wk_5 (S := S_33) hW_37) rfl (M.rm (by decide) (by decide) (Nat.le_of_ble_eq_true rfl) (Nat.le_of_ble_eq_true rfl)) rfl rfl (Nat.le_of_ble_eq_true rfl) dX6_writeRow_214 (fun r_41 S_42 hp_43 => ?_)
  obtain ⟨rfl, hf_44, e_39, e_40⟩ := hp_43
  refine J.eq (st' := []) rfl rfl rfl ?_
  have hf_45 : Fm (fun f9 b9 => (f9 = 601 ∧ b9 = (ad 5)) ∨ (f9 = 608 ∧ b9 = (ad 5)) ∨ (f9 = 609 ∧ b9 = (ad 5))) (fun _ _ => False) (fun b9 => b9 = (ad 7)) S0 S_42 := hf_36.then hf_44 (fun a9 ha9 => ⟨(fun f9 h9 => (fun h9 => h9.elim (fun h8 => (Or.inl h8)) (fun h9 => h9.elim (fun h8 => (Or.inr (Or.inl h8))) (fun h8 => (Or.inr (Or.inr h8))))) h9), (fun f9 h9 => h9.elim), (fun h9 => (fun h8 => h8) h9)⟩)
  have hW_46 : Wd ad S_42 := hW_37.fm hf_44 (by intro _ _ h9; exact h9) (by intro p9 hp9; simp only [wqL, List.mem_cons, List.not_mem_nil, or_false] at hp9; rcases hp9 with rfl | rfl <;> intro h9 <;> skip <;> exact absurd h9 (wn hW_37 (by decide) (by decide) (by decide)))
  have hx_47 : aI S_42 (ad 11) = D := by
    have e0_9 : (aI S_42 (ad 11)) = (aI S_33 (ad 11)) := funext fun j9 => hf_44.ai (wm_11 (S := S_33) hW_37) (fun q9 => (wn (S := S_33) hW_37 (i := 11) (j := 7) (by decide) (by decide) (by decide)) q9) j9
    first | (rw [e0_9]; exact hx_38) | rw [e0_9]
  refine j_iload C dX6_writeRow_217 0 rfl ?_
  refine j_istore (lv' := [(6, .int (nI a2)), (14, .int (nI a2)), (13, .int (nI jn)), (12, .int (nI b2)), (11, .int (nI b1)), (10, .int (nI a1)), (9, .int 0), (0, .ref (ad 5)), (1, .ref (ad 11)), (2, .int (nI y9)), (3, .int 200), (4, .int (nI (y9 * 20))), (5, .int ra), (7, .int (cI false)), (8, .int (nI tu))]) C dX6_writeRow_219 (by rw [hn9]; decide) rfl ?_
  refine j_iinc (q := 14) (v := nI (tu + 1)) (lv' := [(8, .int (nI (tu + 1))), (6, .int (nI a2)), (14, .int (nI a2)), (13, .int (nI jn)), (12, .int (nI b2)), (11, .int (nI b1)), (10, .int (nI a1)), (9, .int 0), (0, .ref (ad 5)), (1, .ref (ad 11)), (2, .int (nI y9)), (3, .int 200), (4, .int (nI (y9 * 20))), (5, .int ra), (7, .int (cI false))]) C dX6_writeRow_221 rfl (nI_add tu 1) (by rw [hn9]; decide) rfl ?_
  refine j_goto (tgt := 30) C dX6_writeRow_224 (by decide) ?_
  refine J.sub [8, 9, 10, 11, 12, 13, 1, 14, 0] (lv' := [(0, .ref (ad 5)), (1, .ref (ad 11)), (2, .int (nI y9)), (3, .int 200), (4, .int (nI (y9 * 20))), (5, .int ra), (6, .int (nI a2)), (7, .int (cI false)), (8, .int (nI (tu + 1)))]) (by rfl) ?_
  exact K S_42 ⟨hW_46, hf_45, e_39, e_40, hx_47⟩

set_option maxRecDepth 100000 in
set_option maxHeartbeats 4000000 in
theorem rt_nP {x : JX} {Q : Option Value → Hp → Prop} {S0 : Hp} (C : CB x RX6 cX6_writeRow) (M : CM x 5 0 0 none S0 Q) (hn9 : x_n x = 15) (ad : Nat → Nat) (S : Hp) (D : Nat → Int32) (tb y9 tu : Nat) (ra : Int32) (Ph Pa : Nat → Bool) (hy : y9 < 240) (hPh : RP D (nI (y9 * 20)) Ph 200 16000) (hPa : RP D ra Pa 200 16000) (p9 : Nat) (c : Bool) (hp : p9 < 200) (a1 b1 b2 : Nat) (e1 : fo Ph p9 200 c = a1) (e2 : fch Pa c (p9 + 1) 200 = b1) (e3 : fo Pa b1 200 (!c) = b2) (hc : b2 < a1) (hb1 : b1 ≤ 200) (hb2 : b2 ≤ 200) (ha1 : a1 ≤ 200) (htu : tu ≤ 200) (h9 : SF ad S0 S D tb) (ht : tb + 4 < 480000) (K : ∀ S' : Hp, SF ad S0 S' D (tb + 4) → J x 0 0 S' [(0, .ref (ad 5)), (1, .ref (ad 11)), (2, .int (nI y9)), (3, .int 200), (4, .int (nI (y9 * 20))), (5, .int ra), (6, .int (nI b2)), (7, .int (cI c)), (8, .int (nI (tu + 1)))] 30 []) : J x 0 0 S [(0, .ref (ad 5)), (1, .ref (ad 11)), (2, .int (nI y9)), (3, .int 200), (4, .int (nI (y9 * 20))), (5, .int ra), (6, .int (nI p9)), (7, .int (cI c)), (8, .int (nI tu))] 30 [] := by
  obtain ⟨hW, hF, hi601, hi609, hD⟩ := h9
  have hPh9 : RP (aI S (ad 11)) (nI (y9 * 20)) Ph 200 16000 := by rw [hD]; exact hPh
  have hPa9 : RP (aI S (ad 11)) ra Pa 200 16000 := by rw [hD]; exact hPa
  refine j_iload C dX6_writeRow_30 8 rfl ?_
  refine j_iload_n C dX6_writeRow_32 rfl 3 rfl ?_
  refine j_ic_gt (tgt := 227) C dX6_writeRow_33 (by decide) (fun c_33 => absurd c_33 (nI_nlt (a := 200) (b := tu) htu (by decide))) (fun c_33 => ?_)
  refine j_iload C dX6_writeRow_36 6 rfl ?_
  refine j_iload_n C dX6_writeRow_38 rfl 3 rfl ?_
  refine j_ic_ge (tgt := 227) C dX6_writeRow_39 (by decide) (fun c_39 => absurd c_39 (nI_ge (b := 200) hp (by decide))) (fun c_39 => ?_)
  refine j_iload C dX6_writeRow_42 6 rfl ?_
  refine j_iconst (v := 0) C dX6_writeRow_44 (by decide) ?_
  show J _ _ _ _ _ 45 _
  refine j_callS C [.int (nI p9), .int 0] [] mlX6_55 mcJ9_max_7cf53 (c_maxn_1 S p9 0 (by omega) (by omega) (by omega)) (M.rm (by decide) (by decide) (Nat.le_of_ble_eq_true rfl) (Nat.le_of_ble_eq_true rfl)) rfl rfl (Nat.le_of_ble_eq_true rfl) dX6_writeRow_45 (fun r_1 S_2 hp_3 => ?_)
  obtain ⟨rfl, e_4⟩ := hp_3
  refine J.eq (S' := S) (st' := [.int (nI p9)]) (lv' := [(0, .ref (ad 5)), (1, .ref (ad 11)), (2, .int (nI y9)), (3, .int 200), (4, .int (nI (y9 * 20))), (5, .int ra), (6, .int (nI p9)), (7, .int (cI c)), (8, .int (nI tu))]) e_4 rfl rfl ?_
  refine j_istore (lv' := [(9, .int (nI p9)), (0, .ref (ad 5)), (1, .ref (ad 11)), (2, .int (nI y9)), (3, .int 200), (4, .int (nI (y9 * 20))), (5, .int ra), (6, .int (nI p9)), (7, .int (cI c)), (8, .int (nI tu))]) C dX6_writeRow_48 (by rw [hn9]; decide) rfl ?_
  refine j_aload_n C dX6_writeRow_50 rfl 2 rfl ?_
  refine j_iload C dX6_writeRow_51 5 rfl ?_
  refine j_iload C dX6_writeRow_53 0 rfl ?_
  refine j_iload_n C dX6_writeRow_55 rfl 4 rfl ?_
  refine j_iload C dX6_writeRow_56 8 rfl ?_
  refine j_callS C [.ref (ad 11), .int (nI (y9 * 20)), .int (nI p9), .int 200, .int (cI c)] [] mlX6_104 mcX11_firstOther (c_fo S (ad 11) (nI (y9 * 20)) 16000 (wm_11 (S := S) hW) (wk_11 (S := S) hW) (wl_11 (S := S) hW) p9 200 c Ph hPh9 (by omega) (by omega) (by omega)) (M.rm (by decide) (by decide) (Nat.le_of_ble_eq_true rfl) (Nat.le_of_ble_eq_true rfl)) rfl rfl (Nat.le_of_ble_eq_true rfl) dX6_writeRow_58 (fun r_5 S_6 hp_7 => ?_)
  obtain ⟨rfl, e_8⟩ := hp_7
  refine J.eq (S' := S) (st' := [.int (nI (fo Ph p9 200 c))]) (lv' := [(9, .int (nI p9)), (0, .ref (ad 5)), (1, .ref (ad 11)), (2, .int (nI y9)), (3, .int 200), (4, .int (nI (y9 * 20))), (5, .int ra), (6, .int (nI p9)), (7, .int (cI c)), (8, .int (nI tu))]) e_8 rfl rfl ?_
  show J _ _ _ _ _ 61 _
  refine J.eq (st' := .int (nI a1) :: []) rfl rfl (congrArg (fun z9 => Value.int z9 :: []) (congrArg nI e1)) ?_
  refine j_istore (lv' := [(10, .int (nI a1)), (9, .int (nI p9)), (0, .ref (ad 5)), (1, .ref (ad 11)), (2, .int (nI y9)), (3, .int 200), (4, .int (nI (y9 * 20))), (5, .int ra), (6, .int (nI p9)), (7, .int (cI c)), (8, .int (nI tu))]) C dX6_writeRow_61 (by rw [hn9]; decide) rfl ?_
  refine j_aload_n C dX6_writeRow_63 rfl 3 rfl ?_
  refine j_iload C dX6_writeRow_64 7 rfl ?_
  refine j_iload C dX6_writeRow_66 8 rfl ?_
  refine j_iload_n C dX6_writeRow_68 rfl 5 rfl ?_
  refine j_iload C dX6_writeRow_69 9 rfl ?_
  refine j_callS C [.ref (ad 11), .int ra, .int (nI p9), .int 200, .int (cI c)] [] mlX6_108 mcX11_firstChange (c_fc1 S (ad 11) ra 16000 (wm_11 (S := S) hW) (wk_11 (S := S) hW) (wl_11 (S := S) hW) 200 c Pa hPa9 (by omega) (by omega) p9 (by omega)) (M.rm (by decide) (by decide) (Nat.le_of_ble_eq_true rfl) (Nat.le_of_ble_eq_true rfl)) rfl rfl (Nat.le_of_ble_eq_true rfl) dX6_writeRow_71 (fun r_9 S_10 hp_11 => ?_)
  obtain ⟨rfl, e_12⟩ := hp_11
  refine J.eq (S' := S) (st' := [.int (nI (fch Pa c (p9 + 1) 200))]) (lv' := [(10, .int (nI a1)), (9, .int (nI p9)), (0, .ref (ad 5)), (1, .ref (ad 11)), (2, .int (nI y9)), (3, .int 200), (4, .int (nI (y9 * 20))), (5, .int ra), (6, .int (nI p9)), (7, .int (cI c)), (8, .int (nI tu))]) e_12 rfl rfl ?_
  refine J.eq (st' := .int (nI b1) :: []) rfl rfl (congrArg (fun z9 => Value.int z9 :: []) (congrArg nI e2)) ?_
  refine j_istore (lv' := [(11, .int (nI b1)), (10, .int (nI a1)), (9, .int (nI p9)), (0, .ref (ad 5)), (1, .ref (ad 11)), (2, .int (nI y9)), (3, .int 200), (4, .int (nI (y9 * 20))), (5, .int ra), (6, .int (nI p9)), (7, .int (cI c)), (8, .int (nI tu))]) C dX6_writeRow_74 (by rw [hn9]; decide) rfl ?_
  show J _ _ _ _ _ 76 _
  refine j_aload_n C dX6_writeRow_76 rfl 4 rfl ?_
  refine j_iload C dX6_writeRow_77 8 rfl ?_
  refine j_iload C dX6_writeRow_79 0 rfl ?_
  refine j_iload_n C dX6_writeRow_81 rfl 6 rfl ?_
  refine j_iconst (v := 1) C dX6_writeRow_82 (by decide) ?_
  refine j_iload C dX6_writeRow_83 10 rfl ?_
  refine j_isub (v := cI (!c)) C dX6_writeRow_85 (cI_not c) ?_
  refine j_callS C [.ref (ad 11), .int ra, .int (nI b1), .int 200, .int (cI (!c))] [] mlX6_104 mcX11_firstOther (c_fo S (ad 11) ra 16000 (wm_11 (S := S) hW) (wk_11 (S := S) hW) (wl_11 (S := S) hW) b1 200 (!c) Pa hPa9 (by omega) (by omega) (by omega)) (M.rm (by decide) (by decide) (Nat.le_of_ble_eq_true rfl) (Nat.le_of_ble_eq_true rfl)) rfl rfl (Nat.le_of_ble_eq_true rfl) dX6_writeRow_86 (fun r_13 S_14 hp_15 => ?_)
  obtain ⟨rfl, e_16⟩ := hp_15
  refine J.eq (S' := S) (st' := [.int (nI (fo Pa b1 200 (!c)))]) (lv' := [(11, .int (nI b1)), (10, .int (nI a1)), (9, .int (nI p9)), (0, .ref (ad 5)), (1, .ref (ad 11)), (2, .int (nI y9)), (3, .int 200), (4, .int (nI (y9 * 20))), (5, .int ra), (6, .int (nI p9)), (7, .int (cI c)), (8, .int (nI tu))]) e_16 rfl rfl ?_
  show J _ _ _ _ _ 89 _
  refine J.eq (st' := .int (nI b2) :: []) rfl rfl (congrArg (fun z9 => Value.int z9 :: []) (congrArg nI e3)) ?_
  refine j_istore (lv' := [(12, .int (nI b2)), (11, .int (nI b1)), (10, .int (nI a1)), (9, .int (nI p9)), (0, .ref (ad 5)), (1, .ref (ad 11)), (2, .int (nI y9)), (3, .int 200), (4, .int (nI (y9 * 20))), (5, .int ra), (6, .int (nI p9)), (7, .int (cI c)), (8, .int (nI tu))]) C dX6_writeRow_89 (by rw [hn9]; decide) rfl ?_
  refine j_iload C dX6_writeRow_91 2 rfl ?_
  refine j_iload C dX6_writeRow_93 1 rfl ?_
  refine j_isub (v := (nI a1 - nI b1)) C dX6_writeRow_95 rfl ?_
  refine j_iconst (v := 3) C dX6_writeRow_96 (by decide) ?_
  refine j_iadd (v := (nI a1 - nI b1 + 3)) C dX6_writeRow_97 rfl ?_
  refine j_istore (lv' := [(13, .int (nI a1 - nI b1 + 3)), (12, .int (nI b2)), (11, .int (nI b1)), (10, .int (nI a1)), (9, .int (nI p9)), (0, .ref (ad 5)), (1, .ref (ad 11)), (2, .int (nI y9)), (3, .int 200), (4, .int (nI (y9 * 20))), (5, .int ra), (6, .int (nI p9)), (7, .int (cI c)), (8, .int (nI tu))]) C dX6_writeRow_98 (by rw [hn9]; decide) rfl ?_
  refine j_iload C dX6_writeRow_100 1 rfl ?_
  show J _ _ _ _ _ 102 _
  refine j_iload C dX6_writeRow_102 3 rfl ?_
  refine j_ic_ge (tgt := 120) C dX6_writeRow_104 (by decide) (fun c_104 => absurd c_104 (nI_ge hc (by omega))) (fun c_104 => ?_)
  refine j_aload_n C dX6_writeRow_107 rfl 5 rfl ?_
  refine j_iconst (v := 1) C dX6_writeRow_108 (by decide) ?_
  refine j_iconst (v := 4) C dX6_writeRow_109 (by decide) ?_
  refine j_callV (ci := 6) C [.int 1, .int 4] [] mlX6_80 mcX6_putBits (c_pb S ad hW 1 4 tb hi601 hi609 (by omega) (by omega)) (wm_5 (S := S) hW) (wk_5 (S := S) hW) rfl (M.rm (by decide) (by decide) (Nat.le_of_ble_eq_true rfl) (Nat.le_of_ble_eq_true rfl)) rfl rfl (Nat.le_of_ble_eq_true rfl) dX6_writeRow_110 (fun r_19 S_20 hp_21 => ?_)
  obtain ⟨rfl, hf_22, e_17, e_18⟩ := hp_21
  refine J.eq (st' := []) rfl rfl rfl ?_
  have hf_23 : Fm (fun f9 b9 => (f9 = 601 ∧ b9 = (ad 5)) ∨ (f9 = 608 ∧ b9 = (ad 5)) ∨ (f9 = 609 ∧ b9 = (ad 5))) (fun _ _ => False) (fun b9 => b9 = (ad 7)) S0 S_20 := hF.then hf_22 (fun a9 ha9 => ⟨(fun f9 h9 => (fun h9 => h9.elim (fun h8 => (Or.inl h8)) (fun h9 => h9.elim (fun h8 => (Or.inr (Or.inl h8))) (fun h8 => (Or.inr (Or.inr h8))))) h9), (fun f9 h9 => h9.elim), (fun h9 => (fun h8 => h8) h9)⟩)
  have hW_24 : Wd ad S_20 := hW.fm hf_22 (by intro _ _ h9; exact h9) (by intro p9 hp9; simp only [wqL, List.mem_cons, List.not_mem_nil, or_false] at hp9; rcases hp9 with rfl | rfl <;> intro h9 <;> skip <;> exact absurd h9 (wn hW (by decide) (by decide) (by decide)))
  have hx_25 : aI S_20 (ad 11) = D := by
    have e0_9 : (aI S_20 (ad 11)) = (aI S (ad 11)) := funext fun j9 => hf_22.ai (wm_11 (S := S) hW) (fun q9 => (wn (S := S) hW (i := 11) (j := 7) (by decide) (by decide) (by decide)) q9) j9
    first | (rw [e0_9]; exact hD) | rw [e0_9]
  refine j_iload C dX6_writeRow_113 1 rfl ?_
  refine j_istore (lv' := [(6, .int (nI b2)), (13, .int (nI a1 - nI b1 + 3)), (12, .int (nI b2)), (11, .int (nI b1)), (10, .int (nI a1)), (9, .int (nI p9)), (0, .ref (ad 5)), (1, .ref (ad 11)), (2, .int (nI y9)), (3, .int 200), (4, .int (nI (y9 * 20))), (5, .int ra), (7, .int (cI c)), (8, .int (nI tu))]) C dX6_writeRow_115 (by rw [hn9]; decide) rfl ?_
  show J _ _ _ _ _ 117 _
  refine j_goto (tgt := 221) C dX6_writeRow_117 (by decide) ?_
  refine j_iinc (q := 13) (v := nI (tu + 1)) (lv' := [(8, .int (nI (tu + 1))), (6, .int (nI b2)), (13, .int (nI a1 - nI b1 + 3)), (12, .int (nI b2)), (11, .int (nI b1)), (10, .int (nI a1)), (9, .int (nI p9)), (0, .ref (ad 5)), (1, .ref (ad 11)), (2, .int (nI y9)), (3, .int 200), (4, .int (nI (y9 * 20))), (5, .int ra), (7, .int (cI c))]) C dX6_writeRow_221 rfl (nI_add tu 1) (by rw [hn9]; decide) rfl ?_
  refine j_goto (tgt := 30) C dX6_writeRow_224 (by decide) ?_
  refine J.sub [7, 8, 9, 10, 11, 12, 1, 13, 0] (lv' := [(0, .ref (ad 5)), (1, .ref (ad 11)), (2, .int (nI y9)), (3, .int 200), (4, .int (nI (y9 * 20))), (5, .int ra), (6, .int (nI b2)), (7, .int (cI c)), (8, .int (nI (tu + 1)))]) (by rfl) ?_
  exact K S_20 ⟨hW_24, hf_23, e_17, e_18, hx_25⟩

set_option maxRecDepth 100000 in
set_option maxHeartbeats 4000000 in
theorem rt_nN {x : JX} {Q : Option Value → Hp → Prop} {S0 : Hp} (C : CB x RX6 cX6_writeRow) (M : CM x 5 0 0 none S0 Q) (hn9 : x_n x = 15) (ad : Nat → Nat) (S : Hp) (D : Nat → Int32) (tb y9 tu : Nat) (ra : Int32) (Ph Pa : Nat → Bool) (hy : y9 < 240) (hPh : RP D (nI (y9 * 20)) Ph 200 16000) (hPa : RP D ra Pa 200 16000) (p9 : Nat) (c : Bool) (hp : p9 < 200) (a1 b1 b2 : Nat) (e1 : fo Ph p9 200 c = a1) (e2 : fch Pa c (p9 + 1) 200 = b1) (e3 : fo Pa b1 200 (!c) = b2) (jn : Nat) (hc : a1 ≤ b2) (hj : a1 + 3 = b1 + jn) (hj7 : jn < 7) (hb1 : b1 ≤ 200) (hb2 : b2 ≤ 200) (ha1 : a1 ≤ 200) (htu : tu ≤ 200) (h9 : SF ad S0 S D tb) (ht : tb + nbN jn < 480000) (K : ∀ S' : Hp, SF ad S0 S' D (tb + nbN jn) → J x 0 0 S' [(0, .ref (ad 5)), (1, .ref (ad 11)), (2, .int (nI y9)), (3, .int 200), (4, .int (nI (y9 * 20))), (5, .int ra), (6, .int (nI a1)), (7, .int (cI (!c))), (8, .int (nI (tu + 1)))] 30 []) : J x 0 0 S [(0, .ref (ad 5)), (1, .ref (ad 11)), (2, .int (nI y9)), (3, .int 200), (4, .int (nI (y9 * 20))), (5, .int ra), (6, .int (nI p9)), (7, .int (cI c)), (8, .int (nI tu))] 30 [] := by
  obtain ⟨hW, hF, hi601, hi609, hD⟩ := h9
  have hPh9 : RP (aI S (ad 11)) (nI (y9 * 20)) Ph 200 16000 := by rw [hD]; exact hPh
  have hPa9 : RP (aI S (ad 11)) ra Pa 200 16000 := by rw [hD]; exact hPa
  refine j_iload C dX6_writeRow_30 8 rfl ?_
  refine j_iload_n C dX6_writeRow_32 rfl 3 rfl ?_
  refine j_ic_gt (tgt := 227) C dX6_writeRow_33 (by decide) (fun c_33 => absurd c_33 (nI_nlt (a := 200) (b := tu) htu (by decide))) (fun c_33 => ?_)
  refine j_iload C dX6_writeRow_36 6 rfl ?_
  refine j_iload_n C dX6_writeRow_38 rfl 3 rfl ?_
  refine j_ic_ge (tgt := 227) C dX6_writeRow_39 (by decide) (fun c_39 => absurd c_39 (nI_ge (b := 200) hp (by decide))) (fun c_39 => ?_)
  refine j_iload C dX6_writeRow_42 6 rfl ?_
  refine j_iconst (v := 0) C dX6_writeRow_44 (by decide) ?_
  show J _ _ _ _ _ 45 _
  refine j_callS C [.int (nI p9), .int 0] [] mlX6_55 mcJ9_max_7cf53 (c_maxn_1 S p9 0 (by omega) (by omega) (by omega)) (M.rm (by decide) (by decide) (Nat.le_of_ble_eq_true rfl) (Nat.le_of_ble_eq_true rfl)) rfl rfl (Nat.le_of_ble_eq_true rfl) dX6_writeRow_45 (fun r_1 S_2 hp_3 => ?_)
  obtain ⟨rfl, e_4⟩ := hp_3
  refine J.eq (S' := S) (st' := [.int (nI p9)]) (lv' := [(0, .ref (ad 5)), (1, .ref (ad 11)), (2, .int (nI y9)), (3, .int 200), (4, .int (nI (y9 * 20))), (5, .int ra), (6, .int (nI p9)), (7, .int (cI c)), (8, .int (nI tu))]) e_4 rfl rfl ?_
  refine j_istore (lv' := [(9, .int (nI p9)), (0, .ref (ad 5)), (1, .ref (ad 11)), (2, .int (nI y9)), (3, .int 200), (4, .int (nI (y9 * 20))), (5, .int ra), (6, .int (nI p9)), (7, .int (cI c)), (8, .int (nI tu))]) C dX6_writeRow_48 (by rw [hn9]; decide) rfl ?_
  refine j_aload_n C dX6_writeRow_50 rfl 2 rfl ?_
  refine j_iload C dX6_writeRow_51 5 rfl ?_
  refine j_iload C dX6_writeRow_53 0 rfl ?_
  refine j_iload_n C dX6_writeRow_55 rfl 4 rfl ?_
  refine j_iload C dX6_writeRow_56 8 rfl ?_
  refine j_callS C [.ref (ad 11), .int (nI (y9 * 20)), .int (nI p9), .int 200, .int (cI c)] [] mlX6_104 mcX11_firstOther (c_fo S (ad 11) (nI (y9 * 20)) 16000 (wm_11 (S := S) hW) (wk_11 (S := S) hW) (wl_11 (S := S) hW) p9 200 c Ph hPh9 (by omega) (by omega) (by omega)) (M.rm (by decide) (by decide) (Nat.le_of_ble_eq_true rfl) (Nat.le_of_ble_eq_true rfl)) rfl rfl (Nat.le_of_ble_eq_true rfl) dX6_writeRow_58 (fun r_5 S_6 hp_7 => ?_)
  obtain ⟨rfl, e_8⟩ := hp_7
  refine J.eq (S' := S) (st' := [.int (nI (fo Ph p9 200 c))]) (lv' := [(9, .int (nI p9)), (0, .ref (ad 5)), (1, .ref (ad 11)), (2, .int (nI y9)), (3, .int 200), (4, .int (nI (y9 * 20))), (5, .int ra), (6, .int (nI p9)), (7, .int (cI c)), (8, .int (nI tu))]) e_8 rfl rfl ?_
  show J _ _ _ _ _ 61 _
  refine J.eq (st' := .int (nI a1) :: []) rfl rfl (congrArg (fun z9 => Value.int z9 :: []) (congrArg nI e1)) ?_
  refine j_istore (lv' := [(10, .int (nI a1)), (9, .int (nI p9)), (0, .ref (ad 5)), (1, .ref (ad 11)), (2, .int (nI y9)), (3, .int 200), (4, .int (nI (y9 * 20))), (5, .int ra), (6, .int (nI p9)), (7, .int (cI c)), (8, .int (nI tu))]) C dX6_writeRow_61 (by rw [hn9]; decide) rfl ?_
  refine j_aload_n C dX6_writeRow_63 rfl 3 rfl ?_
  refine j_iload C dX6_writeRow_64 7 rfl ?_
  refine j_iload C dX6_writeRow_66 8 rfl ?_
  refine j_iload_n C dX6_writeRow_68 rfl 5 rfl ?_
  refine j_iload C dX6_writeRow_69 9 rfl ?_
  refine j_callS C [.ref (ad 11), .int ra, .int (nI p9), .int 200, .int (cI c)] [] mlX6_108 mcX11_firstChange (c_fc1 S (ad 11) ra 16000 (wm_11 (S := S) hW) (wk_11 (S := S) hW) (wl_11 (S := S) hW) 200 c Pa hPa9 (by omega) (by omega) p9 (by omega)) (M.rm (by decide) (by decide) (Nat.le_of_ble_eq_true rfl) (Nat.le_of_ble_eq_true rfl)) rfl rfl (Nat.le_of_ble_eq_true rfl) dX6_writeRow_71 (fun r_9 S_10 hp_11 => ?_)
  obtain ⟨rfl, e_12⟩ := hp_11
  refine J.eq (S' := S) (st' := [.int (nI (fch Pa c (p9 + 1) 200))]) (lv' := [(10, .int (nI a1)), (9, .int (nI p9)), (0, .ref (ad 5)), (1, .ref (ad 11)), (2, .int (nI y9)), (3, .int 200), (4, .int (nI (y9 * 20))), (5, .int ra), (6, .int (nI p9)), (7, .int (cI c)), (8, .int (nI tu))]) e_12 rfl rfl ?_
  refine J.eq (st' := .int (nI b1) :: []) rfl rfl (congrArg (fun z9 => Value.int z9 :: []) (congrArg nI e2)) ?_
  refine j_istore (lv' := [(11, .int (nI b1)), (10, .int (nI a1)), (9, .int (nI p9)), (0, .ref (ad 5)), (1, .ref (ad 11)), (2, .int (nI y9)), (3, .int 200), (4, .int (nI (y9 * 20))), (5, .int ra), (6, .int (nI p9)), (7, .int (cI c)), (8, .int (nI tu))]) C dX6_writeRow_74 (by rw [hn9]; decide) rfl ?_
  show J _ _ _ _ _ 76 _
  refine j_aload_n C dX6_writeRow_76 rfl 4 rfl ?_
  refine j_iload C dX6_writeRow_77 8 rfl ?_
  refine j_iload C dX6_writeRow_79 0 rfl ?_
  refine j_iload_n C dX6_writeRow_81 rfl 6 rfl ?_
  refine j_iconst (v := 1) C dX6_writeRow_82 (by decide) ?_
  refine j_iload C dX6_writeRow_83 10 rfl ?_
  refine j_isub (v := cI (!c)) C dX6_writeRow_85 (cI_not c) ?_
  refine j_callS C [.ref (ad 11), .int ra, .int (nI b1), .int 200, .int (cI (!c))] [] mlX6_104 mcX11_firstOther (c_fo S (ad 11) ra 16000 (wm_11 (S := S) hW) (wk_11 (S := S) hW) (wl_11 (S := S) hW) b1 200 (!c) Pa hPa9 (by omega) (by omega) (by omega)) (M.rm (by decide) (by decide) (Nat.le_of_ble_eq_true rfl) (Nat.le_of_ble_eq_true rfl)) rfl rfl (Nat.le_of_ble_eq_true rfl) dX6_writeRow_86 (fun r_13 S_14 hp_15 => ?_)
  obtain ⟨rfl, e_16⟩ := hp_15
  refine J.eq (S' := S) (st' := [.int (nI (fo Pa b1 200 (!c)))]) (lv' := [(11, .int (nI b1)), (10, .int (nI a1)), (9, .int (nI p9)), (0, .ref (ad 5)), (1, .ref (ad 11)), (2, .int (nI y9)), (3, .int 200), (4, .int (nI (y9 * 20))), (5, .int ra), (6, .int (nI p9)), (7, .int (cI c)), (8, .int (nI tu))]) e_16 rfl rfl ?_
  show J _ _ _ _ _ 89 _
  refine J.eq (st' := .int (nI b2) :: []) rfl rfl (congrArg (fun z9 => Value.int z9 :: []) (congrArg nI e3)) ?_
  refine j_istore (lv' := [(12, .int (nI b2)), (11, .int (nI b1)), (10, .int (nI a1)), (9, .int (nI p9)), (0, .ref (ad 5)), (1, .ref (ad 11)), (2, .int (nI y9)), (3, .int 200), (4, .int (nI (y9 * 20))), (5, .int ra), (6, .int (nI p9)), (7, .int (cI c)), (8, .int (nI tu))]) C dX6_writeRow_89 (by rw [hn9]; decide) rfl ?_
  refine j_iload C dX6_writeRow_91 2 rfl ?_
  refine j_iload C dX6_writeRow_93 1 rfl ?_
  refine j_isub (v := (nI a1 - nI b1)) C dX6_writeRow_95 rfl ?_
  refine j_iconst (v := 3) C dX6_writeRow_96 (by decide) ?_
  refine j_iadd (v := nI jn) C dX6_writeRow_97 (near_eq hj (by omega) (by omega) (by omega)) ?_
  refine j_istore (lv' := [(13, .int (nI jn)), (12, .int (nI b2)), (11, .int (nI b1)), (10, .int (nI a1)), (9, .int (nI p9)), (0, .ref (ad 5)), (1, .ref (ad 11)), (2, .int (nI y9)), (3, .int 200), (4, .int (nI (y9 * 20))), (5, .int ra), (6, .int (nI p9)), (7, .int (cI c)), (8, .int (nI tu))]) C dX6_writeRow_98 (by rw [hn9]; decide) rfl ?_
  refine j_iload C dX6_writeRow_100 1 rfl ?_
  show J _ _ _ _ _ 102 _
  refine j_iload C dX6_writeRow_102 3 rfl ?_
  refine j_ic_ge (tgt := 120) C dX6_writeRow_104 (by decide) (fun c_104 => ?_) (fun c_104 => absurd (nI_le hc (by omega)) c_104)
  refine j_iload C dX6_writeRow_120 0 rfl ?_
  refine j_if_lt (tgt := 172) C dX6_writeRow_122 (by decide) (fun c_122 => absurd c_122 (nI_pos (by omega))) (fun c_122 => ?_)
  refine j_iload C dX6_writeRow_125 0 rfl ?_
  refine j_gets C 5 rfl (Or.inr ⟨_, gsX6_111⟩) dX6_writeRow_127 ?_
  refine j_stlen (v := 7) C 5 rfl dX6_writeRow_130 (by decide) ?_
  refine j_ic_ge (tgt := 172) C dX6_writeRow_131 (by decide) (fun c_131 => absurd c_131 (nI_ge (b := 7) hj7 (by decide))) (fun c_131 => ?_)
  show J _ _ _ _ _ 134 _
  refine j_iload C dX6_writeRow_134 0 rfl ?_
  refine j_gets C 4 rfl (Or.inr ⟨_, gsX6_114⟩) dX6_writeRow_136 ?_
  refine j_stlen (v := 7) C 4 rfl dX6_writeRow_139 (by decide) ?_
  refine j_ic_ge (tgt := 172) C dX6_writeRow_140 (by decide) (fun c_140 => absurd c_140 (nI_ge (b := 7) hj7 (by decide))) (fun c_140 => ?_)
  refine j_aload_n C dX6_writeRow_143 rfl 5 rfl ?_
  refine j_gets C 5 rfl (Or.inr ⟨_, gsX6_111⟩) dX6_writeRow_144 ?_
  refine j_iload C dX6_writeRow_147 0 rfl ?_
  refine j_stld (v := (st_NEAR_CODES.getD jn 0)) C 5 rfl dX6_writeRow_149 (show vp_in (nI jn) 7 from vp_in_nI (by omega) (by omega)) ((congrArg (fun z9 => st_NEAR_CODES.getD z9 0) (nI_clamp (by omega))).trans rfl) ?_
  show J _ _ _ _ _ 150 _
  refine j_gets C 4 rfl (Or.inr ⟨_, gsX6_114⟩) dX6_writeRow_150 ?_
  refine j_iload C dX6_writeRow_153 0 rfl ?_
  refine j_stld (v := nI (nbN jn)) C 4 rfl dX6_writeRow_155 (show vp_in (nI jn) 7 from vp_in_nI (by omega) (by omega)) ((congrArg (fun z9 => st_NEAR_BITS.getD z9 0) (nI_clamp (by omega))).trans (nb_ok jn hj7)) ?_
  refine j_callV (ci := 6) C [.int (st_NEAR_CODES.getD jn 0), .int (nI (nbN jn))] [] mlX6_80 mcX6_putBits (c_pb S ad hW (st_NEAR_CODES.getD jn 0) (nbN jn) tb hi601 hi609 (Nat.le_trans (nb_le jn (by omega)) (by decide)) (by omega)) (wm_5 (S := S) hW) (wk_5 (S := S) hW) rfl (M.rm (by decide) (by decide) (Nat.le_of_ble_eq_true rfl) (Nat.le_of_ble_eq_true rfl)) rfl rfl (Nat.le_of_ble_eq_true rfl) dX6_writeRow_156 (fun r_19 S_20 hp_21 => ?_)
  obtain ⟨rfl, hf_22, e_17, e_18⟩ := hp_21
  refine J.eq (st' := []) rfl rfl rfl ?_
  have hf_23 : Fm (fun f9 b9 => (f9 = 601 ∧ b9 = (ad 5)) ∨ (f9 = 608 ∧ b9 = (ad 5)) ∨ (f9 = 609 ∧ b9 = (ad 5))) (fun _ _ => False) (fun b9 => b9 = (ad 7)) S0 S_20 := hF.then hf_22 (fun a9 ha9 => ⟨(fun f9 h9 => (fun h9 => h9.elim (fun h8 => (Or.inl h8)) (fun h9 => h9.elim (fun h8 => (Or.inr (Or.inl h8))) (fun h8 => (Or.inr (Or.inr h8))))) h9), (fun f9 h9 => h9.elim), (fun h9 => (fun h8 => h8) h9)⟩)
  have hW_24 : Wd ad S_20 := hW.fm hf_22 (by intro _ _ h9; exact h9) (by intro p9 hp9; simp only [wqL, List.mem_cons, List.not_mem_nil, or_false] at hp9; rcases hp9 with rfl | rfl <;> intro h9 <;> skip <;> exact absurd h9 (wn hW (by decide) (by decide) (by decide)))
  have hx_25 : aI S_20 (ad 11) = D := by
    have e0_9 : (aI S_20 (ad 11)) = (aI S (ad 11)) := funext fun j9 => hf_22.ai (wm_11 (S := S) hW) (fun q9 => (wn (S := S) hW (i := 11) (j := 7) (by decide) (by decide) (by decide)) q9) j9
    first | (rw [e0_9]; exact hD) | rw [e0_9]
  refine j_iload C dX6_writeRow_159 3 rfl ?_
  refine j_istore (lv' := [(6, .int (nI a1)), (13, .int (nI jn)), (12, .int (nI b2)), (11, .int (nI b1)), (10, .int (nI a1)), (9, .int (nI p9)), (0, .ref (ad 5)), (1, .ref (ad 11)), (2, .int (nI y9)), (3, .int 200), (4, .int (nI (y9 * 20))), (5, .int ra), (7, .int (cI c)), (8, .int (nI tu))]) C dX6_writeRow_161 (by rw [hn9]; decide) rfl ?_
  refine j_iconst (v := 1) C dX6_writeRow_163 (by decide) ?_
  refine j_iload C dX6_writeRow_164 12 rfl ?_
  show J _ _ _ _ _ 166 _
  refine j_isub (v := cI (!c)) C dX6_writeRow_166 (cI_not c) ?_
  refine j_istore (lv' := [(7, .int (cI (!c))), (6, .int (nI a1)), (13, .int (nI jn)), (12, .int (nI b2)), (11, .int (nI b1)), (10, .int (nI a1)), (9, .int (nI p9)), (0, .ref (ad 5)), (1, .ref (ad 11)), (2, .int (nI y9)), (3, .int 200), (4, .int (nI (y9 * 20))), (5, .int ra), (8, .int (nI tu))]) C dX6_writeRow_167 (by rw [hn9]; decide) rfl ?_
  refine j_goto (tgt := 221) C dX6_writeRow_169 (by decide) ?_
  refine j_iinc (q := 13) (v := nI (tu + 1)) (lv' := [(8, .int (nI (tu + 1))), (7, .int (cI (!c))), (6, .int (nI a1)), (13, .int (nI jn)), (12, .int (nI b2)), (11, .int (nI b1)), (10, .int (nI a1)), (9, .int (nI p9)), (0, .ref (ad 5)), (1, .ref (ad 11)), (2, .int (nI y9)), (3, .int 200), (4, .int (nI (y9 * 20))), (5, .int ra)]) C dX6_writeRow_221 rfl (nI_add tu 1) (by rw [hn9]; decide) rfl ?_
  refine j_goto (tgt := 30) C dX6_writeRow_224 (by decide) ?_
  refine J.sub [8, 9, 10, 11, 12, 13, 2, 1, 0] (lv' := [(0, .ref (ad 5)), (1, .ref (ad 11)), (2, .int (nI y9)), (3, .int 200), (4, .int (nI (y9 * 20))), (5, .int ra), (6, .int (nI a1)), (7, .int (cI (!c))), (8, .int (nI (tu + 1)))]) (by rfl) ?_
  exact K S_20 ⟨hW_24, hf_23, e_17, e_18, hx_25⟩

set_option maxRecDepth 100000 in
set_option maxHeartbeats 4000000 in
theorem rt_nL {x : JX} {Q : Option Value → Hp → Prop} {S0 : Hp} (C : CB x RX6 cX6_writeRow) (M : CM x 5 0 0 none S0 Q) (hn9 : x_n x = 15) (ad : Nat → Nat) (S : Hp) (D : Nat → Int32) (tb y9 tu : Nat) (ra : Int32) (Ph Pa : Nat → Bool) (hy : y9 < 240) (hPh : RP D (nI (y9 * 20)) Ph 200 16000) (hPa : RP D ra Pa 200 16000) (p9 : Nat) (c : Bool) (hp : p9 < 200) (a1 b1 b2 : Nat) (e1 : fo Ph p9 200 c = a1) (e2 : fch Pa c (p9 + 1) 200 = b1) (e3 : fo Pa b1 200 (!c) = b2) (a2 : Nat) (e4 : fo Ph a1 200 (!c) = a2) (hc : a1 ≤ b2) (hj : a1 + 3 < b1) (hb1 : b1 ≤ 200) (hb2 : b2 ≤ 200) (ha1 : a1 ≤ 200) (hf : p9 ≤ a1) (ha2 : a1 ≤ a2) (ha3 : a2 ≤ 200) (htu : tu ≤ 200) (h9 : SF ad S0 S D tb) (ht : tb + 3 + runB c (a1 - p9) + runB (!c) (a2 - a1) < 480000) (K : ∀ S' : Hp, SF ad S0 S' D (tb + 3 + runB c (a1 - p9) + runB (!c) (a2 - a1)) → J x 0 0 S' [(0, .ref (ad 5)), (1, .ref (ad 11)), (2, .int (nI y9)), (3, .int 200), (4, .int (nI (y9 * 20))), (5, .int ra), (6, .int (nI a2)), (7, .int (cI c)), (8, .int (nI (tu + 1)))] 30 []) : J x 0 0 S [(0, .ref (ad 5)), (1, .ref (ad 11)), (2, .int (nI y9)), (3, .int 200), (4, .int (nI (y9 * 20))), (5, .int ra), (6, .int (nI p9)), (7, .int (cI c)), (8, .int (nI tu))] 30 [] := by
  obtain ⟨hW, hF, hi601, hi609, hD⟩ := h9
  have hPh9 : RP (aI S (ad 11)) (nI (y9 * 20)) Ph 200 16000 := by rw [hD]; exact hPh
  have hPa9 : RP (aI S (ad 11)) ra Pa 200 16000 := by rw [hD]; exact hPa
  refine j_iload C dX6_writeRow_30 8 rfl ?_
  refine j_iload_n C dX6_writeRow_32 rfl 3 rfl ?_
  refine j_ic_gt (tgt := 227) C dX6_writeRow_33 (by decide) (fun c_33 => absurd c_33 (nI_nlt (a := 200) (b := tu) htu (by decide))) (fun c_33 => ?_)
  refine j_iload C dX6_writeRow_36 6 rfl ?_
  refine j_iload_n C dX6_writeRow_38 rfl 3 rfl ?_
  refine j_ic_ge (tgt := 227) C dX6_writeRow_39 (by decide) (fun c_39 => absurd c_39 (nI_ge (b := 200) hp (by decide))) (fun c_39 => ?_)
  refine j_iload C dX6_writeRow_42 6 rfl ?_
  refine j_iconst (v := 0) C dX6_writeRow_44 (by decide) ?_
  show J _ _ _ _ _ 45 _
  refine j_callS C [.int (nI p9), .int 0] [] mlX6_55 mcJ9_max_7cf53 (c_maxn_1 S p9 0 (by omega) (by omega) (by omega)) (M.rm (by decide) (by decide) (Nat.le_of_ble_eq_true rfl) (Nat.le_of_ble_eq_true rfl)) rfl rfl (Nat.le_of_ble_eq_true rfl) dX6_writeRow_45 (fun r_1 S_2 hp_3 => ?_)
  obtain ⟨rfl, e_4⟩ := hp_3
  refine J.eq (S' := S) (st' := [.int (nI p9)]) (lv' := [(0, .ref (ad 5)), (1, .ref (ad 11)), (2, .int (nI y9)), (3, .int 200), (4, .int (nI (y9 * 20))), (5, .int ra), (6, .int (nI p9)), (7, .int (cI c)), (8, .int (nI tu))]) e_4 rfl rfl ?_
  refine j_istore (lv' := [(9, .int (nI p9)), (0, .ref (ad 5)), (1, .ref (ad 11)), (2, .int (nI y9)), (3, .int 200), (4, .int (nI (y9 * 20))), (5, .int ra), (6, .int (nI p9)), (7, .int (cI c)), (8, .int (nI tu))]) C dX6_writeRow_48 (by rw [hn9]; decide) rfl ?_
  refine j_aload_n C dX6_writeRow_50 rfl 2 rfl ?_
  refine j_iload C dX6_writeRow_51 5 rfl ?_
  refine j_iload C dX6_writeRow_53 0 rfl ?_
  refine j_iload_n C dX6_writeRow_55 rfl 4 rfl ?_
  refine j_iload C dX6_writeRow_56 8 rfl ?_
  refine j_callS C [.ref (ad 11), .int (nI (y9 * 20)), .int (nI p9), .int 200, .int (cI c)] [] mlX6_104 mcX11_firstOther (c_fo S (ad 11) (nI (y9 * 20)) 16000 (wm_11 (S := S) hW) (wk_11 (S := S) hW) (wl_11 (S := S) hW) p9 200 c Ph hPh9 (by omega) (by omega) (by omega)) (M.rm (by decide) (by decide) (Nat.le_of_ble_eq_true rfl) (Nat.le_of_ble_eq_true rfl)) rfl rfl (Nat.le_of_ble_eq_true rfl) dX6_writeRow_58 (fun r_5 S_6 hp_7 => ?_)
  obtain ⟨rfl, e_8⟩ := hp_7
  refine J.eq (S' := S) (st' := [.int (nI (fo Ph p9 200 c))]) (lv' := [(9, .int (nI p9)), (0, .ref (ad 5)), (1, .ref (ad 11)), (2, .int (nI y9)), (3, .int 200), (4, .int (nI (y9 * 20))), (5, .int ra), (6, .int (nI p9)), (7, .int (cI c)), (8, .int (nI tu))]) e_8 rfl rfl ?_
  show J _ _ _ _ _ 61 _
  refine J.eq (st' := .int (nI a1) :: []) rfl rfl (congrArg (fun z9 => Value.int z9 :: []) (congrArg nI e1)) ?_
  refine j_istore (lv' := [(10, .int (nI a1)), (9, .int (nI p9)), (0, .ref (ad 5)), (1, .ref (ad 11)), (2, .int (nI y9)), (3, .int 200), (4, .int (nI (y9 * 20))), (5, .int ra), (6, .int (nI p9)), (7, .int (cI c)), (8, .int (nI tu))]) C dX6_writeRow_61 (by rw [hn9]; decide) rfl ?_
  refine j_aload_n C dX6_writeRow_63 rfl 3 rfl ?_
  refine j_iload C dX6_writeRow_64 7 rfl ?_
  refine j_iload C dX6_writeRow_66 8 rfl ?_
  refine j_iload_n C dX6_writeRow_68 rfl 5 rfl ?_
  refine j_iload C dX6_writeRow_69 9 rfl ?_
  refine j_callS C [.ref (ad 11), .int ra, .int (nI p9), .int 200, .int (cI c)] [] mlX6_108 mcX11_firstChange (c_fc1 S (ad 11) ra 16000 (wm_11 (S := S) hW) (wk_11 (S := S) hW) (wl_11 (S := S) hW) 200 c Pa hPa9 (by omega) (by omega) p9 (by omega)) (M.rm (by decide) (by decide) (Nat.le_of_ble_eq_true rfl) (Nat.le_of_ble_eq_true rfl)) rfl rfl (Nat.le_of_ble_eq_true rfl) dX6_writeRow_71 (fun r_9 S_10 hp_11 => ?_)
  obtain ⟨rfl, e_12⟩ := hp_11
  refine J.eq (S' := S) (st' := [.int (nI (fch Pa c (p9 + 1) 200))]) (lv' := [(10, .int (nI a1)), (9, .int (nI p9)), (0, .ref (ad 5)), (1, .ref (ad 11)), (2, .int (nI y9)), (3, .int 200), (4, .int (nI (y9 * 20))), (5, .int ra), (6, .int (nI p9)), (7, .int (cI c)), (8, .int (nI tu))]) e_12 rfl rfl ?_
  refine J.eq (st' := .int (nI b1) :: []) rfl rfl (congrArg (fun z9 => Value.int z9 :: []) (congrArg nI e2)) ?_
  refine j_istore (lv' := [(11, .int (nI b1)), (10, .int (nI a1)), (9, .int (nI p9)), (0, .ref (ad 5)), (1, .ref (ad 11)), (2, .int (nI y9)), (3, .int 200), (4, .int (nI (y9 * 20))), (5, .int ra), (6, .int (nI p9)), (7, .int (cI c)), (8, .int (nI tu))]) C dX6_writeRow_74 (by rw [hn9]; decide) rfl ?_
  show J _ _ _ _ _ 76 _
  refine j_aload_n C dX6_writeRow_76 rfl 4 rfl ?_
  refine j_iload C dX6_writeRow_77 8 rfl ?_
  refine j_iload C dX6_writeRow_79 0 rfl ?_
  refine j_iload_n C dX6_writeRow_81 rfl 6 rfl ?_
  refine j_iconst (v := 1) C dX6_writeRow_82 (by decide) ?_
  refine j_iload C dX6_writeRow_83 10 rfl ?_
  refine j_isub (v := cI (!c)) C dX6_writeRow_85 (cI_not c) ?_
  refine j_callS C [.ref (ad 11), .int ra, .int (nI b1), .int 200, .int (cI (!c))] [] mlX6_104 mcX11_firstOther (c_fo S (ad 11) ra 16000 (wm_11 (S := S) hW) (wk_11 (S := S) hW) (wl_11 (S := S) hW) b1 200 (!c) Pa hPa9 (by omega) (by omega) (by omega)) (M.rm (by decide) (by decide) (Nat.le_of_ble_eq_true rfl) (Nat.le_of_ble_eq_true rfl)) rfl rfl (Nat.le_of_ble_eq_true rfl) dX6_writeRow_86 (fun r_13 S_14 hp_15 => ?_)
  obtain ⟨rfl, e_16⟩ := hp_15
  refine J.eq (S' := S) (st' := [.int (nI (fo Pa b1 200 (!c)))]) (lv' := [(11, .int (nI b1)), (10, .int (nI a1)), (9, .int (nI p9)), (0, .ref (ad 5)), (1, .ref (ad 11)), (2, .int (nI y9)), (3, .int 200), (4, .int (nI (y9 * 20))), (5, .int ra), (6, .int (nI p9)), (7, .int (cI c)), (8, .int (nI tu))]) e_16 rfl rfl ?_
  show J _ _ _ _ _ 89 _
  refine J.eq (st' := .int (nI b2) :: []) rfl rfl (congrArg (fun z9 => Value.int z9 :: []) (congrArg nI e3)) ?_
  refine j_istore (lv' := [(12, .int (nI b2)), (11, .int (nI b1)), (10, .int (nI a1)), (9, .int (nI p9)), (0, .ref (ad 5)), (1, .ref (ad 11)), (2, .int (nI y9)), (3, .int 200), (4, .int (nI (y9 * 20))), (5, .int ra), (6, .int (nI p9)), (7, .int (cI c)), (8, .int (nI tu))]) C dX6_writeRow_89 (by rw [hn9]; decide) rfl ?_
  refine j_iload C dX6_writeRow_91 2 rfl ?_
  refine j_iload C dX6_writeRow_93 1 rfl ?_
  refine j_isub (v := (nI a1 - nI b1)) C dX6_writeRow_95 rfl ?_
  refine j_iconst (v := 3) C dX6_writeRow_96 (by decide) ?_
  refine j_iadd (v := (nI a1 - nI b1 + 3)) C dX6_writeRow_97 rfl ?_
  refine j_istore (lv' := [(13, .int (nI a1 - nI b1 + 3)), (12, .int (nI b2)), (11, .int (nI b1)), (10, .int (nI a1)), (9, .int (nI p9)), (0, .ref (ad 5)), (1, .ref (ad 11)), (2, .int (nI y9)), (3, .int 200), (4, .int (nI (y9 * 20))), (5, .int ra), (6, .int (nI p9)), (7, .int (cI c)), (8, .int (nI tu))]) C dX6_writeRow_98 (by rw [hn9]; decide) rfl ?_
  refine j_iload C dX6_writeRow_100 1 rfl ?_
  show J _ _ _ _ _ 102 _
  refine j_iload C dX6_writeRow_102 3 rfl ?_
  refine j_ic_ge (tgt := 120) C dX6_writeRow_104 (by decide) (fun c_104 => ?_) (fun c_104 => absurd (nI_le hc (by omega)) c_104)
  refine j_iload C dX6_writeRow_120 0 rfl ?_
  refine j_if_lt (tgt := 172) C dX6_writeRow_122 (by decide) (fun c_122 => ?_) (fun c_122 => absurd (near_lo hj (by omega) (by omega)) c_122)
  refine j_aload_n C dX6_writeRow_172 rfl 6 rfl ?_
  refine j_iload C dX6_writeRow_173 9 rfl ?_
  refine j_iload C dX6_writeRow_175 3 rfl ?_
  refine j_iload_n C dX6_writeRow_177 rfl 8 rfl ?_
  show J _ _ _ _ _ 178 _
  refine j_iconst (v := 1) C dX6_writeRow_178 (by decide) ?_
  refine j_iload C dX6_writeRow_179 12 rfl ?_
  refine j_isub (v := cI (!c)) C dX6_writeRow_181 (cI_not c) ?_
  refine j_callS C [.ref (ad 11), .int (nI (y9 * 20)), .int (nI a1), .int 200, .int (cI (!c))] [] mlX6_104 mcX11_firstOther (c_fo S (ad 11) (nI (y9 * 20)) 16000 (wm_11 (S := S) hW) (wk_11 (S := S) hW) (wl_11 (S := S) hW) a1 200 (!c) Ph hPh9 (by omega) (by omega) (by omega)) (M.rm (by decide) (by decide) (Nat.le_of_ble_eq_true rfl) (Nat.le_of_ble_eq_true rfl)) rfl rfl (Nat.le_of_ble_eq_true rfl) dX6_writeRow_182 (fun r_17 S_18 hp_19 => ?_)
  obtain ⟨rfl, e_20⟩ := hp_19
  refine J.eq (S' := S) (st' := [.int (nI (fo Ph a1 200 (!c)))]) (lv' := [(13, .int (nI a1 - nI b1 + 3)), (12, .int (nI b2)), (11, .int (nI b1)), (10, .int (nI a1)), (9, .int (nI p9)), (0, .ref (ad 5)), (1, .ref (ad 11)), (2, .int (nI y9)), (3, .int 200), (4, .int (nI (y9 * 20))), (5, .int ra), (6, .int (nI p9)), (7, .int (cI c)), (8, .int (nI tu))]) e_20 rfl rfl ?_
  refine J.eq (st' := .int (nI a2) :: []) rfl rfl (congrArg (fun z9 => Value.int z9 :: []) (congrArg nI (by first | exact e4))) ?_
  refine j_istore (lv' := [(14, .int (nI a2)), (13, .int (nI a1 - nI b1 + 3)), (12, .int (nI b2)), (11, .int (nI b1)), (10, .int (nI a1)), (9, .int (nI p9)), (0, .ref (ad 5)), (1, .ref (ad 11)), (2, .int (nI y9)), (3, .int 200), (4, .int (nI (y9 * 20))), (5, .int ra), (6, .int (nI p9)), (7, .int (cI c)), (8, .int (nI tu))]) C dX6_writeRow_185 (by rw [hn9]; decide) rfl ?_
  refine j_aload_n C dX6_writeRow_187 rfl 6 rfl ?_
  refine j_iconst (v := 1) C dX6_writeRow_188 (by decide) ?_
  refine j_iconst (v := 3) C dX6_writeRow_189 (by decide) ?_
  show J _ _ _ _ _ 190 _
  refine j_callV (ci := 6) C [.int 1, .int 3] [] mlX6_80 mcX6_putBits (c_pb S ad hW 1 3 tb hi601 hi609 (by omega) (by omega)) (wm_5 (S := S) hW) (wk_5 (S := S) hW) rfl (M.rm (by decide) (by decide) (Nat.le_of_ble_eq_true rfl) (Nat.le_of_ble_eq_true rfl)) rfl rfl (Nat.le_of_ble_eq_true rfl) dX6_writeRow_190 (fun r_23 S_24 hp_25 => ?_)
  obtain ⟨rfl, hf_26, e_21, e_22⟩ := hp_25
  refine J.eq (st' := []) rfl rfl rfl ?_
  have hf_27 : Fm (fun f9 b9 => (f9 = 601 ∧ b9 = (ad 5)) ∨ (f9 = 608 ∧ b9 = (ad 5)) ∨ (f9 = 609 ∧ b9 = (ad 5))) (fun _ _ => False) (fun b9 => b9 = (ad 7)) S0 S_24 := hF.then hf_26 (fun a9 ha9 => ⟨(fun f9 h9 => (fun h9 => h9.elim (fun h8 => (Or.inl h8)) (fun h9 => h9.elim (fun h8 => (Or.inr (Or.inl h8))) (fun h8 => (Or.inr (Or.inr h8))))) h9), (fun f9 h9 => h9.elim), (fun h9 => (fun h8 => h8) h9)⟩)
  have hW_28 : Wd ad S_24 := hW.fm hf_26 (by intro _ _ h9; exact h9) (by intro p9 hp9; simp only [wqL, List.mem_cons, List.not_mem_nil, or_false] at hp9; rcases hp9 with rfl | rfl <;> intro h9 <;> skip <;> exact absurd h9 (wn hW (by decide) (by decide) (by decide)))
  have hx_29 : aI S_24 (ad 11) = D := by
    have e0_9 : (aI S_24 (ad 11)) = (aI S (ad 11)) := funext fun j9 => hf_26.ai (wm_11 (S := S) hW) (fun q9 => (wn (S := S) hW (i := 11) (j := 7) (by decide) (by decide) (by decide)) q9) j9
    first | (rw [e0_9]; exact hD) | rw [e0_9]
  refine j_aload_n C dX6_writeRow_193 rfl 6 rfl ?_
  refine j_iload C dX6_writeRow_194 4 rfl ?_
  refine j_iload C dX6_writeRow_196 5 rfl ?_
  refine j_isub (v := nI (a1 - p9)) C dX6_writeRow_198 (pk_sub (a := a1) (b := p9) (by omega)) ?_
  refine j_iload C dX6_writeRow_199 13 rfl ?_
  refine j_callV (ci := 6) C [.int (nI (a1 - p9)), .int (cI c)] [] mlX6_117 mcX6_putRun (c_pr S_24 ad hW_28 (a1 - p9) c (tb + 3) e_21 e_22 (by omega) (by omega)) (wm_5 (S := S_24) hW_28) (wk_5 (S := S_24) hW_28) rfl (M.rm (by decide) (by decide) (Nat.le_of_ble_eq_true rfl) (Nat.le_of_ble_eq_true rfl)) rfl rfl (Nat.le_of_ble_eq_true rfl) dX6_writeRow_201 (fun r_32 S_33 hp_34 => ?_)
  obtain ⟨rfl, hf_35, e_30, e_31⟩ := hp_34
  refine J.eq (st' := []) rfl rfl rfl ?_
  have hf_36 : Fm (fun f9 b9 => (f9 = 601 ∧ b9 = (ad 5)) ∨ (f9 = 608 ∧ b9 = (ad 5)) ∨ (f9 = 609 ∧ b9 = (ad 5))) (fun _ _ => False) (fun b9 => b9 = (ad 7)) S0 S_33 := hf_27.then hf_35 (fun a9 ha9 => ⟨(fun f9 h9 => (fun h9 => h9.elim (fun h8 => (Or.inl h8)) (fun h9 => h9.elim (fun h8 => (Or.inr (Or.inl h8))) (fun h8 => (Or.inr (Or.inr h8))))) h9), (fun f9 h9 => h9.elim), (fun h9 => (fun h8 => h8) h9)⟩)
  have hW_37 : Wd ad S_33 := hW_28.fm hf_35 (by intro _ _ h9; exact h9) (by intro p9 hp9; simp only [wqL, List.mem_cons, List.not_mem_nil, or_false] at hp9; rcases hp9 with rfl | rfl <;> intro h9 <;> skip <;> exact absurd h9 (wn hW_28 (by decide) (by decide) (by decide)))
  have hx_38 : aI S_33 (ad 11) = D := by
    have e0_9 : (aI S_33 (ad 11)) = (aI S_24 (ad 11)) := funext fun j9 => hf_35.ai (wm_11 (S := S_24) hW_28) (fun q9 => (wn (S := S_24) hW_28 (i := 11) (j := 7) (by decide) (by decide) (by decide)) q9) j9
    first | (rw [e0_9]; exact hx_29) | rw [e0_9]
  refine j_aload_n C dX6_writeRow_204 rfl 6 rfl ?_
  show J _ _ _ _ _ 205 _
  refine j_iload C dX6_writeRow_205 0 rfl ?_
  refine j_iload C dX6_writeRow_207 4 rfl ?_
  refine j_isub (v := nI (a2 - a1)) C dX6_writeRow_209 (pk_sub (a := a2) (b := a1) (by omega)) ?_
  refine j_iconst (v := 1) C dX6_writeRow_210 (by decide) ?_
  refine j_iload C dX6_writeRow_211 13 rfl ?_
  refine j_isub (v := cI (!c)) C dX6_writeRow_213 (cI_not c) ?_
  refine j_callV (ci := 6) C [.int (nI (a2 - a1)), .int (cI (!c))] [] mlX6_117 mcX6_putRun (c_pr S_33 ad hW_37 (a2 - a1) (!c) ((tb + 3) + runB c (a1 - p9)) e_30 e_31 (by omega) (by omega)) (wm_5 (S := S_33) hW_37) (wk_5 (S := S_33) hW_37) rfl (M.rm (by decide) (by decide) (Nat.le_of_ble_eq_true rfl) (Nat.le_of_ble_eq_true rfl)) rfl rfl (Nat.le_of_ble_eq_true rfl) dX6_writeRow_214 (fun r_41 S_42 hp_43 => ?_)
  obtain ⟨rfl, hf_44, e_39, e_40⟩ := hp_43
  refine J.eq (st' := []) rfl rfl rfl ?_
  have hf_45 : Fm (fun f9 b9 => (f9 = 601 ∧ b9 = (ad 5)) ∨ (f9 = 608 ∧ b9 = (ad 5)) ∨ (f9 = 609 ∧ b9 = (ad 5))) (fun _ _ => False) (fun b9 => b9 = (ad 7)) S0 S_42 := hf_36.then hf_44 (fun a9 ha9 => ⟨(fun f9 h9 => (fun h9 => h9.elim (fun h8 => (Or.inl h8)) (fun h9 => h9.elim (fun h8 => (Or.inr (Or.inl h8))) (fun h8 => (Or.inr (Or.inr h8))))) h9), (fun f9 h9 => h9.elim), (fun h9 => (fun h8 => h8) h9)⟩)
  have hW_46 : Wd ad S_42 := hW_37.fm hf_44 (by intro _ _ h9; exact h9) (by intro p9 hp9; simp only [wqL, List.mem_cons, List.not_mem_nil, or_false] at hp9; rcases hp9 with rfl | rfl <;> intro h9 <;> skip <;> exact absurd h9 (wn hW_37 (by decide) (by decide) (by decide)))
  have hx_47 : aI S_42 (ad 11) = D := by
    have e0_9 : (aI S_42 (ad 11)) = (aI S_33 (ad 11)) := funext fun j9 => hf_44.ai (wm_11 (S := S_33) hW_37) (fun q9 => (wn (S := S_33) hW_37 (i := 11) (j := 7) (by decide) (by decide) (by decide)) q9) j9
    first | (rw [e0_9]; exact hx_38) | rw [e0_9]
  refine j_iload C dX6_writeRow_217 0 rfl ?_
  show J _ _ _ _ _ 219 _
  refine j_istore (lv' := [(6, .int (nI a2)), (14, .int (nI a2)), (13, .int (nI a1 - nI b1 + 3)), (12, .int (nI b2)), (11, .int (nI b1)), (10, .int (nI a1)), (9, .int (nI p9)), (0, .ref (ad 5)), (1, .ref (ad 11)), (2, .int (nI y9)), (3, .int 200), (4, .int (nI (y9 * 20))), (5, .int ra), (7, .int (cI c)), (8, .int (nI tu))]) C dX6_writeRow_219 (by rw [hn9]; decide) rfl ?_
  refine j_iinc (q := 14) (v := nI (tu + 1)) (lv' := [(8, .int (nI (tu + 1))), (6, .int (nI a2)), (14, .int (nI a2)), (13, .int (nI a1 - nI b1 + 3)), (12, .int (nI b2)), (11, .int (nI b1)), (10, .int (nI a1)), (9, .int (nI p9)), (0, .ref (ad 5)), (1, .ref (ad 11)), (2, .int (nI y9)), (3, .int 200), (4, .int (nI (y9 * 20))), (5, .int ra), (7, .int (cI c))]) C dX6_writeRow_221 rfl (nI_add tu 1) (by rw [hn9]; decide) rfl ?_
  refine j_goto (tgt := 30) C dX6_writeRow_224 (by decide) ?_
  refine J.sub [8, 9, 10, 11, 12, 13, 1, 14, 0] (lv' := [(0, .ref (ad 5)), (1, .ref (ad 11)), (2, .int (nI y9)), (3, .int 200), (4, .int (nI (y9 * 20))), (5, .int ra), (6, .int (nI a2)), (7, .int (cI c)), (8, .int (nI (tu + 1)))]) (by rfl) ?_
  exact K S_42 ⟨hW_46, hf_45, e_39, e_40, hx_47⟩

set_option maxRecDepth 100000 in
set_option maxHeartbeats 4000000 in
theorem rt_nH {x : JX} {Q : Option Value → Hp → Prop} {S0 : Hp} (C : CB x RX6 cX6_writeRow) (M : CM x 5 0 0 none S0 Q) (hn9 : x_n x = 15) (ad : Nat → Nat) (S : Hp) (D : Nat → Int32) (tb y9 tu : Nat) (ra : Int32) (Ph Pa : Nat → Bool) (hy : y9 < 240) (hPh : RP D (nI (y9 * 20)) Ph 200 16000) (hPa : RP D ra Pa 200 16000) (p9 : Nat) (c : Bool) (hp : p9 < 200) (a1 b1 b2 : Nat) (e1 : fo Ph p9 200 c = a1) (e2 : fch Pa c (p9 + 1) 200 = b1) (e3 : fo Pa b1 200 (!c) = b2) (jn a2 : Nat) (e4 : fo Ph a1 200 (!c) = a2) (hc : a1 ≤ b2) (hj : a1 + 3 = b1 + jn) (hj7 : 7 ≤ jn) (hb1 : b1 ≤ 200) (hb2 : b2 ≤ 200) (ha1 : a1 ≤ 200) (hf : p9 ≤ a1) (ha2 : a1 ≤ a2) (ha3 : a2 ≤ 200) (htu : tu ≤ 200) (h9 : SF ad S0 S D tb) (ht : tb + 3 + runB c (a1 - p9) + runB (!c) (a2 - a1) < 480000) (K : ∀ S' : Hp, SF ad S0 S' D (tb + 3 + runB c (a1 - p9) + runB (!c) (a2 - a1)) → J x 0 0 S' [(0, .ref (ad 5)), (1, .ref (ad 11)), (2, .int (nI y9)), (3, .int 200), (4, .int (nI (y9 * 20))), (5, .int ra), (6, .int (nI a2)), (7, .int (cI c)), (8, .int (nI (tu + 1)))] 30 []) : J x 0 0 S [(0, .ref (ad 5)), (1, .ref (ad 11)), (2, .int (nI y9)), (3, .int 200), (4, .int (nI (y9 * 20))), (5, .int ra), (6, .int (nI p9)), (7, .int (cI c)), (8, .int (nI tu))] 30 [] := by
  obtain ⟨hW, hF, hi601, hi609, hD⟩ := h9
  have hPh9 : RP (aI S (ad 11)) (nI (y9 * 20)) Ph 200 16000 := by rw [hD]; exact hPh
  have hPa9 : RP (aI S (ad 11)) ra Pa 200 16000 := by rw [hD]; exact hPa
  refine j_iload C dX6_writeRow_30 8 rfl ?_
  refine j_iload_n C dX6_writeRow_32 rfl 3 rfl ?_
  refine j_ic_gt (tgt := 227) C dX6_writeRow_33 (by decide) (fun c_33 => absurd c_33 (nI_nlt (a := 200) (b := tu) htu (by decide))) (fun c_33 => ?_)
  refine j_iload C dX6_writeRow_36 6 rfl ?_
  refine j_iload_n C dX6_writeRow_38 rfl 3 rfl ?_
  refine j_ic_ge (tgt := 227) C dX6_writeRow_39 (by decide) (fun c_39 => absurd c_39 (nI_ge (b := 200) hp (by decide))) (fun c_39 => ?_)
  refine j_iload C dX6_writeRow_42 6 rfl ?_
  refine j_iconst (v := 0) C dX6_writeRow_44 (by decide) ?_
  show J _ _ _ _ _ 45 _
  refine j_callS C [.int (nI p9), .int 0] [] mlX6_55 mcJ9_max_7cf53 (c_maxn_1 S p9 0 (by omega) (by omega) (by omega)) (M.rm (by decide) (by decide) (Nat.le_of_ble_eq_true rfl) (Nat.le_of_ble_eq_true rfl)) rfl rfl (Nat.le_of_ble_eq_true rfl) dX6_writeRow_45 (fun r_1 S_2 hp_3 => ?_)
  obtain ⟨rfl, e_4⟩ := hp_3
  refine J.eq (S' := S) (st' := [.int (nI p9)]) (lv' := [(0, .ref (ad 5)), (1, .ref (ad 11)), (2, .int (nI y9)), (3, .int 200), (4, .int (nI (y9 * 20))), (5, .int ra), (6, .int (nI p9)), (7, .int (cI c)), (8, .int (nI tu))]) e_4 rfl rfl ?_
  refine j_istore (lv' := [(9, .int (nI p9)), (0, .ref (ad 5)), (1, .ref (ad 11)), (2, .int (nI y9)), (3, .int 200), (4, .int (nI (y9 * 20))), (5, .int ra), (6, .int (nI p9)), (7, .int (cI c)), (8, .int (nI tu))]) C dX6_writeRow_48 (by rw [hn9]; decide) rfl ?_
  refine j_aload_n C dX6_writeRow_50 rfl 2 rfl ?_
  refine j_iload C dX6_writeRow_51 5 rfl ?_
  refine j_iload C dX6_writeRow_53 0 rfl ?_
  refine j_iload_n C dX6_writeRow_55 rfl 4 rfl ?_
  refine j_iload C dX6_writeRow_56 8 rfl ?_
  refine j_callS C [.ref (ad 11), .int (nI (y9 * 20)), .int (nI p9), .int 200, .int (cI c)] [] mlX6_104 mcX11_firstOther (c_fo S (ad 11) (nI (y9 * 20)) 16000 (wm_11 (S := S) hW) (wk_11 (S := S) hW) (wl_11 (S := S) hW) p9 200 c Ph hPh9 (by omega) (by omega) (by omega)) (M.rm (by decide) (by decide) (Nat.le_of_ble_eq_true rfl) (Nat.le_of_ble_eq_true rfl)) rfl rfl (Nat.le_of_ble_eq_true rfl) dX6_writeRow_58 (fun r_5 S_6 hp_7 => ?_)
  obtain ⟨rfl, e_8⟩ := hp_7
  refine J.eq (S' := S) (st' := [.int (nI (fo Ph p9 200 c))]) (lv' := [(9, .int (nI p9)), (0, .ref (ad 5)), (1, .ref (ad 11)), (2, .int (nI y9)), (3, .int 200), (4, .int (nI (y9 * 20))), (5, .int ra), (6, .int (nI p9)), (7, .int (cI c)), (8, .int (nI tu))]) e_8 rfl rfl ?_
  show J _ _ _ _ _ 61 _
  refine J.eq (st' := .int (nI a1) :: []) rfl rfl (congrArg (fun z9 => Value.int z9 :: []) (congrArg nI e1)) ?_
  refine j_istore (lv' := [(10, .int (nI a1)), (9, .int (nI p9)), (0, .ref (ad 5)), (1, .ref (ad 11)), (2, .int (nI y9)), (3, .int 200), (4, .int (nI (y9 * 20))), (5, .int ra), (6, .int (nI p9)), (7, .int (cI c)), (8, .int (nI tu))]) C dX6_writeRow_61 (by rw [hn9]; decide) rfl ?_
  refine j_aload_n C dX6_writeRow_63 rfl 3 rfl ?_
  refine j_iload C dX6_writeRow_64 7 rfl ?_
  refine j_iload C dX6_writeRow_66 8 rfl ?_
  refine j_iload_n C dX6_writeRow_68 rfl 5 rfl ?_
  refine j_iload C dX6_writeRow_69 9 rfl ?_
  refine j_callS C [.ref (ad 11), .int ra, .int (nI p9), .int 200, .int (cI c)] [] mlX6_108 mcX11_firstChange (c_fc1 S (ad 11) ra 16000 (wm_11 (S := S) hW) (wk_11 (S := S) hW) (wl_11 (S := S) hW) 200 c Pa hPa9 (by omega) (by omega) p9 (by omega)) (M.rm (by decide) (by decide) (Nat.le_of_ble_eq_true rfl) (Nat.le_of_ble_eq_true rfl)) rfl rfl (Nat.le_of_ble_eq_true rfl) dX6_writeRow_71 (fun r_9 S_10 hp_11 => ?_)
  obtain ⟨rfl, e_12⟩ := hp_11
  refine J.eq (S' := S) (st' := [.int (nI (fch Pa c (p9 + 1) 200))]) (lv' := [(10, .int (nI a1)), (9, .int (nI p9)), (0, .ref (ad 5)), (1, .ref (ad 11)), (2, .int (nI y9)), (3, .int 200), (4, .int (nI (y9 * 20))), (5, .int ra), (6, .int (nI p9)), (7, .int (cI c)), (8, .int (nI tu))]) e_12 rfl rfl ?_
  refine J.eq (st' := .int (nI b1) :: []) rfl rfl (congrArg (fun z9 => Value.int z9 :: []) (congrArg nI e2)) ?_
  refine j_istore (lv' := [(11, .int (nI b1)), (10, .int (nI a1)), (9, .int (nI p9)), (0, .ref (ad 5)), (1, .ref (ad 11)), (2, .int (nI y9)), (3, .int 200), (4, .int (nI (y9 * 20))), (5, .int ra), (6, .int (nI p9)), (7, .int (cI c)), (8, .int (nI tu))]) C dX6_writeRow_74 (by rw [hn9]; decide) rfl ?_
  show J _ _ _ _ _ 76 _
  refine j_aload_n C dX6_writeRow_76 rfl 4 rfl ?_
  refine j_iload C dX6_writeRow_77 8 rfl ?_
  refine j_iload C dX6_writeRow_79 0 rfl ?_
  refine j_iload_n C dX6_writeRow_81 rfl 6 rfl ?_
  refine j_iconst (v := 1) C dX6_writeRow_82 (by decide) ?_
  refine j_iload C dX6_writeRow_83 10 rfl ?_
  refine j_isub (v := cI (!c)) C dX6_writeRow_85 (cI_not c) ?_
  refine j_callS C [.ref (ad 11), .int ra, .int (nI b1), .int 200, .int (cI (!c))] [] mlX6_104 mcX11_firstOther (c_fo S (ad 11) ra 16000 (wm_11 (S := S) hW) (wk_11 (S := S) hW) (wl_11 (S := S) hW) b1 200 (!c) Pa hPa9 (by omega) (by omega) (by omega)) (M.rm (by decide) (by decide) (Nat.le_of_ble_eq_true rfl) (Nat.le_of_ble_eq_true rfl)) rfl rfl (Nat.le_of_ble_eq_true rfl) dX6_writeRow_86 (fun r_13 S_14 hp_15 => ?_)
  obtain ⟨rfl, e_16⟩ := hp_15
  refine J.eq (S' := S) (st' := [.int (nI (fo Pa b1 200 (!c)))]) (lv' := [(11, .int (nI b1)), (10, .int (nI a1)), (9, .int (nI p9)), (0, .ref (ad 5)), (1, .ref (ad 11)), (2, .int (nI y9)), (3, .int 200), (4, .int (nI (y9 * 20))), (5, .int ra), (6, .int (nI p9)), (7, .int (cI c)), (8, .int (nI tu))]) e_16 rfl rfl ?_
  show J _ _ _ _ _ 89 _
  refine J.eq (st' := .int (nI b2) :: []) rfl rfl (congrArg (fun z9 => Value.int z9 :: []) (congrArg nI e3)) ?_
  refine j_istore (lv' := [(12, .int (nI b2)), (11, .int (nI b1)), (10, .int (nI a1)), (9, .int (nI p9)), (0, .ref (ad 5)), (1, .ref (ad 11)), (2, .int (nI y9)), (3, .int 200), (4, .int (nI (y9 * 20))), (5, .int ra), (6, .int (nI p9)), (7, .int (cI c)), (8, .int (nI tu))]) C dX6_writeRow_89 (by rw [hn9]; decide) rfl ?_
  refine j_iload C dX6_writeRow_91 2 rfl ?_
  refine j_iload C dX6_writeRow_93 1 rfl ?_
  refine j_isub (v := (nI a1 - nI b1)) C dX6_writeRow_95 rfl ?_
  refine j_iconst (v := 3) C dX6_writeRow_96 (by decide) ?_
  refine j_iadd (v := nI jn) C dX6_writeRow_97 (near_eq hj (by omega) (by omega) (by omega)) ?_
  refine j_istore (lv' := [(13, .int (nI jn)), (12, .int (nI b2)), (11, .int (nI b1)), (10, .int (nI a1)), (9, .int (nI p9)), (0, .ref (ad 5)), (1, .ref (ad 11)), (2, .int (nI y9)), (3, .int 200), (4, .int (nI (y9 * 20))), (5, .int ra), (6, .int (nI p9)), (7, .int (cI c)), (8, .int (nI tu))]) C dX6_writeRow_98 (by rw [hn9]; decide) rfl ?_
  refine j_iload C dX6_writeRow_100 1 rfl ?_
  show J _ _ _ _ _ 102 _
  refine j_iload C dX6_writeRow_102 3 rfl ?_
  refine j_ic_ge (tgt := 120) C dX6_writeRow_104 (by decide) (fun c_104 => ?_) (fun c_104 => absurd (nI_le hc (by omega)) c_104)
  refine j_iload C dX6_writeRow_120 0 rfl ?_
  refine j_if_lt (tgt := 172) C dX6_writeRow_122 (by decide) (fun c_122 => absurd c_122 (nI_pos (by omega))) (fun c_122 => ?_)
  refine j_iload C dX6_writeRow_125 0 rfl ?_
  refine j_gets C 5 rfl (Or.inr ⟨_, gsX6_111⟩) dX6_writeRow_127 ?_
  refine j_stlen (v := 7) C 5 rfl dX6_writeRow_130 (by decide) ?_
  refine j_ic_ge (tgt := 172) C dX6_writeRow_131 (by decide) (fun c_131 => ?_) (fun c_131 => absurd (nI_le (a := 7) hj7 (by omega)) c_131)
  show J _ _ _ _ _ 172 _
  refine j_aload_n C dX6_writeRow_172 rfl 6 rfl ?_
  refine j_iload C dX6_writeRow_173 9 rfl ?_
  refine j_iload C dX6_writeRow_175 3 rfl ?_
  refine j_iload_n C dX6_writeRow_177 rfl 8 rfl ?_
  refine j_iconst (v := 1) C dX6_writeRow_178 (by decide) ?_
  refine j_iload C dX6_writeRow_179 12 rfl ?_
  refine j_isub (v := cI (!c)) C dX6_writeRow_181 (cI_not c) ?_
  refine j_callS C [.ref (ad 11), .int (nI (y9 * 20)), .int (nI a1), .int 200, .int (cI (!c))] [] mlX6_104 mcX11_firstOther (c_fo S (ad 11) (nI (y9 * 20)) 16000 (wm_11 (S := S) hW) (wk_11 (S := S) hW) (wl_11 (S := S) hW) a1 200 (!c) Ph hPh9 (by omega) (by omega) (by omega)) (M.rm (by decide) (by decide) (Nat.le_of_ble_eq_true rfl) (Nat.le_of_ble_eq_true rfl)) rfl rfl (Nat.le_of_ble_eq_true rfl) dX6_writeRow_182 (fun r_17 S_18 hp_19 => ?_)
  obtain ⟨rfl, e_20⟩ := hp_19
  refine J.eq (S' := S) (st' := [.int (nI (fo Ph a1 200 (!c)))]) (lv' := [(13, .int (nI jn)), (12, .int (nI b2)), (11, .int (nI b1)), (10, .int (nI a1)), (9, .int (nI p9)), (0, .ref (ad 5)), (1, .ref (ad 11)), (2, .int (nI y9)), (3, .int 200), (4, .int (nI (y9 * 20))), (5, .int ra), (6, .int (nI p9)), (7, .int (cI c)), (8, .int (nI tu))]) e_20 rfl rfl ?_
  show J _ _ _ _ _ 185 _
  refine J.eq (st' := .int (nI a2) :: []) rfl rfl (congrArg (fun z9 => Value.int z9 :: []) (congrArg nI (by first | exact e4))) ?_
  refine j_istore (lv' := [(14, .int (nI a2)), (13, .int (nI jn)), (12, .int (nI b2)), (11, .int (nI b1)), (10, .int (nI a1)), (9, .int (nI p9)), (0, .ref (ad 5)), (1, .ref (ad 11)), (2, .int (nI y9)), (3, .int 200), (4, .int (nI (y9 * 20))), (5, .int ra), (6, .int (nI p9)), (7, .int (cI c)), (8, .int (nI tu))]) C dX6_writeRow_185 (by rw [hn9]; decide) rfl ?_
  refine j_aload_n C dX6_writeRow_187 rfl 6 rfl ?_
  refine j_iconst (v := 1) C dX6_writeRow_188 (by decide) ?_
  refine j_iconst (v := 3) C dX6_writeRow_189 (by decide) ?_
  refine j_callV (ci := 6) C [.int 1, .int 3] [] mlX6_80 mcX6_putBits (c_pb S ad hW 1 3 tb hi601 hi609 (by omega) (by omega)) (wm_5 (S := S) hW) (wk_5 (S := S) hW) rfl (M.rm (by decide) (by decide) (Nat.le_of_ble_eq_true rfl) (Nat.le_of_ble_eq_true rfl)) rfl rfl (Nat.le_of_ble_eq_true rfl) dX6_writeRow_190 (fun r_23 S_24 hp_25 => ?_)
  obtain ⟨rfl, hf_26, e_21, e_22⟩ := hp_25
  refine J.eq (st' := []) rfl rfl rfl ?_
  have hf_27 : Fm (fun f9 b9 => (f9 = 601 ∧ b9 = (ad 5)) ∨ (f9 = 608 ∧ b9 = (ad 5)) ∨ (f9 = 609 ∧ b9 = (ad 5))) (fun _ _ => False) (fun b9 => b9 = (ad 7)) S0 S_24 := hF.then hf_26 (fun a9 ha9 => ⟨(fun f9 h9 => (fun h9 => h9.elim (fun h8 => (Or.inl h8)) (fun h9 => h9.elim (fun h8 => (Or.inr (Or.inl h8))) (fun h8 => (Or.inr (Or.inr h8))))) h9), (fun f9 h9 => h9.elim), (fun h9 => (fun h8 => h8) h9)⟩)
  have hW_28 : Wd ad S_24 := hW.fm hf_26 (by intro _ _ h9; exact h9) (by intro p9 hp9; simp only [wqL, List.mem_cons, List.not_mem_nil, or_false] at hp9; rcases hp9 with rfl | rfl <;> intro h9 <;> skip <;> exact absurd h9 (wn hW (by decide) (by decide) (by decide)))
  have hx_29 : aI S_24 (ad 11) = D := by
    have e0_9 : (aI S_24 (ad 11)) = (aI S (ad 11)) := funext fun j9 => hf_26.ai (wm_11 (S := S) hW) (fun q9 => (wn (S := S) hW (i := 11) (j := 7) (by decide) (by decide) (by decide)) q9) j9
    first | (rw [e0_9]; exact hD) | rw [e0_9]
  refine j_aload_n C dX6_writeRow_193 rfl 6 rfl ?_
  refine j_iload C dX6_writeRow_194 4 rfl ?_
  refine j_iload C dX6_writeRow_196 5 rfl ?_
  show J _ _ _ _ _ 198 _
  refine j_isub (v := nI (a1 - p9)) C dX6_writeRow_198 (pk_sub (a := a1) (b := p9) (by omega)) ?_
  refine j_iload C dX6_writeRow_199 13 rfl ?_
  refine j_callV (ci := 6) C [.int (nI (a1 - p9)), .int (cI c)] [] mlX6_117 mcX6_putRun (c_pr S_24 ad hW_28 (a1 - p9) c (tb + 3) e_21 e_22 (by omega) (by omega)) (wm_5 (S := S_24) hW_28) (wk_5 (S := S_24) hW_28) rfl (M.rm (by decide) (by decide) (Nat.le_of_ble_eq_true rfl) (Nat.le_of_ble_eq_true rfl)) rfl rfl (Nat.le_of_ble_eq_true rfl) dX6_writeRow_201 (fun r_32 S_33 hp_34 => ?_)
  obtain ⟨rfl, hf_35, e_30, e_31⟩ := hp_34
  refine J.eq (st' := []) rfl rfl rfl ?_
  have hf_36 : Fm (fun f9 b9 => (f9 = 601 ∧ b9 = (ad 5)) ∨ (f9 = 608 ∧ b9 = (ad 5)) ∨ (f9 = 609 ∧ b9 = (ad 5))) (fun _ _ => False) (fun b9 => b9 = (ad 7)) S0 S_33 := hf_27.then hf_35 (fun a9 ha9 => ⟨(fun f9 h9 => (fun h9 => h9.elim (fun h8 => (Or.inl h8)) (fun h9 => h9.elim (fun h8 => (Or.inr (Or.inl h8))) (fun h8 => (Or.inr (Or.inr h8))))) h9), (fun f9 h9 => h9.elim), (fun h9 => (fun h8 => h8) h9)⟩)
  have hW_37 : Wd ad S_33 := hW_28.fm hf_35 (by intro _ _ h9; exact h9) (by intro p9 hp9; simp only [wqL, List.mem_cons, List.not_mem_nil, or_false] at hp9; rcases hp9 with rfl | rfl <;> intro h9 <;> skip <;> exact absurd h9 (wn hW_28 (by decide) (by decide) (by decide)))
  have hx_38 : aI S_33 (ad 11) = D := by
    have e0_9 : (aI S_33 (ad 11)) = (aI S_24 (ad 11)) := funext fun j9 => hf_35.ai (wm_11 (S := S_24) hW_28) (fun q9 => (wn (S := S_24) hW_28 (i := 11) (j := 7) (by decide) (by decide) (by decide)) q9) j9
    first | (rw [e0_9]; exact hx_29) | rw [e0_9]
  refine j_aload_n C dX6_writeRow_204 rfl 6 rfl ?_
  refine j_iload C dX6_writeRow_205 0 rfl ?_
  refine j_iload C dX6_writeRow_207 4 rfl ?_
  refine j_isub (v := nI (a2 - a1)) C dX6_writeRow_209 (pk_sub (a := a2) (b := a1) (by omega)) ?_
  refine j_iconst (v := 1) C dX6_writeRow_210 (by decide) ?_
  show J _ _ _ _ _ 211 _
  refine j_iload C dX6_writeRow_211 13 rfl ?_
  refine j_isub (v := cI (!c)) C dX6_writeRow_213 (cI_not c) ?_
  refine j_callV (ci := 6) C [.int (nI (a2 - a1)), .int (cI (!c))] [] mlX6_117 mcX6_putRun (c_pr S_33 ad hW_37 (a2 - a1) (!c) ((tb + 3) + runB c (a1 - p9)) e_30 e_31 (by omega) (by omega)) (wm_5 (S := S_33) hW_37) (wk_5 (S := S_33) hW_37) rfl (M.rm (by decide) (by decide) (Nat.le_of_ble_eq_true rfl) (Nat.le_of_ble_eq_true rfl)) rfl rfl (Nat.le_of_ble_eq_true rfl) dX6_writeRow_214 (fun r_41 S_42 hp_43 => ?_)
  obtain ⟨rfl, hf_44, e_39, e_40⟩ := hp_43
  refine J.eq (st' := []) rfl rfl rfl ?_
  have hf_45 : Fm (fun f9 b9 => (f9 = 601 ∧ b9 = (ad 5)) ∨ (f9 = 608 ∧ b9 = (ad 5)) ∨ (f9 = 609 ∧ b9 = (ad 5))) (fun _ _ => False) (fun b9 => b9 = (ad 7)) S0 S_42 := hf_36.then hf_44 (fun a9 ha9 => ⟨(fun f9 h9 => (fun h9 => h9.elim (fun h8 => (Or.inl h8)) (fun h9 => h9.elim (fun h8 => (Or.inr (Or.inl h8))) (fun h8 => (Or.inr (Or.inr h8))))) h9), (fun f9 h9 => h9.elim), (fun h9 => (fun h8 => h8) h9)⟩)
  have hW_46 : Wd ad S_42 := hW_37.fm hf_44 (by intro _ _ h9; exact h9) (by intro p9 hp9; simp only [wqL, List.mem_cons, List.not_mem_nil, or_false] at hp9; rcases hp9 with rfl | rfl <;> intro h9 <;> skip <;> exact absurd h9 (wn hW_37 (by decide) (by decide) (by decide)))
  have hx_47 : aI S_42 (ad 11) = D := by
    have e0_9 : (aI S_42 (ad 11)) = (aI S_33 (ad 11)) := funext fun j9 => hf_44.ai (wm_11 (S := S_33) hW_37) (fun q9 => (wn (S := S_33) hW_37 (i := 11) (j := 7) (by decide) (by decide) (by decide)) q9) j9
    first | (rw [e0_9]; exact hx_38) | rw [e0_9]
  refine j_iload C dX6_writeRow_217 0 rfl ?_
  refine j_istore (lv' := [(6, .int (nI a2)), (14, .int (nI a2)), (13, .int (nI jn)), (12, .int (nI b2)), (11, .int (nI b1)), (10, .int (nI a1)), (9, .int (nI p9)), (0, .ref (ad 5)), (1, .ref (ad 11)), (2, .int (nI y9)), (3, .int 200), (4, .int (nI (y9 * 20))), (5, .int ra), (7, .int (cI c)), (8, .int (nI tu))]) C dX6_writeRow_219 (by rw [hn9]; decide) rfl ?_
  refine j_iinc (q := 14) (v := nI (tu + 1)) (lv' := [(8, .int (nI (tu + 1))), (6, .int (nI a2)), (14, .int (nI a2)), (13, .int (nI jn)), (12, .int (nI b2)), (11, .int (nI b1)), (10, .int (nI a1)), (9, .int (nI p9)), (0, .ref (ad 5)), (1, .ref (ad 11)), (2, .int (nI y9)), (3, .int 200), (4, .int (nI (y9 * 20))), (5, .int ra), (7, .int (cI c))]) C dX6_writeRow_221 rfl (nI_add tu 1) (by rw [hn9]; decide) rfl ?_
  refine j_goto (tgt := 30) C dX6_writeRow_224 (by decide) ?_
  refine J.sub [8, 9, 10, 11, 12, 13, 1, 14, 0] (lv' := [(0, .ref (ad 5)), (1, .ref (ad 11)), (2, .int (nI y9)), (3, .int 200), (4, .int (nI (y9 * 20))), (5, .int ra), (6, .int (nI a2)), (7, .int (cI c)), (8, .int (nI (tu + 1)))]) (by rfl) ?_
  exact K S_42 ⟨hW_46, hf_45, e_39, e_40, hx_47⟩

set_option maxRecDepth 100000 in
set_option maxHeartbeats 4000000 in
theorem rt_end {x : JX} {Q : Option Value → Hp → Prop} {S0 : Hp} (C : CB x RX6 cX6_writeRow) (M : CM x 5 0 0 none S0 Q) (hn9 : x_n x = 15) (ad : Nat → Nat) (S : Hp) (D : Nat → Int32) (tb y9 tu : Nat) (ra : Int32) (Ph Pa : Nat → Bool) (hy : y9 < 240) (hPh : RP D (nI (y9 * 20)) Ph 200 16000) (hPa : RP D ra Pa 200 16000) (c : Bool) (hq : Q none S) : J x 0 0 S [(0, .ref (ad 5)), (1, .ref (ad 11)), (2, .int (nI y9)), (3, .int 200), (4, .int (nI (y9 * 20))), (5, .int ra), (6, .int (nI 200)), (7, .int (cI c)), (8, .int (nI tu))] 30 [] := by
  refine j_iload C dX6_writeRow_30 8 rfl ?_
  refine j_iload_n C dX6_writeRow_32 rfl 3 rfl ?_
  refine j_ic_gt (tgt := 227) C dX6_writeRow_33 (by decide) (fun c_33 => ?_) (fun c_33 => ?_)
  · skip
    exact j_vret C M dX6_writeRow_227 (by decide) (by decide) hq
  · skip
    refine j_iload C dX6_writeRow_36 6 rfl ?_
    refine j_iload_n C dX6_writeRow_38 rfl 3 rfl ?_
    refine j_ic_ge (tgt := 227) C dX6_writeRow_39 (by decide) (fun c_39 => ?_) (fun c_39 => absurd (by decide) c_39)
    exact j_vret C M dX6_writeRow_227 (by decide) (by decide) hq

theorem bnot_ne {a c : Bool} (h : a ≠ c) : a = !c := by cases a <;> cases c <;> simp_all
theorem fo_bnot {P : Nat → Bool} {fr wd : Nat} {c : Bool} (h : fo P fr wd (!c) < wd) : P (fo P fr wd (!c)) = c := by
  have := fo_ne h
  cases hc : c <;> simp_all
theorem fch_le {P : Nat → Bool} {c : Bool} {fr wd : Nat} : fch P c fr wd ≤ wd := fo_le
theorem fch_ge {P : Nat → Bool} {c : Bool} {fr wd : Nat} (h : fr ≤ wd) : fr ≤ fch P c fr wd := by
  unfold fch
  generalize (if fr = 0 then false else P (fr - 1)) = d
  by_cases e : d = c
  · rw [if_pos e]; exact fo_ge h
  · rw [if_neg e]; exact Nat.le_trans (fo_ge h) (fo_ge fo_le)

set_option maxRecDepth 100000 in
set_option maxHeartbeats 4000000 in
theorem rows_n {x : JX} {Q : Option Value → Hp → Prop} {S0 : Hp} (C : CB x RX6 cX6_writeRow) (M : CM x 5 0 0 none S0 Q) (hn9 : x_n x = 15) (ad : Nat → Nat) (D : Nat → Int32) (y9 : Nat) (ra : Int32) (Ph Pa : Nat → Bool) (hy : y9 < 240) (hPh : RP D (nI (y9 * 20)) Ph 200 16000) (hPa : RP D ra Pa 200 16000) : ∀ (m p9 : Nat) (c : Bool) (S : Hp) (tb tu : Nat), p9 + m = 200 → tu ≤ p9 + 1 → (p9 < 200 → Ph p9 = c) → SF ad S0 S D tb → tb + 24 * m < 480000 → (∀ (S' : Hp) (tb' : Nat), tb ≤ tb' → tb' ≤ tb + 24 * m → SF ad S0 S' D tb' → Q none S') → J x 0 0 S [(0, .ref (ad 5)), (1, .ref (ad 11)), (2, .int (nI y9)), (3, .int 200), (4, .int (nI (y9 * 20))), (5, .int ra), (6, .int (nI p9)), (7, .int (cI c)), (8, .int (nI tu))] 30 [] := by
  intro m
  induction m using Nat.strongRecOn with
  | ind m ih =>
    intro p9 c S tb tu hm htu hpc hS ht hq
    rcases Nat.lt_or_ge p9 200 with hp | hp
    case inr =>
      have e9 : p9 = 200 := by omega
      subst e9
      exact rt_end C M hn9 ad S D tb y9 tu ra Ph Pa hy hPh hPa c (hq S tb (Nat.le_refl _) (by omega) hS)
    obtain ⟨a1, e1⟩ : ∃ a1, fo Ph p9 200 c = a1 := ⟨_, rfl⟩
    obtain ⟨b1, e2⟩ : ∃ b1, fch Pa c (p9 + 1) 200 = b1 := ⟨_, rfl⟩
    obtain ⟨b2, e3⟩ : ∃ b2, fo Pa b1 200 (!c) = b2 := ⟨_, rfl⟩
    have ha1 : a1 ≤ 200 := e1 ▸ fo_le
    have hf1 : p9 ≤ a1 := e1 ▸ fo_ge (by omega)
    have hb1 : b1 ≤ 200 := e2 ▸ fch_le
    have hg1 : p9 + 1 ≤ b1 := e2 ▸ fch_ge (by omega)
    have hb2 : b2 ≤ 200 := e3 ▸ fo_le
    have hg2 : b1 ≤ b2 := e3 ▸ fo_ge hb1
    have hlt : p9 < a1 := by
        rcases Nat.lt_or_ge p9 a1 with h | h
        · exact h
        · exact absurd (hpc hp) (by have e9 : a1 = p9 := by omega
                                    have h3 := fo_ne (P := Ph) (c := c) (fr := p9) (wd := 200) (by omega)
                                    rw [e1, e9] at h3; exact h3)
    have hin : ∀ j, p9 ≤ j → j < a1 → Ph j = c := fun j h1 h2 => fo_eq h1 (e1 ▸ h2)
    have hna : a1 < 200 → Ph a1 = !c := fun h => bnot_ne (by have := fo_ne (P := Ph) (c := c) (fr := p9) (wd := 200) (by omega); rw [e1] at this; exact this)
    rcases Nat.lt_or_ge b2 a1 with hc | hc
    · exact rt_nP C M hn9 ad S D tb y9 tu ra Ph Pa hy hPh hPa p9 c hp a1 b1 b2 e1 e2 e3 hc hb1 hb2 ha1 (by omega) hS (by omega) (fun S9 h9 => ih (200 - b2) (by omega) b2 c S9 (tb + 4) (tu + 1) (by omega) (by omega) (fun _ => hin b2 (by omega) hc) h9 (by omega) (fun S8 t8 q1 q2 q3 => hq S8 t8 (by omega) (by omega) q3))
    rcases Nat.lt_or_ge (a1 + 3) b1 with hj | hj
    · skip
      obtain ⟨a2, e4⟩ : ∃ a2, fo Ph a1 200 (!c) = a2 := ⟨_, rfl⟩
      have ha3 : a2 ≤ 200 := e4 ▸ fo_le
      have ha2 : a1 ≤ a2 := e4 ▸ fo_ge ha1
      have hlt2 : a1 < 200 → a1 < a2 := fun h => by
          rcases Nat.lt_or_ge a1 a2 with q | q
          · exact q
          · exact absurd (hna h) (by have e9 : a2 = a1 := by omega
                                     have h3 := fo_ne (P := Ph) (c := !c) (fr := a1) (wd := 200) (by omega)
                                     rw [e4, e9] at h3; exact h3)
      have hr1 := runB_le c (a1 - p9) (by omega)
      have hr2 := runB_le (!c) (a2 - a1) (by omega)
      exact rt_nL C M hn9 ad S D tb y9 tu ra Ph Pa hy hPh hPa p9 c hp a1 b1 b2 e1 e2 e3 a2 e4 hc hj hb1 hb2 ha1 hf1 ha2 ha3 (by omega) hS (by omega) (fun S9 h9 => ih (200 - a2) (by omega) a2 c S9 (tb + 3 + runB c (a1 - p9) + runB (!c) (a2 - a1)) (tu + 1) (by omega) (by omega) (fun h => by have q := fo_bnot (P := Ph) (c := c) (fr := a1) (wd := 200) (by omega); rw [e4] at q; exact q) h9 (by omega) (fun S8 t8 q1 q2 q3 => hq S8 t8 (by omega) (by omega) q3))
    obtain ⟨jn, hjn⟩ : ∃ jn, a1 + 3 = b1 + jn := ⟨a1 + 3 - b1, by omega⟩
    rcases Nat.lt_or_ge jn 7 with hj7 | hj7
    · have hnb := nb_le jn hj7
      exact rt_nN C M hn9 ad S D tb y9 tu ra Ph Pa hy hPh hPa p9 c hp a1 b1 b2 e1 e2 e3 jn hc hjn hj7 hb1 hb2 ha1 (by omega) hS (by omega) (fun S9 h9 => ih (200 - a1) (by omega) a1 (!c) S9 (tb + nbN jn) (tu + 1) (by omega) (by omega) hna h9 (by omega) (fun S8 t8 q1 q2 q3 => hq S8 t8 (by omega) (by omega) q3))
    · skip
      obtain ⟨a2, e4⟩ : ∃ a2, fo Ph a1 200 (!c) = a2 := ⟨_, rfl⟩
      have ha3 : a2 ≤ 200 := e4 ▸ fo_le
      have ha2 : a1 ≤ a2 := e4 ▸ fo_ge ha1
      have hlt2 : a1 < 200 → a1 < a2 := fun h => by
          rcases Nat.lt_or_ge a1 a2 with q | q
          · exact q
          · exact absurd (hna h) (by have e9 : a2 = a1 := by omega
                                     have h3 := fo_ne (P := Ph) (c := !c) (fr := a1) (wd := 200) (by omega)
                                     rw [e4, e9] at h3; exact h3)
      have hr1 := runB_le c (a1 - p9) (by omega)
      have hr2 := runB_le (!c) (a2 - a1) (by omega)
      exact rt_nH C M hn9 ad S D tb y9 tu ra Ph Pa hy hPh hPa p9 c hp a1 b1 b2 e1 e2 e3 jn a2 e4 hc hjn hj7 hb1 hb2 ha1 hf1 ha2 ha3 (by omega) hS (by omega) (fun S9 h9 => ih (200 - a2) (by omega) a2 c S9 (tb + 3 + runB c (a1 - p9) + runB (!c) (a2 - a1)) (tu + 1) (by omega) (by omega) (fun h => by have q := fo_bnot (P := Ph) (c := c) (fr := a1) (wd := 200) (by omega); rw [e4] at q; exact q) h9 (by omega) (fun S8 t8 q1 q2 q3 => hq S8 t8 (by omega) (by omega) q3))

set_option maxRecDepth 100000 in
set_option maxHeartbeats 4000000 in
theorem rows_f {x : JX} {Q : Option Value → Hp → Prop} {S0 : Hp} (C : CB x RX6 cX6_writeRow) (M : CM x 5 0 0 none S0 Q) (hn9 : x_n x = 15) (ad : Nat → Nat) (S : Hp) (D : Nat → Int32) (tb y9 : Nat) (ra : Int32) (Ph Pa : Nat → Bool) (hy : y9 < 240) (hPh : RP D (nI (y9 * 20)) Ph 200 16000) (hPa : RP D ra Pa 200 16000) (hS : SF ad S0 S D tb) (ht : tb + 4824 < 480000) (hq : ∀ (S' : Hp) (tb' : Nat), tb ≤ tb' → tb' ≤ tb + 4824 → SF ad S0 S' D tb' → Q none S') : J x 0 0 S [(0, .ref (ad 5)), (1, .ref (ad 11)), (2, .int (nI y9)), (3, .int 200), (4, .int (nI (y9 * 20))), (5, .int ra), (6, .int (-1)), (7, .int (cI false)), (8, .int (nI 0))] 30 [] := by
  obtain ⟨tu, htu⟩ : ∃ tu : Nat, tu = 0 := ⟨0, rfl⟩
  rw [show nI 0 = nI tu by rw [htu]]
  obtain ⟨a1, e1⟩ : ∃ a1, fo Ph 0 200 false = a1 := ⟨_, rfl⟩
  obtain ⟨b1, e2⟩ : ∃ b1, fch Pa false 0 200 = b1 := ⟨_, rfl⟩
  obtain ⟨b2, e3⟩ : ∃ b2, fo Pa b1 200 (!false) = b2 := ⟨_, rfl⟩
  have ha1 : a1 ≤ 200 := e1 ▸ fo_le
  have hf1 : 0 ≤ a1 := e1 ▸ fo_ge (by omega)
  have hb1 : b1 ≤ 200 := e2 ▸ fch_le
  have hg1 : 0 ≤ b1 := e2 ▸ fch_ge (by omega)
  have hb2 : b2 ≤ 200 := e3 ▸ fo_le
  have hg2 : b1 ≤ b2 := e3 ▸ fo_ge hb1
  have hin : ∀ j, 0 ≤ j → j < a1 → Ph j = false := fun j h1 h2 => fo_eq h1 (e1 ▸ h2)
  have hna : a1 < 200 → Ph a1 = !false := fun h => bnot_ne (by have := fo_ne (P := Ph) (c := false) (fr := 0) (wd := 200) (by omega); rw [e1] at this; exact this)
  rcases Nat.lt_or_ge b2 a1 with hc | hc
  · exact rt_fP C M hn9 ad S D tb y9 tu ra Ph Pa hy hPh hPa a1 b1 b2 e1 e2 e3 hc hb1 hb2 ha1 (by omega) hS (by omega) (fun S9 h9 => rows_n C M hn9 ad D y9 ra Ph Pa hy hPh hPa (200 - b2) b2 false S9 (tb + 4) (tu + 1) (by omega) (by omega) (fun _ => hin b2 (by omega) hc) h9 (by omega) (fun S8 t8 q1 q2 q3 => hq S8 t8 (by omega) (by omega) q3))
  rcases Nat.lt_or_ge (a1 + 3) b1 with hj | hj
  · skip
    obtain ⟨a2, e4⟩ : ∃ a2, fo Ph a1 200 (!false) = a2 := ⟨_, rfl⟩
    have ha3 : a2 ≤ 200 := e4 ▸ fo_le
    have ha2 : a1 ≤ a2 := e4 ▸ fo_ge ha1
    have hlt2 : a1 < 200 → a1 < a2 := fun h => by
        rcases Nat.lt_or_ge a1 a2 with q | q
        · exact q
        · exact absurd (hna h) (by have e9 : a2 = a1 := by omega
                                   have h3 := fo_ne (P := Ph) (c := !false) (fr := a1) (wd := 200) (by omega)
                                   rw [e4, e9] at h3; exact h3)
    have hr1 := runB_le false (a1 - 0) (by omega)
    have hr2 := runB_le (!false) (a2 - a1) (by omega)
    exact rt_fL C M hn9 ad S D tb y9 tu ra Ph Pa hy hPh hPa a1 b1 b2 e1 e2 e3 a2 e4 hc hj hb1 hb2 ha1 hf1 ha2 ha3 (by omega) hS (by omega) (fun S9 h9 => rows_n C M hn9 ad D y9 ra Ph Pa hy hPh hPa (200 - a2) a2 false S9 (tb + 3 + runB false (a1 - 0) + runB (!false) (a2 - a1)) (tu + 1) (by omega) (by omega) (fun h => by have q := fo_bnot (P := Ph) (c := false) (fr := a1) (wd := 200) (by omega); rw [e4] at q; exact q) h9 (by omega) (fun S8 t8 q1 q2 q3 => hq S8 t8 (by omega) (by omega) q3))
  obtain ⟨jn, hjn⟩ : ∃ jn, a1 + 3 = b1 + jn := ⟨a1 + 3 - b1, by omega⟩
  rcases Nat.lt_or_ge jn 7 with hj7 | hj7
  · have hnb := nb_le jn hj7
    exact rt_fN C M hn9 ad S D tb y9 tu ra Ph Pa hy hPh hPa a1 b1 b2 e1 e2 e3 jn hc hjn hj7 hb1 hb2 ha1 (by omega) hS (by omega) (fun S9 h9 => rows_n C M hn9 ad D y9 ra Ph Pa hy hPh hPa (200 - a1) a1 (!false) S9 (tb + nbN jn) (tu + 1) (by omega) (by omega) hna h9 (by omega) (fun S8 t8 q1 q2 q3 => hq S8 t8 (by omega) (by omega) q3))
  · skip
    obtain ⟨a2, e4⟩ : ∃ a2, fo Ph a1 200 (!false) = a2 := ⟨_, rfl⟩
    have ha3 : a2 ≤ 200 := e4 ▸ fo_le
    have ha2 : a1 ≤ a2 := e4 ▸ fo_ge ha1
    have hlt2 : a1 < 200 → a1 < a2 := fun h => by
        rcases Nat.lt_or_ge a1 a2 with q | q
        · exact q
        · exact absurd (hna h) (by have e9 : a2 = a1 := by omega
                                   have h3 := fo_ne (P := Ph) (c := !false) (fr := a1) (wd := 200) (by omega)
                                   rw [e4, e9] at h3; exact h3)
    have hr1 := runB_le false (a1 - 0) (by omega)
    have hr2 := runB_le (!false) (a2 - a1) (by omega)
    exact rt_fH C M hn9 ad S D tb y9 tu ra Ph Pa hy hPh hPa a1 b1 b2 e1 e2 e3 jn a2 e4 hc hjn hj7 hb1 hb2 ha1 hf1 ha2 ha3 (by omega) hS (by omega) (fun S9 h9 => rows_n C M hn9 ad D y9 ra Ph Pa hy hPh hPa (200 - a2) a2 false S9 (tb + 3 + runB false (a1 - 0) + runB (!false) (a2 - a1)) (tu + 1) (by omega) (by omega) (fun h => by have q := fo_bnot (P := Ph) (c := false) (fr := a1) (wd := 200) (by omega); rw [e4] at q; exact q) h9 (by omega) (fun S8 t8 q1 q2 q3 => hq S8 t8 (by omega) (by omega) q3))
theorem rows_w {x : JX} {Q : Option Value → Hp → Prop} {S0 : Hp} (C : CB x RX6 cX6_writeRow) (M : CM x 5 0 0 none S0 Q) (hn9 : x_n x = 15) (ad : Nat → Nat) (S : Hp) (D : Nat → Int32) (tb y9 : Nat) (ra : Int32) (Ph Pa : Nat → Bool) (hy : y9 < 240) (hPh : RP D (nI (y9 * 20)) Ph 200 16000) (hPa : RP D ra Pa 200 16000) (hw1 : ∀ j, j < 200 → Ph j = false) (hw2 : ∀ j, j < 200 → Pa j = false) (hS : SF ad S0 S D tb) (ht : tb + 4824 < 480000) (hq : ∀ (S' : Hp) (tb' : Nat), tb ≤ tb' → tb' ≤ tb + 1 → SF ad S0 S' D tb' → Q none S') : J x 0 0 S [(0, .ref (ad 5)), (1, .ref (ad 11)), (2, .int (nI y9)), (3, .int 200), (4, .int (nI (y9 * 20))), (5, .int ra), (6, .int (-1)), (7, .int (cI false)), (8, .int (nI 0))] 30 [] := by
  have e1 : fo Ph 0 200 false = 200 := fo_all (by decide) (fun j _ h => hw1 j h)
  have e2 : fch Pa false 0 200 = 200 := (fc_0s (c := false) rfl).trans (fo_all (by decide) (fun j _ h => hw2 j h))
  have e3 : fo Pa 200 200 (!false) = 200 := fo_out (Nat.le_refl _)
  refine rt_fN C M hn9 ad S D tb y9 0 ra Ph Pa hy hPh hPa 200 200 200 e1 e2 e3 3 (by decide) (by decide) (by decide) (by decide) (by decide) (by decide) (by decide) hS (by rw [nb_3]; omega) (fun S9 h9 => ?_)
  rw [nb_3] at h9
  exact rt_end C M hn9 ad S9 D (tb + 1) y9 (0 + 1) ra Ph Pa hy hPh hPa _ (hq S9 (tb + 1) (by omega) (Nat.le_refl _) h9)

/-- the row above, or none -/
def abv (D : Nat → Int32) (y : Nat) : Nat → Bool := if y = 0 then fun _ => false else dotW D (y * 20 - 20)
def whi (P : Nat → Bool) : Prop := ∀ j, j < 200 → P j = false

set_option maxRecDepth 100000 in
set_option maxHeartbeats 4000000 in
theorem c_row1 (S : Hp) (ad : Nat → Nat) (hW : Wd ad S) (D : Nat → Int32) (y9 : Nat) (tb : Nat) (hI_601_ad5 : hI S 601 (ad 5) = nI (tb / 8)) (hI_609_ad5 : hI S 609 (ad 5) = nI (tb % 8)) (hD : aI S (ad 11) = D) (hy : y9 < 240) (ht : tb + 4824 < 480000) (hz : y9 = 0) : Ct 5 yX6_writeRow cX6_writeRow 15 none 0 0 [.ref (ad 5), .ref (ad 11), .int (nI y9), .int 200] S (fun r S' => ∃ tb' : Nat, (tb ≤ tb' ∧ tb' ≤ tb + 4824 ∧ (whi (dotW D (y9 * 20)) → whi (abv D y9) → tb' ≤ tb + 1)) ∧ r = none ∧ SF ad S S' D tb') := by
  refine ct_of (by decide) (Nat.le_of_ble_eq_true rfl) fun x hn9 C M hm9 => ?_
  have C : CB x RX6 cX6_writeRow := C
  refine J.eq (lv' := [(0, .ref (ad 5)), (1, .ref (ad 11)), (2, .int (nI y9)), (3, .int 200)]) rfl rfl rfl ?_
  refine j_iload_n C dX6_writeRow_0 rfl 2 rfl ?_
  refine j_bipush (v := 20) C dX6_writeRow_1 (by decide) ?_
  refine j_imul (v := nI (y9 * 20)) C dX6_writeRow_3 (pk_mul y9 20) ?_
  refine j_istore (lv' := [(4, .int (nI (y9 * 20))), (0, .ref (ad 5)), (1, .ref (ad 11)), (2, .int (nI y9)), (3, .int 200)]) C dX6_writeRow_4 (by rw [hn9]; decide) rfl ?_
  refine j_iload_n C dX6_writeRow_6 rfl 3 rfl ?_
  refine j_if_ne (tgt := 14) C dX6_writeRow_7 (by decide) (fun c_7 => absurd c_7 (fun h9 => h9 (by rw [hz]; rfl))) (fun c_7 => ?_)
  refine j_iconst (v := (-1)) C dX6_writeRow_10 (by decide) ?_
  refine j_goto (tgt := 19) C dX6_writeRow_11 (by decide) ?_
  show J _ _ _ _ _ 19 _
  refine j_istore (lv' := [(5, .int (-1)), (4, .int (nI (y9 * 20))), (0, .ref (ad 5)), (1, .ref (ad 11)), (2, .int (nI y9)), (3, .int 200)]) C dX6_writeRow_19 (by rw [hn9]; decide) rfl ?_
  refine j_iconst (v := (-1)) C dX6_writeRow_21 (by decide) ?_
  refine j_istore (lv' := [(6, .int (-1)), (5, .int (-1)), (4, .int (nI (y9 * 20))), (0, .ref (ad 5)), (1, .ref (ad 11)), (2, .int (nI y9)), (3, .int 200)]) C dX6_writeRow_22 (by rw [hn9]; decide) rfl ?_
  refine j_iconst (v := 0) C dX6_writeRow_24 (by decide) ?_
  refine j_istore (lv' := [(7, .int 0), (6, .int (-1)), (5, .int (-1)), (4, .int (nI (y9 * 20))), (0, .ref (ad 5)), (1, .ref (ad 11)), (2, .int (nI y9)), (3, .int 200)]) C dX6_writeRow_25 (by rw [hn9]; decide) rfl ?_
  refine j_iconst (v := 0) C dX6_writeRow_27 (by decide) ?_
  refine j_istore (lv' := [(8, .int 0), (7, .int 0), (6, .int (-1)), (5, .int (-1)), (4, .int (nI (y9 * 20))), (0, .ref (ad 5)), (1, .ref (ad 11)), (2, .int (nI y9)), (3, .int 200)]) C dX6_writeRow_28 (by rw [hn9]; decide) rfl ?_
  refine J.sub [5, 6, 7, 8, 4, 3, 2, 1, 0] (lv' := [(0, .ref (ad 5)), (1, .ref (ad 11)), (2, .int (nI y9)), (3, .int 200), (4, .int (nI (y9 * 20))), (5, .int (-1)), (6, .int (-1)), (7, .int (cI false)), (8, .int (nI 0))]) (by rfl) ?_
  have hPh : RP D (nI (y9 * 20)) (dotW D (y9 * 20)) 200 16000 := Or.inr ⟨y9 * 20, rfl, rfl, by omega⟩
  have hPa : RP D (-1) (abv D y9) 200 16000 := by rw [show abv D y9 = fun _ => false from if_pos hz]; exact Or.inl ⟨rfl, rfl⟩
  have hS : SF ad S S D tb := ⟨hW, Fm.refl, hI_601_ad5, hI_609_ad5, hD⟩
  by_cases hw : whi (dotW D (y9 * 20)) ∧ whi (abv D y9)
  · exact rows_w C M hn9 ad S D tb y9 (-1) _ _ hy hPh hPa hw.1 hw.2 hS ht (fun S8 t8 q1 q2 q3 => ⟨t8, ⟨q1, by omega, fun _ _ => q2⟩, rfl, q3⟩)
  · exact rows_f C M hn9 ad S D tb y9 (-1) _ _ hy hPh hPa hS ht (fun S8 t8 q1 q2 q3 => ⟨t8, ⟨q1, q2, fun h1 h2 => absurd ⟨h1, h2⟩ hw⟩, rfl, q3⟩)

set_option maxRecDepth 100000 in
set_option maxHeartbeats 4000000 in
theorem c_row0 (S : Hp) (ad : Nat → Nat) (hW : Wd ad S) (D : Nat → Int32) (y9 : Nat) (tb : Nat) (hI_601_ad5 : hI S 601 (ad 5) = nI (tb / 8)) (hI_609_ad5 : hI S 609 (ad 5) = nI (tb % 8)) (hD : aI S (ad 11) = D) (hy : y9 < 240) (ht : tb + 4824 < 480000) (hz : 0 < y9) : Ct 5 yX6_writeRow cX6_writeRow 15 none 0 0 [.ref (ad 5), .ref (ad 11), .int (nI y9), .int 200] S (fun r S' => ∃ tb' : Nat, (tb ≤ tb' ∧ tb' ≤ tb + 4824 ∧ (whi (dotW D (y9 * 20)) → whi (abv D y9) → tb' ≤ tb + 1)) ∧ r = none ∧ SF ad S S' D tb') := by
  refine ct_of (by decide) (Nat.le_of_ble_eq_true rfl) fun x hn9 C M hm9 => ?_
  have C : CB x RX6 cX6_writeRow := C
  refine J.eq (lv' := [(0, .ref (ad 5)), (1, .ref (ad 11)), (2, .int (nI y9)), (3, .int 200)]) rfl rfl rfl ?_
  refine j_iload_n C dX6_writeRow_0 rfl 2 rfl ?_
  refine j_bipush (v := 20) C dX6_writeRow_1 (by decide) ?_
  refine j_imul (v := nI (y9 * 20)) C dX6_writeRow_3 (pk_mul y9 20) ?_
  refine j_istore (lv' := [(4, .int (nI (y9 * 20))), (0, .ref (ad 5)), (1, .ref (ad 11)), (2, .int (nI y9)), (3, .int 200)]) C dX6_writeRow_4 (by rw [hn9]; decide) rfl ?_
  refine j_iload_n C dX6_writeRow_6 rfl 3 rfl ?_
  refine j_if_ne (tgt := 14) C dX6_writeRow_7 (by decide) (fun c_7 => ?_) (fun c_7 => absurd c_7 (nI_ne0 (by omega) (by omega)))
  refine j_iload C dX6_writeRow_14 0 rfl ?_
  refine j_bipush (v := 20) C dX6_writeRow_16 (by decide) ?_
  show J _ _ _ _ _ 18 _
  refine j_isub (v := nI ((y9 * 20) - 20)) C dX6_writeRow_18 (pk_sub (a := (y9 * 20)) (b := 20) (by omega)) ?_
  refine j_istore (lv' := [(5, .int (nI ((y9 * 20) - 20))), (4, .int (nI (y9 * 20))), (0, .ref (ad 5)), (1, .ref (ad 11)), (2, .int (nI y9)), (3, .int 200)]) C dX6_writeRow_19 (by rw [hn9]; decide) rfl ?_
  refine j_iconst (v := (-1)) C dX6_writeRow_21 (by decide) ?_
  refine j_istore (lv' := [(6, .int (-1)), (5, .int (nI ((y9 * 20) - 20))), (4, .int (nI (y9 * 20))), (0, .ref (ad 5)), (1, .ref (ad 11)), (2, .int (nI y9)), (3, .int 200)]) C dX6_writeRow_22 (by rw [hn9]; decide) rfl ?_
  refine j_iconst (v := 0) C dX6_writeRow_24 (by decide) ?_
  refine j_istore (lv' := [(7, .int 0), (6, .int (-1)), (5, .int (nI ((y9 * 20) - 20))), (4, .int (nI (y9 * 20))), (0, .ref (ad 5)), (1, .ref (ad 11)), (2, .int (nI y9)), (3, .int 200)]) C dX6_writeRow_25 (by rw [hn9]; decide) rfl ?_
  refine j_iconst (v := 0) C dX6_writeRow_27 (by decide) ?_
  refine j_istore (lv' := [(8, .int 0), (7, .int 0), (6, .int (-1)), (5, .int (nI ((y9 * 20) - 20))), (4, .int (nI (y9 * 20))), (0, .ref (ad 5)), (1, .ref (ad 11)), (2, .int (nI y9)), (3, .int 200)]) C dX6_writeRow_28 (by rw [hn9]; decide) rfl ?_
  show J _ _ _ _ _ 30 _
  refine J.sub [5, 6, 7, 8, 4, 3, 2, 1, 0] (lv' := [(0, .ref (ad 5)), (1, .ref (ad 11)), (2, .int (nI y9)), (3, .int 200), (4, .int (nI (y9 * 20))), (5, .int (nI (y9 * 20 - 20))), (6, .int (-1)), (7, .int (cI false)), (8, .int (nI 0))]) (by rfl) ?_
  have hPh : RP D (nI (y9 * 20)) (dotW D (y9 * 20)) 200 16000 := Or.inr ⟨y9 * 20, rfl, rfl, by omega⟩
  have hPa : RP D (nI (y9 * 20 - 20)) (abv D y9) 200 16000 := by rw [show abv D y9 = dotW D (y9 * 20 - 20) from if_neg (by omega)]; exact Or.inr ⟨y9 * 20 - 20, rfl, rfl, by omega⟩
  have hS : SF ad S S D tb := ⟨hW, Fm.refl, hI_601_ad5, hI_609_ad5, hD⟩
  by_cases hw : whi (dotW D (y9 * 20)) ∧ whi (abv D y9)
  · exact rows_w C M hn9 ad S D tb y9 (nI (y9 * 20 - 20)) _ _ hy hPh hPa hw.1 hw.2 hS ht (fun S8 t8 q1 q2 q3 => ⟨t8, ⟨q1, by omega, fun _ _ => q2⟩, rfl, q3⟩)
  · exact rows_f C M hn9 ad S D tb y9 (nI (y9 * 20 - 20)) _ _ hy hPh hPa hS ht (fun S8 t8 q1 q2 q3 => ⟨t8, ⟨q1, q2, fun h1 h2 => absurd ⟨h1, h2⟩ hw⟩, rfl, q3⟩)

theorem c_row (S : Hp) (ad : Nat → Nat) (hW : Wd ad S) (D : Nat → Int32) (y9 tb : Nat) (h1 : hI S 601 (ad 5) = nI (tb / 8)) (h2 : hI S 609 (ad 5) = nI (tb % 8)) (hD : aI S (ad 11) = D) (hy : y9 < 240) (ht : tb + 4824 < 480000) : Ct 5 yX6_writeRow cX6_writeRow 15 none 0 0 [.ref (ad 5), .ref (ad 11), .int (nI y9), .int 200] S (fun r S' => ∃ tb' : Nat, (tb ≤ tb' ∧ tb' ≤ tb + 4824 ∧ (whi (dotW D (y9 * 20)) → whi (abv D y9) → tb' ≤ tb + 1)) ∧ r = none ∧ SF ad S S' D tb') := by
  rcases Nat.eq_zero_or_pos y9 with h | h
  · exact c_row1 S ad hW D y9 tb h1 h2 hD hy ht h
  · exact c_row0 S ad hW D y9 tb h1 h2 hD hy ht h
