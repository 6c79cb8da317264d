/-- the law's state between two boxes: T bytes told, its map P -/
def LI (ad : Nat → Nat) (ga ma : Nat) (B : Nat → Nat) (T : Nat) (P : Nat → Nat → Bool) (S : Hp) : Prop := Wd ad S ∧ (ga ∈ hL S ∧ Kd S ga 14 ∧ Ln S ga 7) ∧ (ma ∈ hL S ∧ Kd S ma 14 ∧ Ln S ma 4096) ∧ hI S 1101 (ad 0) = nI (20 * (T / 20)) ∧ hI S 1105 (ad 0) = 0 ∧ hI S 209 (ad 15) = 0 ∧ STR (aI S (ad 1)) B (20 * (T / 20)) ∧ GS (aI S ga) B T ∧ MP (aI S ma) P ∧ (∀ j, aI S (ad 4) j = 0) ∧ (∀ j, aI S (ad 17) j = 0) ∧ (∀ j, aI S (ad 21) j = 0) ∧ (∀ j, aI S (ad 23) j = 0)

theorem li_rI {ad : Nat → Nat} {ga ma : Nat} {B : Nat → Nat} {T : Nat} {P P' : Nat → Nat → Bool} {S : Hp} {f : Nat → Int32} (h : LI ad ga ma B T P S) (hma : ∀ i, i < 37 → ma ≠ ad i) (hgm : ga ≠ ma) (hf : MP f P') : LI ad ga ma B T P' (rI S ma f) := by
  obtain ⟨hW, g1, m1, a1, a2, a3, s1, s2, -, z1, z2, z3, z4⟩ := h
  have e : ∀ q : Nat, q ≠ ma → aI (rI S ma f) q = aI S q := fun q hq => ar_rI hq
  refine ⟨hW.rI, g1, m1, a1, a2, a3, ?_, ?_, ?_, ?_, ?_, ?_, ?_⟩
  · rw [e _ (hma 1 (by decide)).symm]; exact s1
  · rw [e _ hgm]; exact s2
  · rw [show aI (rI S ma f) ma = f from funext fun j => rd_rIs]; exact hf
  · rw [e _ (hma 4 (by decide)).symm]; exact z1
  · rw [e _ (hma 17 (by decide)).symm]; exact z2
  · rw [e _ (hma 21 (by decide)).symm]; exact z3
  · rw [e _ (hma 23 (by decide)).symm]; exact z4

set_option maxRecDepth 100000 in
set_option maxHeartbeats 4000000 in
theorem lt_a {x : JX} {b L : Nat} {xs : Nat → Int32} (C : CB x RL cL_law) (M : LM x b) (X : LX x b L xs) (hn9 : x_n x = 21) (ad : Nat → Nat) (ga ma kq nq : Nat) (hkq : kq ≤ 600000) (hnq : nq ≤ 7302250) (hga : ∀ i, i < 37 → ga ≠ ad i) (hma : ∀ i, i < 37 → ma ≠ ad i) (hgm : ga ≠ ma) (B : Nat → Nat) (hb : ∀ j, B j < 128) (S : Hp) (i : Nat) (hL9 : L ≤ 260) (hi : 2 * i < L) (hi2 : i < 120) (K : J x kq nq S [(0, .ref b), (1, .ref (ad 0)), (2, .ref ga), (3, .ref ma), (4, .int (nI i)), (5, .int (nI (2 * i))), (6, .int (xs (2 * i))), (7, .int (cellN xs L (2 * i + 1))), (8, .int (nI (wN (xs (2 * i)) % 64))), (9, .int (nI (wN ((xs (2 * i)) >>> ((6 : Int32) &&& 31)) % 64))), (10, .int (nI (1 + wN ((xs (2 * i)) >>> ((12 : Int32) &&& 31)) % 32))), (11, .int (nI (1 + wN ((xs (2 * i)) >>> ((17 : Int32) &&& 31)) % 32)))] 134 [.int (nI (kN (xs (2 * i))))]) : J x kq nq S [(0, .ref b), (1, .ref (ad 0)), (2, .ref ga), (3, .ref ma), (4, .int (nI i)), (5, .int (nI (2 * i)))] 33 [] := by
  refine j_iload C dL_law_33 5 rfl ?_
  refine j_aload_n C dL_law_35 rfl 0 rfl ?_
  refine j_slen (v := nI L) C X dL_law_36 rfl ?_
  refine j_ic_ge (tgt := 462) C dL_law_37 (by decide) (fun c_37 => absurd c_37 (nI_ge (by omega) (by omega))) (fun c_37 => ?_)
  refine j_iload C dL_law_40 4 rfl ?_
  refine j_bipush (v := 120) C dL_law_42 (by decide) ?_
  refine j_ic_ge (tgt := 462) C dL_law_44 (by decide) (fun c_44 => absurd c_44 (nI_ge (b := 120) (by omega) (by decide))) (fun c_44 => ?_)
  refine j_aload_n C dL_law_47 rfl 0 rfl ?_
  show J _ _ _ _ _ 48 _
  refine j_iload C dL_law_48 5 rfl ?_
  refine j_sld (j := (2 * i)) C X dL_law_50 (vp_in_nI (by omega) (by omega)) (nI_clamp (by omega)) ?_
  refine j_istore (lv' := [(6, .int (xs (2 * i))), (0, .ref b), (1, .ref (ad 0)), (2, .ref ga), (3, .ref ma), (4, .int (nI i)), (5, .int (nI (2 * i)))]) C dL_law_51 (by rw [hn9]; decide) rfl ?_
  refine j_aload_n C dL_law_53 rfl 1 rfl ?_
  refine j_iload C dL_law_54 6 rfl ?_
  refine j_iconst (v := 1) C dL_law_56 (by decide) ?_
  refine j_iadd (v := nI ((2 * i) + 1)) C dL_law_57 (nI_add (2 * i) 1) ?_
  refine j_callSL C X [.ref b, .int (nI ((2 * i) + 1))] [] mlL_35 mcL_cell (c_cell S b L xs ((2 * i) + 1) hL9 (by omega)) (M.rm (by decide) (by decide) (by omega) (by omega)) rfl rfl (Nat.le_of_ble_eq_true rfl) dL_law_58 (fun r_1 S_2 hp_3 => ?_)
  obtain ⟨rfl, e_4⟩ := hp_3
  refine J.eq (S' := S) (st' := [.int (cellN xs L ((2 * i) + 1))]) e_4 rfl rfl ?_
  show J _ _ _ _ _ 61 _
  refine j_istore (lv' := [(7, .int (cellN xs L ((2 * i) + 1))), (6, .int (xs (2 * i))), (0, .ref b), (1, .ref (ad 0)), (2, .ref ga), (3, .ref ma), (4, .int (nI i)), (5, .int (nI (2 * i)))]) C dL_law_61 (by rw [hn9]; decide) rfl ?_
  refine j_iload C dL_law_63 1 rfl ?_
  refine j_bipush (v := 63) C dL_law_65 (by decide) ?_
  refine j_iand (v := nI (wN (xs (2 * i)) % 64)) C dL_law_67 (and_z _) ?_
  refine j_istore (lv' := [(8, .int (nI (wN (xs (2 * i)) % 64))), (7, .int (cellN xs L ((2 * i) + 1))), (6, .int (xs (2 * i))), (0, .ref b), (1, .ref (ad 0)), (2, .ref ga), (3, .ref ma), (4, .int (nI i)), (5, .int (nI (2 * i)))]) C dL_law_68 (by rw [hn9]; decide) rfl ?_
  refine j_iload C dL_law_70 2 rfl ?_
  refine j_bipush (v := 6) C dL_law_72 (by decide) ?_
  refine j_ishr (v := ((xs (2 * i)) >>> ((6 : Int32) &&& 31))) C dL_law_74 rfl ?_
  show J _ _ _ _ _ 75 _
  refine j_bipush (v := 63) C dL_law_75 (by decide) ?_
  refine j_iand (v := nI (wN ((xs (2 * i)) >>> ((6 : Int32) &&& 31)) % 64)) C dL_law_77 (and_z _) ?_
  refine j_istore (lv' := [(9, .int (nI (wN ((xs (2 * i)) >>> ((6 : Int32) &&& 31)) % 64))), (8, .int (nI (wN (xs (2 * i)) % 64))), (7, .int (cellN xs L ((2 * i) + 1))), (6, .int (xs (2 * i))), (0, .ref b), (1, .ref (ad 0)), (2, .ref ga), (3, .ref ma), (4, .int (nI i)), (5, .int (nI (2 * i)))]) C dL_law_78 (by rw [hn9]; decide) rfl ?_
  refine j_iconst (v := 1) C dL_law_80 (by decide) ?_
  refine j_iload C dL_law_81 3 rfl ?_
  refine j_bipush (v := 12) C dL_law_83 (by decide) ?_
  refine j_ishr (v := ((xs (2 * i)) >>> ((12 : Int32) &&& 31))) C dL_law_85 rfl ?_
  refine j_bipush (v := 31) C dL_law_86 (by decide) ?_
  show J _ _ _ _ _ 88 _
  refine j_iand (v := nI (wN ((xs (2 * i)) >>> ((12 : Int32) &&& 31)) % 32)) C dL_law_88 (and_31 _) ?_
  refine j_iadd (v := nI (1 + (wN ((xs (2 * i)) >>> ((12 : Int32) &&& 31)) % 32))) C dL_law_89 (nI_add 1 (wN ((xs (2 * i)) >>> ((12 : Int32) &&& 31)) % 32)) ?_
  refine j_istore (lv' := [(10, .int (nI (1 + (wN ((xs (2 * i)) >>> ((12 : Int32) &&& 31)) % 32)))), (9, .int (nI (wN ((xs (2 * i)) >>> ((6 : Int32) &&& 31)) % 64))), (8, .int (nI (wN (xs (2 * i)) % 64))), (7, .int (cellN xs L ((2 * i) + 1))), (6, .int (xs (2 * i))), (0, .ref b), (1, .ref (ad 0)), (2, .ref ga), (3, .ref ma), (4, .int (nI i)), (5, .int (nI (2 * i)))]) C dL_law_90 (by rw [hn9]; decide) rfl ?_
  refine j_iconst (v := 1) C dL_law_92 (by decide) ?_
  refine j_iload C dL_law_93 4 rfl ?_
  refine j_bipush (v := 17) C dL_law_95 (by decide) ?_
  refine j_ishr (v := ((xs (2 * i)) >>> ((17 : Int32) &&& 31))) C dL_law_97 rfl ?_
  refine j_bipush (v := 31) C dL_law_98 (by decide) ?_
  show J _ _ _ _ _ 100 _
  refine j_iand (v := nI (wN ((xs (2 * i)) >>> ((17 : Int32) &&& 31)) % 32)) C dL_law_100 (and_31 _) ?_
  refine j_iadd (v := nI (1 + (wN ((xs (2 * i)) >>> ((17 : Int32) &&& 31)) % 32))) C dL_law_101 (nI_add 1 (wN ((xs (2 * i)) >>> ((17 : Int32) &&& 31)) % 32)) ?_
  refine j_istore (lv' := [(11, .int (nI (1 + (wN ((xs (2 * i)) >>> ((17 : Int32) &&& 31)) % 32)))), (10, .int (nI (1 + (wN ((xs (2 * i)) >>> ((12 : Int32) &&& 31)) % 32)))), (9, .int (nI (wN ((xs (2 * i)) >>> ((6 : Int32) &&& 31)) % 64))), (8, .int (nI (wN (xs (2 * i)) % 64))), (7, .int (cellN xs L ((2 * i) + 1))), (6, .int (xs (2 * i))), (0, .ref b), (1, .ref (ad 0)), (2, .ref ga), (3, .ref ma), (4, .int (nI i)), (5, .int (nI (2 * i)))]) C dL_law_102 (by rw [hn9]; decide) rfl ?_
  refine j_iload C dL_law_104 5 rfl ?_
  refine j_bipush (v := 22) C dL_law_106 (by decide) ?_
  refine j_ishr (v := ((xs (2 * i)) >>> ((22 : Int32) &&& 31))) C dL_law_108 rfl ?_
  refine j_iconst (v := 3) C dL_law_109 (by decide) ?_
  refine j_iand C dL_law_110 rfl ?_
  show J _ _ _ _ _ 111 _
  refine j_if_ne (tgt := 118) C dL_law_111 (by decide) (fun c_111 => ?_) (fun c_111 => ?_)
  · skip
    refine j_iload C dL_law_118 5 rfl ?_
    refine j_bipush (v := 22) C dL_law_120 (by decide) ?_
    refine j_ishr (v := ((xs (2 * i)) >>> ((22 : Int32) &&& 31))) C dL_law_122 rfl ?_
    refine j_iconst (v := 3) C dL_law_123 (by decide) ?_
    refine j_iand C dL_law_124 rfl ?_
    refine j_iconst (v := 1) C dL_law_125 (by decide) ?_
    refine j_ic_ne (tgt := 133) C dL_law_126 (by decide) (fun c_126 => ?_) (fun c_126 => ?_)
    · skip
      refine j_iconst (v := 2) C dL_law_133 (by decide) ?_
      refine J.eq (st' := .int (nI (kN (xs (2 * i)))) :: []) rfl rfl (congrArg (fun z9 => Value.int z9 :: []) (by rw [kN_2 c_111 c_126]; rfl)) ?_
      refine J.sub [6, 7, 8, 9, 10, 11, 5, 4, 3, 2, 1, 0] (lv' := [(0, .ref b), (1, .ref (ad 0)), (2, .ref ga), (3, .ref ma), (4, .int (nI i)), (5, .int (nI (2 * i))), (6, .int (xs (2 * i))), (7, .int (cellN xs L (2 * i + 1))), (8, .int (nI (wN (xs (2 * i)) % 64))), (9, .int (nI (wN ((xs (2 * i)) >>> ((6 : Int32) &&& 31)) % 64))), (10, .int (nI (1 + wN ((xs (2 * i)) >>> ((12 : Int32) &&& 31)) % 32))), (11, .int (nI (1 + wN ((xs (2 * i)) >>> ((17 : Int32) &&& 31)) % 32)))]) (by rfl) ?_
      exact K
    · skip
      refine j_iconst (v := 0) C dL_law_129 (by decide) ?_
      show J _ _ _ _ _ 130 _
      refine j_goto (tgt := 134) C dL_law_130 (by decide) ?_
      refine J.eq (st' := .int (nI (kN (xs (2 * i)))) :: []) rfl rfl (congrArg (fun z9 => Value.int z9 :: []) (by rw [kN_0 c_111 c_126]; rfl)) ?_
      refine J.sub [6, 7, 8, 9, 10, 11, 5, 4, 3, 2, 1, 0] (lv' := [(0, .ref b), (1, .ref (ad 0)), (2, .ref ga), (3, .ref ma), (4, .int (nI i)), (5, .int (nI (2 * i))), (6, .int (xs (2 * i))), (7, .int (cellN xs L (2 * i + 1))), (8, .int (nI (wN (xs (2 * i)) % 64))), (9, .int (nI (wN ((xs (2 * i)) >>> ((6 : Int32) &&& 31)) % 64))), (10, .int (nI (1 + wN ((xs (2 * i)) >>> ((12 : Int32) &&& 31)) % 32))), (11, .int (nI (1 + wN ((xs (2 * i)) >>> ((17 : Int32) &&& 31)) % 32)))]) (by rfl) ?_
      exact K
  · skip
    refine j_iconst (v := 1) C dL_law_114 (by decide) ?_
    refine j_goto (tgt := 134) C dL_law_115 (by decide) ?_
    refine J.eq (st' := .int (nI (kN (xs (2 * i)))) :: []) rfl rfl (congrArg (fun z9 => Value.int z9 :: []) (by rw [kN_1 c_111]; rfl)) ?_
    refine J.sub [6, 7, 8, 9, 10, 11, 5, 4, 3, 2, 1, 0] (lv' := [(0, .ref b), (1, .ref (ad 0)), (2, .ref ga), (3, .ref ma), (4, .int (nI i)), (5, .int (nI (2 * i))), (6, .int (xs (2 * i))), (7, .int (cellN xs L (2 * i + 1))), (8, .int (nI (wN (xs (2 * i)) % 64))), (9, .int (nI (wN ((xs (2 * i)) >>> ((6 : Int32) &&& 31)) % 64))), (10, .int (nI (1 + wN ((xs (2 * i)) >>> ((12 : Int32) &&& 31)) % 32))), (11, .int (nI (1 + wN ((xs (2 * i)) >>> ((17 : Int32) &&& 31)) % 32)))]) (by rfl) ?_
    exact K

theorem has_r2 {B : Nat → Nat} {p a : Nat} {l M9 : List Nat} (h : Has B p ((l ++ [a]) ++ M9)) : Has B (p + l.length + 1) M9 := by
  have h1 := has_r h
  rw [List.length_append, ← Nat.add_assoc] at h1
  exact h1
theorem cI_bN (c : Bool) : cI c = nI (bN c) := by cases c <;> rfl
theorem num_bN (c : Bool) : num (bN c) = [48 + bN c] := by cases c <;> rfl
theorem bN_lt (c : Bool) : bN c < 2 := by unfold bN; split <;> decide

set_option maxRecDepth 100000 in
set_option maxHeartbeats 4000000 in
theorem lt_b {x : JX} {b L : Nat} {xs : Nat → Int32} (C : CB x RL cL_law) (M : LM x b) (X : LX x b L xs) (hn9 : x_n x = 21) (ad : Nat → Nat) (ga ma kq nq : Nat) (hkq : kq ≤ 600000) (hnq : nq ≤ 7302250) (hga : ∀ i, i < 37 → ga ≠ ad i) (hma : ∀ i, i < 37 → ma ≠ ad i) (hgm : ga ≠ ma) (B : Nat → Nat) (hb : ∀ j, B j < 128) (S : Hp) (i T : Nat) (u9 : Int32) (b9 : Bx) (P : Nat → Nat → Bool) (hbx : okB b9) (e6 : 1 + wN u9 % 64 = b9.2.2.2.2.2.1) (e3 : decide (wN (u9 >>> ((6 : Int32) &&& 31)) % 2 = 1) = b9.2.2.1) (hB : Has B T (boxL b9)) (hT : T ≤ 3500) (h9 : LI ad ga ma B T P S) (K : ∀ S' : Hp, LI ad ga ma B (T + (boxL b9).length) P S' → J x kq nq S' [(0, .ref b), (1, .ref (ad 0)), (2, .ref ga), (3, .ref ma), (4, .int (nI (i + 1))), (5, .int (nI (2 * i))), (8, .int (nI b9.1)), (9, .int (nI b9.2.1)), (10, .int (nI b9.2.2.2.1)), (11, .int (nI b9.2.2.2.2.1)), (12, .int (nI b9.2.2.2.2.2.2)), (13, .int (nI b9.2.2.2.2.2.1)), (14, .int (cI b9.2.2.1))] 279 []) : J x kq nq S [(0, .ref b), (1, .ref (ad 0)), (2, .ref ga), (3, .ref ma), (4, .int (nI i)), (5, .int (nI (2 * i))), (7, .int u9), (8, .int (nI b9.1)), (9, .int (nI b9.2.1)), (10, .int (nI b9.2.2.2.1)), (11, .int (nI b9.2.2.2.2.1))] 134 [.int (nI b9.2.2.2.2.2.2)] := by
  have hlen := boxL_len b9
  have n1 := num_len b9.1
  have n2 := num_len b9.2.1
  have n3 := num_len b9.2.2.2.1
  have n4 := num_len b9.2.2.2.2.1
  have n5 := num_len b9.2.2.2.2.2.1
  obtain ⟨ok1, ok2, ok3, ok4, ok5, ok6⟩ := hbx
  have n6 : (num (bN b9.2.2.1)).length = 1 := by rw [num_bN]; rfl
  have n7 : (num b9.2.2.2.2.2.2).length = 1 := by rw [num1 (by omega)]; rfl
  have n8 := bN_lt b9.2.2.1
  have r0 := has_r (show Has B T ([27, 42, 112] ++ _) from hB)
  have s1 : Has B T [27, 42, 112] := has_l (show Has B T ([27, 42, 112] ++ _) from hB)
  have q1 : Has B (T + 3) (num b9.1) := has_l (has_l r0)
  have p1 : Has B ((T + 3) + (num b9.1).length) [_] := has_r (has_l r0)
  have r1 := has_r2 r0
  have q2 : Has B (((T + 3) + (num b9.1).length) + 1) (num b9.2.1) := has_l (has_l r1)
  have p2 : Has B ((((T + 3) + (num b9.1).length) + 1) + (num b9.2.1).length) [_] := has_r (has_l r1)
  have r2 := has_r2 r1
  have s2 : Has B (((((T + 3) + (num b9.1).length) + 1) + (num b9.2.1).length) + 1) [27, 42, 118] := has_l r2
  have r3 := has_r r2
  have q3 : Has B ((((((T + 3) + (num b9.1).length) + 1) + (num b9.2.1).length) + 1) + 3) (num (bN b9.2.2.1)) := (by rw [num_bN]; exact has_l (M9 := [79]) (has_l r3))
  have p3 : Has B (((((((T + 3) + (num b9.1).length) + 1) + (num b9.2.1).length) + 1) + 3) + (num (bN b9.2.2.1)).length) [79] := (by rw [n6]; exact has_r (L := [48 + bN b9.2.2.1]) (has_l r3))
  have r4 := has_r r3
  have r4b : Has B ((((((((T + 3) + (num b9.1).length) + 1) + (num b9.2.1).length) + 1) + 3) + (num (bN b9.2.2.1)).length) + 1) _ := (by rw [n6]; exact r4)
  have s3 : Has B ((((((((T + 3) + (num b9.1).length) + 1) + (num b9.2.1).length) + 1) + 3) + (num (bN b9.2.2.1)).length) + 1) [27, 42, 99] := has_l r4b
  have r5 := has_r r4b
  have q6 : Has B (((((((((T + 3) + (num b9.1).length) + 1) + (num b9.2.1).length) + 1) + 3) + (num (bN b9.2.2.1)).length) + 1) + 3) (num b9.2.2.2.1) := has_l (has_l r5)
  have p6 : Has B ((((((((((T + 3) + (num b9.1).length) + 1) + (num b9.2.1).length) + 1) + 3) + (num (bN b9.2.2.1)).length) + 1) + 3) + (num b9.2.2.2.1).length) [_] := has_r (has_l r5)
  have r6 := has_r2 r5
  have q7 : Has B (((((((((((T + 3) + (num b9.1).length) + 1) + (num b9.2.1).length) + 1) + 3) + (num (bN b9.2.2.1)).length) + 1) + 3) + (num b9.2.2.2.1).length) + 1) (num b9.2.2.2.2.1) := has_l (has_l r6)
  have p7 : Has B ((((((((((((T + 3) + (num b9.1).length) + 1) + (num b9.2.1).length) + 1) + 3) + (num (bN b9.2.2.1)).length) + 1) + 3) + (num b9.2.2.2.1).length) + 1) + (num b9.2.2.2.2.1).length) [_] := has_r (has_l r6)
  have r7 := has_r2 r6
  have q8 : Has B (((((((((((((T + 3) + (num b9.1).length) + 1) + (num b9.2.1).length) + 1) + 3) + (num (bN b9.2.2.1)).length) + 1) + 3) + (num b9.2.2.2.1).length) + 1) + (num b9.2.2.2.2.1).length) + 1) (num b9.2.2.2.2.2.1) := has_l (has_l r7)
  have p8 : Has B ((((((((((((((T + 3) + (num b9.1).length) + 1) + (num b9.2.1).length) + 1) + 3) + (num (bN b9.2.2.1)).length) + 1) + 3) + (num b9.2.2.2.1).length) + 1) + (num b9.2.2.2.2.1).length) + 1) + (num b9.2.2.2.2.2.1).length) [_] := has_r (has_l r7)
  have r8 := has_r2 r7
  have q9 : Has B (((((((((((((((T + 3) + (num b9.1).length) + 1) + (num b9.2.1).length) + 1) + 3) + (num (bN b9.2.2.1)).length) + 1) + 3) + (num b9.2.2.2.1).length) + 1) + (num b9.2.2.2.2.1).length) + 1) + (num b9.2.2.2.2.2.1).length) + 1) (num b9.2.2.2.2.2.2) := (by rw [num1 (v := b9.2.2.2.2.2.2) (by omega)]; exact has_l (M9 := [80]) r8)
  have p9 : Has B ((((((((((((((((T + 3) + (num b9.1).length) + 1) + (num b9.2.1).length) + 1) + 3) + (num (bN b9.2.2.1)).length) + 1) + 3) + (num b9.2.2.2.1).length) + 1) + (num b9.2.2.2.2.1).length) + 1) + (num b9.2.2.2.2.2.1).length) + 1) + (num b9.2.2.2.2.2.2).length) [80] := (by rw [n7]; exact has_r (L := [48 + b9.2.2.2.2.2.2]) r8)
  obtain ⟨hW, ⟨m_ga, k_ga, l_ga⟩, ⟨m_ma, k_ma, l_ma⟩, hi1101, hi1105, hi209, hs, hgs, hmp, z_sa, z_fss, z_tss, z_mss⟩ := h9
  refine j_istore (lv' := [(12, .int (nI b9.2.2.2.2.2.2)), (0, .ref b), (1, .ref (ad 0)), (2, .ref ga), (3, .ref ma), (4, .int (nI i)), (5, .int (nI (2 * i))), (7, .int u9), (8, .int (nI b9.1)), (9, .int (nI b9.2.1)), (10, .int (nI b9.2.2.2.1)), (11, .int (nI b9.2.2.2.2.1))]) C dL_law_134 (by rw [hn9]; decide) rfl ?_
  refine j_iconst (v := 1) C dL_law_136 (by decide) ?_
  refine j_iload C dL_law_137 7 rfl ?_
  refine j_bipush (v := 63) C dL_law_139 (by decide) ?_
  refine j_iand (v := nI (wN u9 % 64)) C dL_law_141 (and_z _) ?_
  refine j_iadd (v := nI b9.2.2.2.2.2.1) C dL_law_142 ((nI_add 1 _).trans (congrArg nI e6)) ?_
  refine j_istore (lv' := [(13, .int (nI b9.2.2.2.2.2.1)), (12, .int (nI b9.2.2.2.2.2.2)), (0, .ref b), (1, .ref (ad 0)), (2, .ref ga), (3, .ref ma), (4, .int (nI i)), (5, .int (nI (2 * i))), (7, .int u9), (8, .int (nI b9.1)), (9, .int (nI b9.2.1)), (10, .int (nI b9.2.2.2.1)), (11, .int (nI b9.2.2.2.2.1))]) C dL_law_143 (by rw [hn9]; decide) rfl ?_
  refine j_iload C dL_law_145 8 rfl ?_
  show J _ _ _ _ _ 147 _
  refine j_bipush (v := 6) C dL_law_147 (by decide) ?_
  refine j_ishr (v := (u9 >>> ((6 : Int32) &&& 31))) C dL_law_149 rfl ?_
  refine j_iconst (v := 1) C dL_law_150 (by decide) ?_
  refine j_iand (v := cI b9.2.2.1) C dL_law_151 ((and_1 _).trans (congrArg cI e3)) ?_
  refine j_istore (lv' := [(14, .int (cI b9.2.2.1)), (13, .int (nI b9.2.2.2.2.2.1)), (12, .int (nI b9.2.2.2.2.2.2)), (0, .ref b), (1, .ref (ad 0)), (2, .ref ga), (3, .ref ma), (4, .int (nI i)), (5, .int (nI (2 * i))), (7, .int u9), (8, .int (nI b9.1)), (9, .int (nI b9.2.1)), (10, .int (nI b9.2.2.2.1)), (11, .int (nI b9.2.2.2.2.1))]) C dL_law_152 (by rw [hn9]; decide) rfl ?_
  refine j_iinc (q := 7) (v := nI (i + 1)) (lv' := [(4, .int (nI (i + 1))), (14, .int (cI b9.2.2.1)), (13, .int (nI b9.2.2.2.2.2.1)), (12, .int (nI b9.2.2.2.2.2.2)), (0, .ref b), (1, .ref (ad 0)), (2, .ref ga), (3, .ref ma), (5, .int (nI (2 * i))), (7, .int u9), (8, .int (nI b9.1)), (9, .int (nI b9.2.1)), (10, .int (nI b9.2.2.2.1)), (11, .int (nI b9.2.2.2.2.1))]) C dL_law_154 rfl (nI_add i 1) (by rw [hn9]; decide) rfl ?_
  refine j_aload_n C dL_law_157 rfl 5 rfl ?_
  refine j_aload_n C dL_law_158 rfl 6 rfl ?_
  show J _ _ _ _ _ 159 _
  refine j_ldc2 (v := 7350811) C dL_law_159 kcL_39 ?_
  refine j_callS C [.ref (ad 0), .ref ga, .long 7350811] [] mlL_31 mcL_say (c_say7350811 S ad hW ga m_ga k_ga l_ga hga B T hi1101 hs hgs hb (s1 0 _ rfl) (s1 1 _ rfl) (s1 2 _ rfl) (by omega)) (M.rm (by decide) (by decide) (by omega) (by omega)) rfl rfl (Nat.le_of_ble_eq_true rfl) dL_law_162 (fun r_4 S_5 hp_6 => ?_)
  obtain ⟨rfl, hf_7, e_1, x_2, x_3⟩ := hp_6
  refine J.eq (st' := []) rfl rfl rfl ?_
  have hz_8 : ∀ j, aI S_5 (ad 17) j = 0 := fun j9 => (hf_7.ai (wm_17 (S := S) hW) (fun h9 => h9.elim (fun q9 => (wn (S := S) hW (i := 17) (j := 1) (by decide) (by decide) (by decide)) q9) (fun q9 => (Ne.symm (hga 17 (by decide))) q9)) j9).trans (z_fss j9)
  have hz_9 : ∀ j, aI S_5 (ad 21) j = 0 := fun j9 => (hf_7.ai (wm_21 (S := S) hW) (fun h9 => h9.elim (fun q9 => (wn (S := S) hW (i := 21) (j := 1) (by decide) (by decide) (by decide)) q9) (fun q9 => (Ne.symm (hga 21 (by decide))) q9)) j9).trans (z_tss j9)
  have hz_10 : ∀ j, aI S_5 (ad 23) j = 0 := fun j9 => (hf_7.ai (wm_23 (S := S) hW) (fun h9 => h9.elim (fun q9 => (wn (S := S) hW (i := 23) (j := 1) (by decide) (by decide) (by decide)) q9) (fun q9 => (Ne.symm (hga 23 (by decide))) q9)) j9).trans (z_mss j9)
  have hz_11 : ∀ j, aI S_5 (ad 4) j = 0 := fun j9 => (hf_7.ai (wm_4 (S := S) hW) (fun h9 => h9.elim (fun q9 => (wn (S := S) hW (i := 4) (j := 1) (by decide) (by decide) (by decide)) q9) (fun q9 => (Ne.symm (hga 4 (by decide))) q9)) j9).trans (z_sa j9)
  have hm_12 : ga ∈ hL S_5 := hf_7.mem m_ga
  have hk_13 : Kd S_5 ga 14 := hf_7.kd m_ga k_ga
  have hn_14 : Ln S_5 ga 7 := hf_7.ln m_ga l_ga
  have hm_15 : ma ∈ hL S_5 := hf_7.mem m_ma
  have hk_16 : Kd S_5 ma 14 := hf_7.kd m_ma k_ma
  have hn_17 : Ln S_5 ma 4096 := hf_7.ln m_ma l_ma
  have hv_18 : hI S_5 1105 (ad 0) = 0 := hf_7.fi (wm_0 (S := S) hW) (fun q9 => absurd q9.1 (by decide)) hi1105
  have hv_19 : hI S_5 209 (ad 15) = 0 := hf_7.fi (wm_15 (S := S) hW) (fun q9 => absurd q9.1 (by decide)) hi209
  have hW_20 : Wd ad S_5 := hW.fm hf_7 (by intro _ _ h9; exact h9) (by intro p9 hp9; simp only [wqL, List.mem_cons, List.not_mem_nil, or_false] at hp9; rcases hp9 with rfl | rfl <;> intro h9 <;> rcases h9 with h9 | h9 <;> (first | exact absurd h9 (wn hW (by decide) (by decide) (by decide)) | exact absurd h9.symm (hga _ (by decide))))
  have hx_21 : MP (aI S_5 ma) P := by
    have e0_9 : (aI S_5 ma) = (aI S ma) := funext fun j9 => hf_7.ai m_ma (fun h9 => h9.elim (fun q9 => (hma 1 (by decide)) q9) (fun q9 => (Ne.symm hgm) q9)) j9
    first | (rw [e0_9]; exact hmp) | rw [e0_9]
  refine j_aload_n C dL_law_165 rfl 5 rfl ?_
  refine j_aload_n C dL_law_166 rfl 6 rfl ?_
  refine j_iload C dL_law_167 10 rfl ?_
  refine j_callS C [.ref (ad 0), .ref ga, .int (nI b9.1)] [] mlL_41 mcL_number (c_num S_5 ad hW_20 ga hm_12 hk_13 hn_14 hga B (T + 3) e_1 x_2 x_3 hb b9.1 q1 (by omega) (by omega)) (M.rm (by decide) (by decide) (by omega) (by omega)) rfl rfl (Nat.le_of_ble_eq_true rfl) dL_law_169 (fun r_25 S_26 hp_27 => ?_)
  obtain ⟨rfl, hf_28, e_22, x_23, x_24⟩ := hp_27
  refine J.eq (st' := []) rfl rfl rfl ?_
  have hz_29 : ∀ j, aI S_26 (ad 17) j = 0 := fun j9 => (hf_28.ai (wm_17 (S := S_5) hW_20) (fun h9 => h9.elim (fun q9 => (wn (S := S_5) hW_20 (i := 17) (j := 1) (by decide) (by decide) (by decide)) q9) (fun q9 => (Ne.symm (hga 17 (by decide))) q9)) j9).trans (hz_8 j9)
  have hz_30 : ∀ j, aI S_26 (ad 21) j = 0 := fun j9 => (hf_28.ai (wm_21 (S := S_5) hW_20) (fun h9 => h9.elim (fun q9 => (wn (S := S_5) hW_20 (i := 21) (j := 1) (by decide) (by decide) (by decide)) q9) (fun q9 => (Ne.symm (hga 21 (by decide))) q9)) j9).trans (hz_9 j9)
  have hz_31 : ∀ j, aI S_26 (ad 23) j = 0 := fun j9 => (hf_28.ai (wm_23 (S := S_5) hW_20) (fun h9 => h9.elim (fun q9 => (wn (S := S_5) hW_20 (i := 23) (j := 1) (by decide) (by decide) (by decide)) q9) (fun q9 => (Ne.symm (hga 23 (by decide))) q9)) j9).trans (hz_10 j9)
  have hz_32 : ∀ j, aI S_26 (ad 4) j = 0 := fun j9 => (hf_28.ai (wm_4 (S := S_5) hW_20) (fun h9 => h9.elim (fun q9 => (wn (S := S_5) hW_20 (i := 4) (j := 1) (by decide) (by decide) (by decide)) q9) (fun q9 => (Ne.symm (hga 4 (by decide))) q9)) j9).trans (hz_11 j9)
  have hm_33 : ga ∈ hL S_26 := hf_28.mem hm_12
  have hk_34 : Kd S_26 ga 14 := hf_28.kd hm_12 hk_13
  have hn_35 : Ln S_26 ga 7 := hf_28.ln hm_12 hn_14
  have hm_36 : ma ∈ hL S_26 := hf_28.mem hm_15
  have hk_37 : Kd S_26 ma 14 := hf_28.kd hm_15 hk_16
  have hn_38 : Ln S_26 ma 4096 := hf_28.ln hm_15 hn_17
  have hv_39 : hI S_26 1105 (ad 0) = 0 := hf_28.fi (wm_0 (S := S_5) hW_20) (fun q9 => absurd q9.1 (by decide)) hv_18
  have hv_40 : hI S_26 209 (ad 15) = 0 := hf_28.fi (wm_15 (S := S_5) hW_20) (fun q9 => absurd q9.1 (by decide)) hv_19
  have hW_41 : Wd ad S_26 := hW_20.fm hf_28 (by intro _ _ h9; exact h9) (by intro p9 hp9; simp only [wqL, List.mem_cons, List.not_mem_nil, or_false] at hp9; rcases hp9 with rfl | rfl <;> intro h9 <;> rcases h9 with h9 | h9 <;> (first | exact absurd h9 (wn hW_20 (by decide) (by decide) (by decide)) | exact absurd h9.symm (hga _ (by decide))))
  have hx_42 : MP (aI S_26 ma) P := by
    have e0_9 : (aI S_26 ma) = (aI S_5 ma) := funext fun j9 => hf_28.ai hm_15 (fun h9 => h9.elim (fun q9 => (hma 1 (by decide)) q9) (fun q9 => (Ne.symm hgm) q9)) j9
    first | (rw [e0_9]; exact hx_21) | rw [e0_9]
  refine j_aload_n C dL_law_172 rfl 5 rfl ?_
  refine j_aload_n C dL_law_173 rfl 6 rfl ?_
  show J _ _ _ _ _ 174 _
  refine j_bipush (v := 120) C dL_law_174 (by decide) ?_
  refine j_callS C [.ref (ad 0), .ref ga, .int 120] [] mlL_15 mcL_put (c_put S_26 ad hW_41 ga hm_33 hk_34 hn_35 hga B ((T + 3) + (num b9.1).length) e_22 x_23 x_24 hb 120 (p1 0 _ rfl) (by omega)) (M.rm (by decide) (by decide) (by omega) (by omega)) rfl rfl (Nat.le_of_ble_eq_true rfl) dL_law_176 (fun r_46 S_47 hp_48 => ?_)
  obtain ⟨rfl, hf_49, e_43, x_44, x_45⟩ := hp_48
  refine J.eq (st' := []) rfl rfl rfl ?_
  have hz_50 : ∀ j, aI S_47 (ad 17) j = 0 := fun j9 => (hf_49.ai (wm_17 (S := S_26) hW_41) (fun h9 => h9.elim (fun q9 => (wn (S := S_26) hW_41 (i := 17) (j := 1) (by decide) (by decide) (by decide)) q9) (fun q9 => (Ne.symm (hga 17 (by decide))) q9)) j9).trans (hz_29 j9)
  have hz_51 : ∀ j, aI S_47 (ad 21) j = 0 := fun j9 => (hf_49.ai (wm_21 (S := S_26) hW_41) (fun h9 => h9.elim (fun q9 => (wn (S := S_26) hW_41 (i := 21) (j := 1) (by decide) (by decide) (by decide)) q9) (fun q9 => (Ne.symm (hga 21 (by decide))) q9)) j9).trans (hz_30 j9)
  have hz_52 : ∀ j, aI S_47 (ad 23) j = 0 := fun j9 => (hf_49.ai (wm_23 (S := S_26) hW_41) (fun h9 => h9.elim (fun q9 => (wn (S := S_26) hW_41 (i := 23) (j := 1) (by decide) (by decide) (by decide)) q9) (fun q9 => (Ne.symm (hga 23 (by decide))) q9)) j9).trans (hz_31 j9)
  have hz_53 : ∀ j, aI S_47 (ad 4) j = 0 := fun j9 => (hf_49.ai (wm_4 (S := S_26) hW_41) (fun h9 => h9.elim (fun q9 => (wn (S := S_26) hW_41 (i := 4) (j := 1) (by decide) (by decide) (by decide)) q9) (fun q9 => (Ne.symm (hga 4 (by decide))) q9)) j9).trans (hz_32 j9)
  have hm_54 : ga ∈ hL S_47 := hf_49.mem hm_33
  have hk_55 : Kd S_47 ga 14 := hf_49.kd hm_33 hk_34
  have hn_56 : Ln S_47 ga 7 := hf_49.ln hm_33 hn_35
  have hm_57 : ma ∈ hL S_47 := hf_49.mem hm_36
  have hk_58 : Kd S_47 ma 14 := hf_49.kd hm_36 hk_37
  have hn_59 : Ln S_47 ma 4096 := hf_49.ln hm_36 hn_38
  have hv_60 : hI S_47 1105 (ad 0) = 0 := hf_49.fi (wm_0 (S := S_26) hW_41) (fun q9 => absurd q9.1 (by decide)) hv_39
  have hv_61 : hI S_47 209 (ad 15) = 0 := hf_49.fi (wm_15 (S := S_26) hW_41) (fun q9 => absurd q9.1 (by decide)) hv_40
  have hW_62 : Wd ad S_47 := hW_41.fm hf_49 (by intro _ _ h9; exact h9) (by intro p9 hp9; simp only [wqL, List.mem_cons, List.not_mem_nil, or_false] at hp9; rcases hp9 with rfl | rfl <;> intro h9 <;> rcases h9 with h9 | h9 <;> (first | exact absurd h9 (wn hW_41 (by decide) (by decide) (by decide)) | exact absurd h9.symm (hga _ (by decide))))
  have hx_63 : MP (aI S_47 ma) P := by
    have e0_9 : (aI S_47 ma) = (aI S_26 ma) := funext fun j9 => hf_49.ai hm_36 (fun h9 => h9.elim (fun q9 => (hma 1 (by decide)) q9) (fun q9 => (Ne.symm hgm) q9)) j9
    first | (rw [e0_9]; exact hx_42) | rw [e0_9]
  refine j_aload_n C dL_law_179 rfl 5 rfl ?_
  refine j_aload_n C dL_law_180 rfl 6 rfl ?_
  refine j_iload C dL_law_181 11 rfl ?_
  refine j_callS C [.ref (ad 0), .ref ga, .int (nI b9.2.1)] [] mlL_41 mcL_number (c_num S_47 ad hW_62 ga hm_54 hk_55 hn_56 hga B (((T + 3) + (num b9.1).length) + 1) e_43 x_44 x_45 hb b9.2.1 q2 (by omega) (by omega)) (M.rm (by decide) (by decide) (by omega) (by omega)) rfl rfl (Nat.le_of_ble_eq_true rfl) dL_law_183 (fun r_67 S_68 hp_69 => ?_)
  obtain ⟨rfl, hf_70, e_64, x_65, x_66⟩ := hp_69
  refine J.eq (st' := []) rfl rfl rfl ?_
  have hz_71 : ∀ j, aI S_68 (ad 17) j = 0 := fun j9 => (hf_70.ai (wm_17 (S := S_47) hW_62) (fun h9 => h9.elim (fun q9 => (wn (S := S_47) hW_62 (i := 17) (j := 1) (by decide) (by decide) (by decide)) q9) (fun q9 => (Ne.symm (hga 17 (by decide))) q9)) j9).trans (hz_50 j9)
  have hz_72 : ∀ j, aI S_68 (ad 21) j = 0 := fun j9 => (hf_70.ai (wm_21 (S := S_47) hW_62) (fun h9 => h9.elim (fun q9 => (wn (S := S_47) hW_62 (i := 21) (j := 1) (by decide) (by decide) (by decide)) q9) (fun q9 => (Ne.symm (hga 21 (by decide))) q9)) j9).trans (hz_51 j9)
  have hz_73 : ∀ j, aI S_68 (ad 23) j = 0 := fun j9 => (hf_70.ai (wm_23 (S := S_47) hW_62) (fun h9 => h9.elim (fun q9 => (wn (S := S_47) hW_62 (i := 23) (j := 1) (by decide) (by decide) (by decide)) q9) (fun q9 => (Ne.symm (hga 23 (by decide))) q9)) j9).trans (hz_52 j9)
  have hz_74 : ∀ j, aI S_68 (ad 4) j = 0 := fun j9 => (hf_70.ai (wm_4 (S := S_47) hW_62) (fun h9 => h9.elim (fun q9 => (wn (S := S_47) hW_62 (i := 4) (j := 1) (by decide) (by decide) (by decide)) q9) (fun q9 => (Ne.symm (hga 4 (by decide))) q9)) j9).trans (hz_53 j9)
  have hm_75 : ga ∈ hL S_68 := hf_70.mem hm_54
  have hk_76 : Kd S_68 ga 14 := hf_70.kd hm_54 hk_55
  have hn_77 : Ln S_68 ga 7 := hf_70.ln hm_54 hn_56
  have hm_78 : ma ∈ hL S_68 := hf_70.mem hm_57
  have hk_79 : Kd S_68 ma 14 := hf_70.kd hm_57 hk_58
  have hn_80 : Ln S_68 ma 4096 := hf_70.ln hm_57 hn_59
  have hv_81 : hI S_68 1105 (ad 0) = 0 := hf_70.fi (wm_0 (S := S_47) hW_62) (fun q9 => absurd q9.1 (by decide)) hv_60
  have hv_82 : hI S_68 209 (ad 15) = 0 := hf_70.fi (wm_15 (S := S_47) hW_62) (fun q9 => absurd q9.1 (by decide)) hv_61
  have hW_83 : Wd ad S_68 := hW_62.fm hf_70 (by intro _ _ h9; exact h9) (by intro p9 hp9; simp only [wqL, List.mem_cons, List.not_mem_nil, or_false] at hp9; rcases hp9 with rfl | rfl <;> intro h9 <;> rcases h9 with h9 | h9 <;> (first | exact absurd h9 (wn hW_62 (by decide) (by decide) (by decide)) | exact absurd h9.symm (hga _ (by decide))))
  have hx_84 : MP (aI S_68 ma) P := by
    have e0_9 : (aI S_68 ma) = (aI S_47 ma) := funext fun j9 => hf_70.ai hm_57 (fun h9 => h9.elim (fun q9 => (hma 1 (by decide)) q9) (fun q9 => (Ne.symm hgm) q9)) j9
    first | (rw [e0_9]; exact hx_63) | rw [e0_9]
  refine j_aload_n C dL_law_186 rfl 5 rfl ?_
  refine j_aload_n C dL_law_187 rfl 6 rfl ?_
  show J _ _ _ _ _ 188 _
  refine j_bipush (v := 89) C dL_law_188 (by decide) ?_
  refine j_callS C [.ref (ad 0), .ref ga, .int 89] [] mlL_15 mcL_put (c_put S_68 ad hW_83 ga hm_75 hk_76 hn_77 hga B ((((T + 3) + (num b9.1).length) + 1) + (num b9.2.1).length) e_64 x_65 x_66 hb 89 (p2 0 _ rfl) (by omega)) (M.rm (by decide) (by decide) (by omega) (by omega)) rfl rfl (Nat.le_of_ble_eq_true rfl) dL_law_190 (fun r_88 S_89 hp_90 => ?_)
  obtain ⟨rfl, hf_91, e_85, x_86, x_87⟩ := hp_90
  refine J.eq (st' := []) rfl rfl rfl ?_
  have hz_92 : ∀ j, aI S_89 (ad 17) j = 0 := fun j9 => (hf_91.ai (wm_17 (S := S_68) hW_83) (fun h9 => h9.elim (fun q9 => (wn (S := S_68) hW_83 (i := 17) (j := 1) (by decide) (by decide) (by decide)) q9) (fun q9 => (Ne.symm (hga 17 (by decide))) q9)) j9).trans (hz_71 j9)
  have hz_93 : ∀ j, aI S_89 (ad 21) j = 0 := fun j9 => (hf_91.ai (wm_21 (S := S_68) hW_83) (fun h9 => h9.elim (fun q9 => (wn (S := S_68) hW_83 (i := 21) (j := 1) (by decide) (by decide) (by decide)) q9) (fun q9 => (Ne.symm (hga 21 (by decide))) q9)) j9).trans (hz_72 j9)
  have hz_94 : ∀ j, aI S_89 (ad 23) j = 0 := fun j9 => (hf_91.ai (wm_23 (S := S_68) hW_83) (fun h9 => h9.elim (fun q9 => (wn (S := S_68) hW_83 (i := 23) (j := 1) (by decide) (by decide) (by decide)) q9) (fun q9 => (Ne.symm (hga 23 (by decide))) q9)) j9).trans (hz_73 j9)
  have hz_95 : ∀ j, aI S_89 (ad 4) j = 0 := fun j9 => (hf_91.ai (wm_4 (S := S_68) hW_83) (fun h9 => h9.elim (fun q9 => (wn (S := S_68) hW_83 (i := 4) (j := 1) (by decide) (by decide) (by decide)) q9) (fun q9 => (Ne.symm (hga 4 (by decide))) q9)) j9).trans (hz_74 j9)
  have hm_96 : ga ∈ hL S_89 := hf_91.mem hm_75
  have hk_97 : Kd S_89 ga 14 := hf_91.kd hm_75 hk_76
  have hn_98 : Ln S_89 ga 7 := hf_91.ln hm_75 hn_77
  have hm_99 : ma ∈ hL S_89 := hf_91.mem hm_78
  have hk_100 : Kd S_89 ma 14 := hf_91.kd hm_78 hk_79
  have hn_101 : Ln S_89 ma 4096 := hf_91.ln hm_78 hn_80
  have hv_102 : hI S_89 1105 (ad 0) = 0 := hf_91.fi (wm_0 (S := S_68) hW_83) (fun q9 => absurd q9.1 (by decide)) hv_81
  have hv_103 : hI S_89 209 (ad 15) = 0 := hf_91.fi (wm_15 (S := S_68) hW_83) (fun q9 => absurd q9.1 (by decide)) hv_82
  have hW_104 : Wd ad S_89 := hW_83.fm hf_91 (by intro _ _ h9; exact h9) (by intro p9 hp9; simp only [wqL, List.mem_cons, List.not_mem_nil, or_false] at hp9; rcases hp9 with rfl | rfl <;> intro h9 <;> rcases h9 with h9 | h9 <;> (first | exact absurd h9 (wn hW_83 (by decide) (by decide) (by decide)) | exact absurd h9.symm (hga _ (by decide))))
  have hx_105 : MP (aI S_89 ma) P := by
    have e0_9 : (aI S_89 ma) = (aI S_68 ma) := funext fun j9 => hf_91.ai hm_78 (fun h9 => h9.elim (fun q9 => (hma 1 (by decide)) q9) (fun q9 => (Ne.symm hgm) q9)) j9
    first | (rw [e0_9]; exact hx_84) | rw [e0_9]
  refine j_aload_n C dL_law_193 rfl 5 rfl ?_
  refine j_aload_n C dL_law_194 rfl 6 rfl ?_
  refine j_ldc2 (v := 7744027) C dL_law_195 kcL_44 ?_
  refine j_callS C [.ref (ad 0), .ref ga, .long 7744027] [] mlL_31 mcL_say (c_say7744027 S_89 ad hW_104 ga hm_96 hk_97 hn_98 hga B (((((T + 3) + (num b9.1).length) + 1) + (num b9.2.1).length) + 1) e_85 x_86 x_87 hb (s2 0 _ rfl) (s2 1 _ rfl) (s2 2 _ rfl) (by omega)) (M.rm (by decide) (by decide) (by omega) (by omega)) rfl rfl (Nat.le_of_ble_eq_true rfl) dL_law_198 (fun r_109 S_110 hp_111 => ?_)
  obtain ⟨rfl, hf_112, e_106, x_107, x_108⟩ := hp_111
  refine J.eq (st' := []) rfl rfl rfl ?_
  have hz_113 : ∀ j, aI S_110 (ad 17) j = 0 := fun j9 => (hf_112.ai (wm_17 (S := S_89) hW_104) (fun h9 => h9.elim (fun q9 => (wn (S := S_89) hW_104 (i := 17) (j := 1) (by decide) (by decide) (by decide)) q9) (fun q9 => (Ne.symm (hga 17 (by decide))) q9)) j9).trans (hz_92 j9)
  have hz_114 : ∀ j, aI S_110 (ad 21) j = 0 := fun j9 => (hf_112.ai (wm_21 (S := S_89) hW_104) (fun h9 => h9.elim (fun q9 => (wn (S := S_89) hW_104 (i := 21) (j := 1) (by decide) (by decide) (by decide)) q9) (fun q9 => (Ne.symm (hga 21 (by decide))) q9)) j9).trans (hz_93 j9)
  have hz_115 : ∀ j, aI S_110 (ad 23) j = 0 := fun j9 => (hf_112.ai (wm_23 (S := S_89) hW_104) (fun h9 => h9.elim (fun q9 => (wn (S := S_89) hW_104 (i := 23) (j := 1) (by decide) (by decide) (by decide)) q9) (fun q9 => (Ne.symm (hga 23 (by decide))) q9)) j9).trans (hz_94 j9)
  have hz_116 : ∀ j, aI S_110 (ad 4) j = 0 := fun j9 => (hf_112.ai (wm_4 (S := S_89) hW_104) (fun h9 => h9.elim (fun q9 => (wn (S := S_89) hW_104 (i := 4) (j := 1) (by decide) (by decide) (by decide)) q9) (fun q9 => (Ne.symm (hga 4 (by decide))) q9)) j9).trans (hz_95 j9)
  have hm_117 : ga ∈ hL S_110 := hf_112.mem hm_96
  have hk_118 : Kd S_110 ga 14 := hf_112.kd hm_96 hk_97
  have hn_119 : Ln S_110 ga 7 := hf_112.ln hm_96 hn_98
  have hm_120 : ma ∈ hL S_110 := hf_112.mem hm_99
  have hk_121 : Kd S_110 ma 14 := hf_112.kd hm_99 hk_100
  have hn_122 : Ln S_110 ma 4096 := hf_112.ln hm_99 hn_101
  have hv_123 : hI S_110 1105 (ad 0) = 0 := hf_112.fi (wm_0 (S := S_89) hW_104) (fun q9 => absurd q9.1 (by decide)) hv_102
  have hv_124 : hI S_110 209 (ad 15) = 0 := hf_112.fi (wm_15 (S := S_89) hW_104) (fun q9 => absurd q9.1 (by decide)) hv_103
  have hW_125 : Wd ad S_110 := hW_104.fm hf_112 (by intro _ _ h9; exact h9) (by intro p9 hp9; simp only [wqL, List.mem_cons, List.not_mem_nil, or_false] at hp9; rcases hp9 with rfl | rfl <;> intro h9 <;> rcases h9 with h9 | h9 <;> (first | exact absurd h9 (wn hW_104 (by decide) (by decide) (by decide)) | exact absurd h9.symm (hga _ (by decide))))
  have hx_126 : MP (aI S_110 ma) P := by
    have e0_9 : (aI S_110 ma) = (aI S_89 ma) := funext fun j9 => hf_112.ai hm_99 (fun h9 => h9.elim (fun q9 => (hma 1 (by decide)) q9) (fun q9 => (Ne.symm hgm) q9)) j9
    first | (rw [e0_9]; exact hx_105) | rw [e0_9]
  refine j_aload_n C dL_law_201 rfl 5 rfl ?_
  refine j_aload_n C dL_law_202 rfl 6 rfl ?_
  show J _ _ _ _ _ 203 _
  refine j_iload C dL_law_203 1 rfl ?_
  refine J.eq (st' := .int (nI (bN b9.2.2.1)) :: [.ref ga, .ref (ad 0)]) rfl rfl (congrArg (fun z9 => Value.int z9 :: [.ref ga, .ref (ad 0)]) (cI_bN _)) ?_
  refine j_callS C [.ref (ad 0), .ref ga, .int (nI (bN b9.2.2.1))] [] mlL_41 mcL_number (c_num S_110 ad hW_125 ga hm_117 hk_118 hn_119 hga B ((((((T + 3) + (num b9.1).length) + 1) + (num b9.2.1).length) + 1) + 3) e_106 x_107 x_108 hb (bN b9.2.2.1) q3 (by omega) (by omega)) (M.rm (by decide) (by decide) (by omega) (by omega)) rfl rfl (Nat.le_of_ble_eq_true rfl) dL_law_205 (fun r_130 S_131 hp_132 => ?_)
  obtain ⟨rfl, hf_133, e_127, x_128, x_129⟩ := hp_132
  refine J.eq (st' := []) rfl rfl rfl ?_
  have hz_134 : ∀ j, aI S_131 (ad 17) j = 0 := fun j9 => (hf_133.ai (wm_17 (S := S_110) hW_125) (fun h9 => h9.elim (fun q9 => (wn (S := S_110) hW_125 (i := 17) (j := 1) (by decide) (by decide) (by decide)) q9) (fun q9 => (Ne.symm (hga 17 (by decide))) q9)) j9).trans (hz_113 j9)
  have hz_135 : ∀ j, aI S_131 (ad 21) j = 0 := fun j9 => (hf_133.ai (wm_21 (S := S_110) hW_125) (fun h9 => h9.elim (fun q9 => (wn (S := S_110) hW_125 (i := 21) (j := 1) (by decide) (by decide) (by decide)) q9) (fun q9 => (Ne.symm (hga 21 (by decide))) q9)) j9).trans (hz_114 j9)
  have hz_136 : ∀ j, aI S_131 (ad 23) j = 0 := fun j9 => (hf_133.ai (wm_23 (S := S_110) hW_125) (fun h9 => h9.elim (fun q9 => (wn (S := S_110) hW_125 (i := 23) (j := 1) (by decide) (by decide) (by decide)) q9) (fun q9 => (Ne.symm (hga 23 (by decide))) q9)) j9).trans (hz_115 j9)
  have hz_137 : ∀ j, aI S_131 (ad 4) j = 0 := fun j9 => (hf_133.ai (wm_4 (S := S_110) hW_125) (fun h9 => h9.elim (fun q9 => (wn (S := S_110) hW_125 (i := 4) (j := 1) (by decide) (by decide) (by decide)) q9) (fun q9 => (Ne.symm (hga 4 (by decide))) q9)) j9).trans (hz_116 j9)
  have hm_138 : ga ∈ hL S_131 := hf_133.mem hm_117
  have hk_139 : Kd S_131 ga 14 := hf_133.kd hm_117 hk_118
  have hn_140 : Ln S_131 ga 7 := hf_133.ln hm_117 hn_119
  have hm_141 : ma ∈ hL S_131 := hf_133.mem hm_120
  have hk_142 : Kd S_131 ma 14 := hf_133.kd hm_120 hk_121
  have hn_143 : Ln S_131 ma 4096 := hf_133.ln hm_120 hn_122
  have hv_144 : hI S_131 1105 (ad 0) = 0 := hf_133.fi (wm_0 (S := S_110) hW_125) (fun q9 => absurd q9.1 (by decide)) hv_123
  have hv_145 : hI S_131 209 (ad 15) = 0 := hf_133.fi (wm_15 (S := S_110) hW_125) (fun q9 => absurd q9.1 (by decide)) hv_124
  have hW_146 : Wd ad S_131 := hW_125.fm hf_133 (by intro _ _ h9; exact h9) (by intro p9 hp9; simp only [wqL, List.mem_cons, List.not_mem_nil, or_false] at hp9; rcases hp9 with rfl | rfl <;> intro h9 <;> rcases h9 with h9 | h9 <;> (first | exact absurd h9 (wn hW_125 (by decide) (by decide) (by decide)) | exact absurd h9.symm (hga _ (by decide))))
  have hx_147 : MP (aI S_131 ma) P := by
    have e0_9 : (aI S_131 ma) = (aI S_110 ma) := funext fun j9 => hf_133.ai hm_120 (fun h9 => h9.elim (fun q9 => (hma 1 (by decide)) q9) (fun q9 => (Ne.symm hgm) q9)) j9
    first | (rw [e0_9]; exact hx_126) | rw [e0_9]
  refine j_aload_n C dL_law_208 rfl 5 rfl ?_
  refine j_aload_n C dL_law_209 rfl 6 rfl ?_
  refine j_bipush (v := 79) C dL_law_210 (by decide) ?_
  refine j_callS C [.ref (ad 0), .ref ga, .int 79] [] mlL_15 mcL_put (c_put S_131 ad hW_146 ga hm_138 hk_139 hn_140 hga B (((((((T + 3) + (num b9.1).length) + 1) + (num b9.2.1).length) + 1) + 3) + (num (bN b9.2.2.1)).length) e_127 x_128 x_129 hb 79 (p3 0 _ rfl) (by omega)) (M.rm (by decide) (by decide) (by omega) (by omega)) rfl rfl (Nat.le_of_ble_eq_true rfl) dL_law_212 (fun r_151 S_152 hp_153 => ?_)
  obtain ⟨rfl, hf_154, e_148, x_149, x_150⟩ := hp_153
  refine J.eq (st' := []) rfl rfl rfl ?_
  have hz_155 : ∀ j, aI S_152 (ad 17) j = 0 := fun j9 => (hf_154.ai (wm_17 (S := S_131) hW_146) (fun h9 => h9.elim (fun q9 => (wn (S := S_131) hW_146 (i := 17) (j := 1) (by decide) (by decide) (by decide)) q9) (fun q9 => (Ne.symm (hga 17 (by decide))) q9)) j9).trans (hz_134 j9)
  have hz_156 : ∀ j, aI S_152 (ad 21) j = 0 := fun j9 => (hf_154.ai (wm_21 (S := S_131) hW_146) (fun h9 => h9.elim (fun q9 => (wn (S := S_131) hW_146 (i := 21) (j := 1) (by decide) (by decide) (by decide)) q9) (fun q9 => (Ne.symm (hga 21 (by decide))) q9)) j9).trans (hz_135 j9)
  have hz_157 : ∀ j, aI S_152 (ad 23) j = 0 := fun j9 => (hf_154.ai (wm_23 (S := S_131) hW_146) (fun h9 => h9.elim (fun q9 => (wn (S := S_131) hW_146 (i := 23) (j := 1) (by decide) (by decide) (by decide)) q9) (fun q9 => (Ne.symm (hga 23 (by decide))) q9)) j9).trans (hz_136 j9)
  have hz_158 : ∀ j, aI S_152 (ad 4) j = 0 := fun j9 => (hf_154.ai (wm_4 (S := S_131) hW_146) (fun h9 => h9.elim (fun q9 => (wn (S := S_131) hW_146 (i := 4) (j := 1) (by decide) (by decide) (by decide)) q9) (fun q9 => (Ne.symm (hga 4 (by decide))) q9)) j9).trans (hz_137 j9)
  have hm_159 : ga ∈ hL S_152 := hf_154.mem hm_138
  have hk_160 : Kd S_152 ga 14 := hf_154.kd hm_138 hk_139
  have hn_161 : Ln S_152 ga 7 := hf_154.ln hm_138 hn_140
  have hm_162 : ma ∈ hL S_152 := hf_154.mem hm_141
  have hk_163 : Kd S_152 ma 14 := hf_154.kd hm_141 hk_142
  have hn_164 : Ln S_152 ma 4096 := hf_154.ln hm_141 hn_143
  have hv_165 : hI S_152 1105 (ad 0) = 0 := hf_154.fi (wm_0 (S := S_131) hW_146) (fun q9 => absurd q9.1 (by decide)) hv_144
  have hv_166 : hI S_152 209 (ad 15) = 0 := hf_154.fi (wm_15 (S := S_131) hW_146) (fun q9 => absurd q9.1 (by decide)) hv_145
  have hW_167 : Wd ad S_152 := hW_146.fm hf_154 (by intro _ _ h9; exact h9) (by intro p9 hp9; simp only [wqL, List.mem_cons, List.not_mem_nil, or_false] at hp9; rcases hp9 with rfl | rfl <;> intro h9 <;> rcases h9 with h9 | h9 <;> (first | exact absurd h9 (wn hW_146 (by decide) (by decide) (by decide)) | exact absurd h9.symm (hga _ (by decide))))
  have hx_168 : MP (aI S_152 ma) P := by
    have e0_9 : (aI S_152 ma) = (aI S_131 ma) := funext fun j9 => hf_154.ai hm_141 (fun h9 => h9.elim (fun q9 => (hma 1 (by decide)) q9) (fun q9 => (Ne.symm hgm) q9)) j9
    first | (rw [e0_9]; exact hx_147) | rw [e0_9]
  refine j_aload_n C dL_law_215 rfl 5 rfl ?_
  refine j_aload_n C dL_law_216 rfl 6 rfl ?_
  show J _ _ _ _ _ 217 _
  refine j_ldc2 (v := 6498843) C dL_law_217 kcL_46 ?_
  refine j_callS C [.ref (ad 0), .ref ga, .long 6498843] [] mlL_31 mcL_say (c_say6498843 S_152 ad hW_167 ga hm_159 hk_160 hn_161 hga B ((((((((T + 3) + (num b9.1).length) + 1) + (num b9.2.1).length) + 1) + 3) + (num (bN b9.2.2.1)).length) + 1) e_148 x_149 x_150 hb (s3 0 _ rfl) (s3 1 _ rfl) (s3 2 _ rfl) (by omega)) (M.rm (by decide) (by decide) (by omega) (by omega)) rfl rfl (Nat.le_of_ble_eq_true rfl) dL_law_220 (fun r_172 S_173 hp_174 => ?_)
  obtain ⟨rfl, hf_175, e_169, x_170, x_171⟩ := hp_174
  refine J.eq (st' := []) rfl rfl rfl ?_
  have hz_176 : ∀ j, aI S_173 (ad 17) j = 0 := fun j9 => (hf_175.ai (wm_17 (S := S_152) hW_167) (fun h9 => h9.elim (fun q9 => (wn (S := S_152) hW_167 (i := 17) (j := 1) (by decide) (by decide) (by decide)) q9) (fun q9 => (Ne.symm (hga 17 (by decide))) q9)) j9).trans (hz_155 j9)
  have hz_177 : ∀ j, aI S_173 (ad 21) j = 0 := fun j9 => (hf_175.ai (wm_21 (S := S_152) hW_167) (fun h9 => h9.elim (fun q9 => (wn (S := S_152) hW_167 (i := 21) (j := 1) (by decide) (by decide) (by decide)) q9) (fun q9 => (Ne.symm (hga 21 (by decide))) q9)) j9).trans (hz_156 j9)
  have hz_178 : ∀ j, aI S_173 (ad 23) j = 0 := fun j9 => (hf_175.ai (wm_23 (S := S_152) hW_167) (fun h9 => h9.elim (fun q9 => (wn (S := S_152) hW_167 (i := 23) (j := 1) (by decide) (by decide) (by decide)) q9) (fun q9 => (Ne.symm (hga 23 (by decide))) q9)) j9).trans (hz_157 j9)
  have hz_179 : ∀ j, aI S_173 (ad 4) j = 0 := fun j9 => (hf_175.ai (wm_4 (S := S_152) hW_167) (fun h9 => h9.elim (fun q9 => (wn (S := S_152) hW_167 (i := 4) (j := 1) (by decide) (by decide) (by decide)) q9) (fun q9 => (Ne.symm (hga 4 (by decide))) q9)) j9).trans (hz_158 j9)
  have hm_180 : ga ∈ hL S_173 := hf_175.mem hm_159
  have hk_181 : Kd S_173 ga 14 := hf_175.kd hm_159 hk_160
  have hn_182 : Ln S_173 ga 7 := hf_175.ln hm_159 hn_161
  have hm_183 : ma ∈ hL S_173 := hf_175.mem hm_162
  have hk_184 : Kd S_173 ma 14 := hf_175.kd hm_162 hk_163
  have hn_185 : Ln S_173 ma 4096 := hf_175.ln hm_162 hn_164
  have hv_186 : hI S_173 1105 (ad 0) = 0 := hf_175.fi (wm_0 (S := S_152) hW_167) (fun q9 => absurd q9.1 (by decide)) hv_165
  have hv_187 : hI S_173 209 (ad 15) = 0 := hf_175.fi (wm_15 (S := S_152) hW_167) (fun q9 => absurd q9.1 (by decide)) hv_166
  have hW_188 : Wd ad S_173 := hW_167.fm hf_175 (by intro _ _ h9; exact h9) (by intro p9 hp9; simp only [wqL, List.mem_cons, List.not_mem_nil, or_false] at hp9; rcases hp9 with rfl | rfl <;> intro h9 <;> rcases h9 with h9 | h9 <;> (first | exact absurd h9 (wn hW_167 (by decide) (by decide) (by decide)) | exact absurd h9.symm (hga _ (by decide))))
  have hx_189 : MP (aI S_173 ma) P := by
    have e0_9 : (aI S_173 ma) = (aI S_152 ma) := funext fun j9 => hf_175.ai hm_162 (fun h9 => h9.elim (fun q9 => (hma 1 (by decide)) q9) (fun q9 => (Ne.symm hgm) q9)) j9
    first | (rw [e0_9]; exact hx_168) | rw [e0_9]
  refine j_aload_n C dL_law_223 rfl 5 rfl ?_
  refine j_aload_n C dL_law_224 rfl 6 rfl ?_
  refine j_iload C dL_law_225 12 rfl ?_
  refine j_callS C [.ref (ad 0), .ref ga, .int (nI b9.2.2.2.1)] [] mlL_41 mcL_number (c_num S_173 ad hW_188 ga hm_180 hk_181 hn_182 hga B (((((((((T + 3) + (num b9.1).length) + 1) + (num b9.2.1).length) + 1) + 3) + (num (bN b9.2.2.1)).length) + 1) + 3) e_169 x_170 x_171 hb b9.2.2.2.1 q6 (by omega) (by omega)) (M.rm (by decide) (by decide) (by omega) (by omega)) rfl rfl (Nat.le_of_ble_eq_true rfl) dL_law_227 (fun r_193 S_194 hp_195 => ?_)
  obtain ⟨rfl, hf_196, e_190, x_191, x_192⟩ := hp_195
  refine J.eq (st' := []) rfl rfl rfl ?_
  have hz_197 : ∀ j, aI S_194 (ad 17) j = 0 := fun j9 => (hf_196.ai (wm_17 (S := S_173) hW_188) (fun h9 => h9.elim (fun q9 => (wn (S := S_173) hW_188 (i := 17) (j := 1) (by decide) (by decide) (by decide)) q9) (fun q9 => (Ne.symm (hga 17 (by decide))) q9)) j9).trans (hz_176 j9)
  have hz_198 : ∀ j, aI S_194 (ad 21) j = 0 := fun j9 => (hf_196.ai (wm_21 (S := S_173) hW_188) (fun h9 => h9.elim (fun q9 => (wn (S := S_173) hW_188 (i := 21) (j := 1) (by decide) (by decide) (by decide)) q9) (fun q9 => (Ne.symm (hga 21 (by decide))) q9)) j9).trans (hz_177 j9)
  have hz_199 : ∀ j, aI S_194 (ad 23) j = 0 := fun j9 => (hf_196.ai (wm_23 (S := S_173) hW_188) (fun h9 => h9.elim (fun q9 => (wn (S := S_173) hW_188 (i := 23) (j := 1) (by decide) (by decide) (by decide)) q9) (fun q9 => (Ne.symm (hga 23 (by decide))) q9)) j9).trans (hz_178 j9)
  have hz_200 : ∀ j, aI S_194 (ad 4) j = 0 := fun j9 => (hf_196.ai (wm_4 (S := S_173) hW_188) (fun h9 => h9.elim (fun q9 => (wn (S := S_173) hW_188 (i := 4) (j := 1) (by decide) (by decide) (by decide)) q9) (fun q9 => (Ne.symm (hga 4 (by decide))) q9)) j9).trans (hz_179 j9)
  have hm_201 : ga ∈ hL S_194 := hf_196.mem hm_180
  have hk_202 : Kd S_194 ga 14 := hf_196.kd hm_180 hk_181
  have hn_203 : Ln S_194 ga 7 := hf_196.ln hm_180 hn_182
  have hm_204 : ma ∈ hL S_194 := hf_196.mem hm_183
  have hk_205 : Kd S_194 ma 14 := hf_196.kd hm_183 hk_184
  have hn_206 : Ln S_194 ma 4096 := hf_196.ln hm_183 hn_185
  have hv_207 : hI S_194 1105 (ad 0) = 0 := hf_196.fi (wm_0 (S := S_173) hW_188) (fun q9 => absurd q9.1 (by decide)) hv_186
  have hv_208 : hI S_194 209 (ad 15) = 0 := hf_196.fi (wm_15 (S := S_173) hW_188) (fun q9 => absurd q9.1 (by decide)) hv_187
  have hW_209 : Wd ad S_194 := hW_188.fm hf_196 (by intro _ _ h9; exact h9) (by intro p9 hp9; simp only [wqL, List.mem_cons, List.not_mem_nil, or_false] at hp9; rcases hp9 with rfl | rfl <;> intro h9 <;> rcases h9 with h9 | h9 <;> (first | exact absurd h9 (wn hW_188 (by decide) (by decide) (by decide)) | exact absurd h9.symm (hga _ (by decide))))
  have hx_210 : MP (aI S_194 ma) P := by
    have e0_9 : (aI S_194 ma) = (aI S_173 ma) := funext fun j9 => hf_196.ai hm_183 (fun h9 => h9.elim (fun q9 => (hma 1 (by decide)) q9) (fun q9 => (Ne.symm hgm) q9)) j9
    first | (rw [e0_9]; exact hx_189) | rw [e0_9]
  refine j_aload_n C dL_law_230 rfl 5 rfl ?_
  refine j_aload_n C dL_law_231 rfl 6 rfl ?_
  show J _ _ _ _ _ 232 _
  refine j_bipush (v := 97) C dL_law_232 (by decide) ?_
  refine j_callS C [.ref (ad 0), .ref ga, .int 97] [] mlL_15 mcL_put (c_put S_194 ad hW_209 ga hm_201 hk_202 hn_203 hga B ((((((((((T + 3) + (num b9.1).length) + 1) + (num b9.2.1).length) + 1) + 3) + (num (bN b9.2.2.1)).length) + 1) + 3) + (num b9.2.2.2.1).length) e_190 x_191 x_192 hb 97 (p6 0 _ rfl) (by omega)) (M.rm (by decide) (by decide) (by omega) (by omega)) rfl rfl (Nat.le_of_ble_eq_true rfl) dL_law_234 (fun r_214 S_215 hp_216 => ?_)
  obtain ⟨rfl, hf_217, e_211, x_212, x_213⟩ := hp_216
  refine J.eq (st' := []) rfl rfl rfl ?_
  have hz_218 : ∀ j, aI S_215 (ad 17) j = 0 := fun j9 => (hf_217.ai (wm_17 (S := S_194) hW_209) (fun h9 => h9.elim (fun q9 => (wn (S := S_194) hW_209 (i := 17) (j := 1) (by decide) (by decide) (by decide)) q9) (fun q9 => (Ne.symm (hga 17 (by decide))) q9)) j9).trans (hz_197 j9)
  have hz_219 : ∀ j, aI S_215 (ad 21) j = 0 := fun j9 => (hf_217.ai (wm_21 (S := S_194) hW_209) (fun h9 => h9.elim (fun q9 => (wn (S := S_194) hW_209 (i := 21) (j := 1) (by decide) (by decide) (by decide)) q9) (fun q9 => (Ne.symm (hga 21 (by decide))) q9)) j9).trans (hz_198 j9)
  have hz_220 : ∀ j, aI S_215 (ad 23) j = 0 := fun j9 => (hf_217.ai (wm_23 (S := S_194) hW_209) (fun h9 => h9.elim (fun q9 => (wn (S := S_194) hW_209 (i := 23) (j := 1) (by decide) (by decide) (by decide)) q9) (fun q9 => (Ne.symm (hga 23 (by decide))) q9)) j9).trans (hz_199 j9)
  have hz_221 : ∀ j, aI S_215 (ad 4) j = 0 := fun j9 => (hf_217.ai (wm_4 (S := S_194) hW_209) (fun h9 => h9.elim (fun q9 => (wn (S := S_194) hW_209 (i := 4) (j := 1) (by decide) (by decide) (by decide)) q9) (fun q9 => (Ne.symm (hga 4 (by decide))) q9)) j9).trans (hz_200 j9)
  have hm_222 : ga ∈ hL S_215 := hf_217.mem hm_201
  have hk_223 : Kd S_215 ga 14 := hf_217.kd hm_201 hk_202
  have hn_224 : Ln S_215 ga 7 := hf_217.ln hm_201 hn_203
  have hm_225 : ma ∈ hL S_215 := hf_217.mem hm_204
  have hk_226 : Kd S_215 ma 14 := hf_217.kd hm_204 hk_205
  have hn_227 : Ln S_215 ma 4096 := hf_217.ln hm_204 hn_206
  have hv_228 : hI S_215 1105 (ad 0) = 0 := hf_217.fi (wm_0 (S := S_194) hW_209) (fun q9 => absurd q9.1 (by decide)) hv_207
  have hv_229 : hI S_215 209 (ad 15) = 0 := hf_217.fi (wm_15 (S := S_194) hW_209) (fun q9 => absurd q9.1 (by decide)) hv_208
  have hW_230 : Wd ad S_215 := hW_209.fm hf_217 (by intro _ _ h9; exact h9) (by intro p9 hp9; simp only [wqL, List.mem_cons, List.not_mem_nil, or_false] at hp9; rcases hp9 with rfl | rfl <;> intro h9 <;> rcases h9 with h9 | h9 <;> (first | exact absurd h9 (wn hW_209 (by decide) (by decide) (by decide)) | exact absurd h9.symm (hga _ (by decide))))
  have hx_231 : MP (aI S_215 ma) P := by
    have e0_9 : (aI S_215 ma) = (aI S_194 ma) := funext fun j9 => hf_217.ai hm_204 (fun h9 => h9.elim (fun q9 => (hma 1 (by decide)) q9) (fun q9 => (Ne.symm hgm) q9)) j9
    first | (rw [e0_9]; exact hx_210) | rw [e0_9]
  refine j_aload_n C dL_law_237 rfl 5 rfl ?_
  refine j_aload_n C dL_law_238 rfl 6 rfl ?_
  refine j_iload C dL_law_239 13 rfl ?_
  refine j_callS C [.ref (ad 0), .ref ga, .int (nI b9.2.2.2.2.1)] [] mlL_41 mcL_number (c_num S_215 ad hW_230 ga hm_222 hk_223 hn_224 hga B (((((((((((T + 3) + (num b9.1).length) + 1) + (num b9.2.1).length) + 1) + 3) + (num (bN b9.2.2.1)).length) + 1) + 3) + (num b9.2.2.2.1).length) + 1) e_211 x_212 x_213 hb b9.2.2.2.2.1 q7 (by omega) (by omega)) (M.rm (by decide) (by decide) (by omega) (by omega)) rfl rfl (Nat.le_of_ble_eq_true rfl) dL_law_241 (fun r_235 S_236 hp_237 => ?_)
  obtain ⟨rfl, hf_238, e_232, x_233, x_234⟩ := hp_237
  refine J.eq (st' := []) rfl rfl rfl ?_
  have hz_239 : ∀ j, aI S_236 (ad 17) j = 0 := fun j9 => (hf_238.ai (wm_17 (S := S_215) hW_230) (fun h9 => h9.elim (fun q9 => (wn (S := S_215) hW_230 (i := 17) (j := 1) (by decide) (by decide) (by decide)) q9) (fun q9 => (Ne.symm (hga 17 (by decide))) q9)) j9).trans (hz_218 j9)
  have hz_240 : ∀ j, aI S_236 (ad 21) j = 0 := fun j9 => (hf_238.ai (wm_21 (S := S_215) hW_230) (fun h9 => h9.elim (fun q9 => (wn (S := S_215) hW_230 (i := 21) (j := 1) (by decide) (by decide) (by decide)) q9) (fun q9 => (Ne.symm (hga 21 (by decide))) q9)) j9).trans (hz_219 j9)
  have hz_241 : ∀ j, aI S_236 (ad 23) j = 0 := fun j9 => (hf_238.ai (wm_23 (S := S_215) hW_230) (fun h9 => h9.elim (fun q9 => (wn (S := S_215) hW_230 (i := 23) (j := 1) (by decide) (by decide) (by decide)) q9) (fun q9 => (Ne.symm (hga 23 (by decide))) q9)) j9).trans (hz_220 j9)
  have hz_242 : ∀ j, aI S_236 (ad 4) j = 0 := fun j9 => (hf_238.ai (wm_4 (S := S_215) hW_230) (fun h9 => h9.elim (fun q9 => (wn (S := S_215) hW_230 (i := 4) (j := 1) (by decide) (by decide) (by decide)) q9) (fun q9 => (Ne.symm (hga 4 (by decide))) q9)) j9).trans (hz_221 j9)
  have hm_243 : ga ∈ hL S_236 := hf_238.mem hm_222
  have hk_244 : Kd S_236 ga 14 := hf_238.kd hm_222 hk_223
  have hn_245 : Ln S_236 ga 7 := hf_238.ln hm_222 hn_224
  have hm_246 : ma ∈ hL S_236 := hf_238.mem hm_225
  have hk_247 : Kd S_236 ma 14 := hf_238.kd hm_225 hk_226
  have hn_248 : Ln S_236 ma 4096 := hf_238.ln hm_225 hn_227
  have hv_249 : hI S_236 1105 (ad 0) = 0 := hf_238.fi (wm_0 (S := S_215) hW_230) (fun q9 => absurd q9.1 (by decide)) hv_228
  have hv_250 : hI S_236 209 (ad 15) = 0 := hf_238.fi (wm_15 (S := S_215) hW_230) (fun q9 => absurd q9.1 (by decide)) hv_229
  have hW_251 : Wd ad S_236 := hW_230.fm hf_238 (by intro _ _ h9; exact h9) (by intro p9 hp9; simp only [wqL, List.mem_cons, List.not_mem_nil, or_false] at hp9; rcases hp9 with rfl | rfl <;> intro h9 <;> rcases h9 with h9 | h9 <;> (first | exact absurd h9 (wn hW_230 (by decide) (by decide) (by decide)) | exact absurd h9.symm (hga _ (by decide))))
  have hx_252 : MP (aI S_236 ma) P := by
    have e0_9 : (aI S_236 ma) = (aI S_215 ma) := funext fun j9 => hf_238.ai hm_225 (fun h9 => h9.elim (fun q9 => (hma 1 (by decide)) q9) (fun q9 => (Ne.symm hgm) q9)) j9
    first | (rw [e0_9]; exact hx_231) | rw [e0_9]
  refine j_aload_n C dL_law_244 rfl 5 rfl ?_
  refine j_aload_n C dL_law_245 rfl 6 rfl ?_
  show J _ _ _ _ _ 246 _
  refine j_bipush (v := 98) C dL_law_246 (by decide) ?_
  refine j_callS C [.ref (ad 0), .ref ga, .int 98] [] mlL_15 mcL_put (c_put S_236 ad hW_251 ga hm_243 hk_244 hn_245 hga B ((((((((((((T + 3) + (num b9.1).length) + 1) + (num b9.2.1).length) + 1) + 3) + (num (bN b9.2.2.1)).length) + 1) + 3) + (num b9.2.2.2.1).length) + 1) + (num b9.2.2.2.2.1).length) e_232 x_233 x_234 hb 98 (p7 0 _ rfl) (by omega)) (M.rm (by decide) (by decide) (by omega) (by omega)) rfl rfl (Nat.le_of_ble_eq_true rfl) dL_law_248 (fun r_256 S_257 hp_258 => ?_)
  obtain ⟨rfl, hf_259, e_253, x_254, x_255⟩ := hp_258
  refine J.eq (st' := []) rfl rfl rfl ?_
  have hz_260 : ∀ j, aI S_257 (ad 17) j = 0 := fun j9 => (hf_259.ai (wm_17 (S := S_236) hW_251) (fun h9 => h9.elim (fun q9 => (wn (S := S_236) hW_251 (i := 17) (j := 1) (by decide) (by decide) (by decide)) q9) (fun q9 => (Ne.symm (hga 17 (by decide))) q9)) j9).trans (hz_239 j9)
  have hz_261 : ∀ j, aI S_257 (ad 21) j = 0 := fun j9 => (hf_259.ai (wm_21 (S := S_236) hW_251) (fun h9 => h9.elim (fun q9 => (wn (S := S_236) hW_251 (i := 21) (j := 1) (by decide) (by decide) (by decide)) q9) (fun q9 => (Ne.symm (hga 21 (by decide))) q9)) j9).trans (hz_240 j9)
  have hz_262 : ∀ j, aI S_257 (ad 23) j = 0 := fun j9 => (hf_259.ai (wm_23 (S := S_236) hW_251) (fun h9 => h9.elim (fun q9 => (wn (S := S_236) hW_251 (i := 23) (j := 1) (by decide) (by decide) (by decide)) q9) (fun q9 => (Ne.symm (hga 23 (by decide))) q9)) j9).trans (hz_241 j9)
  have hz_263 : ∀ j, aI S_257 (ad 4) j = 0 := fun j9 => (hf_259.ai (wm_4 (S := S_236) hW_251) (fun h9 => h9.elim (fun q9 => (wn (S := S_236) hW_251 (i := 4) (j := 1) (by decide) (by decide) (by decide)) q9) (fun q9 => (Ne.symm (hga 4 (by decide))) q9)) j9).trans (hz_242 j9)
  have hm_264 : ga ∈ hL S_257 := hf_259.mem hm_243
  have hk_265 : Kd S_257 ga 14 := hf_259.kd hm_243 hk_244
  have hn_266 : Ln S_257 ga 7 := hf_259.ln hm_243 hn_245
  have hm_267 : ma ∈ hL S_257 := hf_259.mem hm_246
  have hk_268 : Kd S_257 ma 14 := hf_259.kd hm_246 hk_247
  have hn_269 : Ln S_257 ma 4096 := hf_259.ln hm_246 hn_248
  have hv_270 : hI S_257 1105 (ad 0) = 0 := hf_259.fi (wm_0 (S := S_236) hW_251) (fun q9 => absurd q9.1 (by decide)) hv_249
  have hv_271 : hI S_257 209 (ad 15) = 0 := hf_259.fi (wm_15 (S := S_236) hW_251) (fun q9 => absurd q9.1 (by decide)) hv_250
  have hW_272 : Wd ad S_257 := hW_251.fm hf_259 (by intro _ _ h9; exact h9) (by intro p9 hp9; simp only [wqL, List.mem_cons, List.not_mem_nil, or_false] at hp9; rcases hp9 with rfl | rfl <;> intro h9 <;> rcases h9 with h9 | h9 <;> (first | exact absurd h9 (wn hW_251 (by decide) (by decide) (by decide)) | exact absurd h9.symm (hga _ (by decide))))
  have hx_273 : MP (aI S_257 ma) P := by
    have e0_9 : (aI S_257 ma) = (aI S_236 ma) := funext fun j9 => hf_259.ai hm_246 (fun h9 => h9.elim (fun q9 => (hma 1 (by decide)) q9) (fun q9 => (Ne.symm hgm) q9)) j9
    first | (rw [e0_9]; exact hx_252) | rw [e0_9]
  refine j_aload_n C dL_law_251 rfl 5 rfl ?_
  refine j_aload_n C dL_law_252 rfl 6 rfl ?_
  refine j_iload C dL_law_253 2 rfl ?_
  refine j_callS C [.ref (ad 0), .ref ga, .int (nI b9.2.2.2.2.2.1)] [] mlL_41 mcL_number (c_num S_257 ad hW_272 ga hm_264 hk_265 hn_266 hga B (((((((((((((T + 3) + (num b9.1).length) + 1) + (num b9.2.1).length) + 1) + 3) + (num (bN b9.2.2.1)).length) + 1) + 3) + (num b9.2.2.2.1).length) + 1) + (num b9.2.2.2.2.1).length) + 1) e_253 x_254 x_255 hb b9.2.2.2.2.2.1 q8 (by omega) (by omega)) (M.rm (by decide) (by decide) (by omega) (by omega)) rfl rfl (Nat.le_of_ble_eq_true rfl) dL_law_255 (fun r_277 S_278 hp_279 => ?_)
  obtain ⟨rfl, hf_280, e_274, x_275, x_276⟩ := hp_279
  refine J.eq (st' := []) rfl rfl rfl ?_
  have hz_281 : ∀ j, aI S_278 (ad 17) j = 0 := fun j9 => (hf_280.ai (wm_17 (S := S_257) hW_272) (fun h9 => h9.elim (fun q9 => (wn (S := S_257) hW_272 (i := 17) (j := 1) (by decide) (by decide) (by decide)) q9) (fun q9 => (Ne.symm (hga 17 (by decide))) q9)) j9).trans (hz_260 j9)
  have hz_282 : ∀ j, aI S_278 (ad 21) j = 0 := fun j9 => (hf_280.ai (wm_21 (S := S_257) hW_272) (fun h9 => h9.elim (fun q9 => (wn (S := S_257) hW_272 (i := 21) (j := 1) (by decide) (by decide) (by decide)) q9) (fun q9 => (Ne.symm (hga 21 (by decide))) q9)) j9).trans (hz_261 j9)
  have hz_283 : ∀ j, aI S_278 (ad 23) j = 0 := fun j9 => (hf_280.ai (wm_23 (S := S_257) hW_272) (fun h9 => h9.elim (fun q9 => (wn (S := S_257) hW_272 (i := 23) (j := 1) (by decide) (by decide) (by decide)) q9) (fun q9 => (Ne.symm (hga 23 (by decide))) q9)) j9).trans (hz_262 j9)
  have hz_284 : ∀ j, aI S_278 (ad 4) j = 0 := fun j9 => (hf_280.ai (wm_4 (S := S_257) hW_272) (fun h9 => h9.elim (fun q9 => (wn (S := S_257) hW_272 (i := 4) (j := 1) (by decide) (by decide) (by decide)) q9) (fun q9 => (Ne.symm (hga 4 (by decide))) q9)) j9).trans (hz_263 j9)
  have hm_285 : ga ∈ hL S_278 := hf_280.mem hm_264
  have hk_286 : Kd S_278 ga 14 := hf_280.kd hm_264 hk_265
  have hn_287 : Ln S_278 ga 7 := hf_280.ln hm_264 hn_266
  have hm_288 : ma ∈ hL S_278 := hf_280.mem hm_267
  have hk_289 : Kd S_278 ma 14 := hf_280.kd hm_267 hk_268
  have hn_290 : Ln S_278 ma 4096 := hf_280.ln hm_267 hn_269
  have hv_291 : hI S_278 1105 (ad 0) = 0 := hf_280.fi (wm_0 (S := S_257) hW_272) (fun q9 => absurd q9.1 (by decide)) hv_270
  have hv_292 : hI S_278 209 (ad 15) = 0 := hf_280.fi (wm_15 (S := S_257) hW_272) (fun q9 => absurd q9.1 (by decide)) hv_271
  have hW_293 : Wd ad S_278 := hW_272.fm hf_280 (by intro _ _ h9; exact h9) (by intro p9 hp9; simp only [wqL, List.mem_cons, List.not_mem_nil, or_false] at hp9; rcases hp9 with rfl | rfl <;> intro h9 <;> rcases h9 with h9 | h9 <;> (first | exact absurd h9 (wn hW_272 (by decide) (by decide) (by decide)) | exact absurd h9.symm (hga _ (by decide))))
  have hx_294 : MP (aI S_278 ma) P := by
    have e0_9 : (aI S_278 ma) = (aI S_257 ma) := funext fun j9 => hf_280.ai hm_267 (fun h9 => h9.elim (fun q9 => (hma 1 (by decide)) q9) (fun q9 => (Ne.symm hgm) q9)) j9
    first | (rw [e0_9]; exact hx_273) | rw [e0_9]
  refine j_aload_n C dL_law_258 rfl 5 rfl ?_
  refine j_aload_n C dL_law_259 rfl 6 rfl ?_
  show J _ _ _ _ _ 260 _
  refine j_bipush (v := 103) C dL_law_260 (by decide) ?_
  refine j_callS C [.ref (ad 0), .ref ga, .int 103] [] mlL_15 mcL_put (c_put S_278 ad hW_293 ga hm_285 hk_286 hn_287 hga B ((((((((((((((T + 3) + (num b9.1).length) + 1) + (num b9.2.1).length) + 1) + 3) + (num (bN b9.2.2.1)).length) + 1) + 3) + (num b9.2.2.2.1).length) + 1) + (num b9.2.2.2.2.1).length) + 1) + (num b9.2.2.2.2.2.1).length) e_274 x_275 x_276 hb 103 (p8 0 _ rfl) (by omega)) (M.rm (by decide) (by decide) (by omega) (by omega)) rfl rfl (Nat.le_of_ble_eq_true rfl) dL_law_262 (fun r_298 S_299 hp_300 => ?_)
  obtain ⟨rfl, hf_301, e_295, x_296, x_297⟩ := hp_300
  refine J.eq (st' := []) rfl rfl rfl ?_
  have hz_302 : ∀ j, aI S_299 (ad 17) j = 0 := fun j9 => (hf_301.ai (wm_17 (S := S_278) hW_293) (fun h9 => h9.elim (fun q9 => (wn (S := S_278) hW_293 (i := 17) (j := 1) (by decide) (by decide) (by decide)) q9) (fun q9 => (Ne.symm (hga 17 (by decide))) q9)) j9).trans (hz_281 j9)
  have hz_303 : ∀ j, aI S_299 (ad 21) j = 0 := fun j9 => (hf_301.ai (wm_21 (S := S_278) hW_293) (fun h9 => h9.elim (fun q9 => (wn (S := S_278) hW_293 (i := 21) (j := 1) (by decide) (by decide) (by decide)) q9) (fun q9 => (Ne.symm (hga 21 (by decide))) q9)) j9).trans (hz_282 j9)
  have hz_304 : ∀ j, aI S_299 (ad 23) j = 0 := fun j9 => (hf_301.ai (wm_23 (S := S_278) hW_293) (fun h9 => h9.elim (fun q9 => (wn (S := S_278) hW_293 (i := 23) (j := 1) (by decide) (by decide) (by decide)) q9) (fun q9 => (Ne.symm (hga 23 (by decide))) q9)) j9).trans (hz_283 j9)
  have hz_305 : ∀ j, aI S_299 (ad 4) j = 0 := fun j9 => (hf_301.ai (wm_4 (S := S_278) hW_293) (fun h9 => h9.elim (fun q9 => (wn (S := S_278) hW_293 (i := 4) (j := 1) (by decide) (by decide) (by decide)) q9) (fun q9 => (Ne.symm (hga 4 (by decide))) q9)) j9).trans (hz_284 j9)
  have hm_306 : ga ∈ hL S_299 := hf_301.mem hm_285
  have hk_307 : Kd S_299 ga 14 := hf_301.kd hm_285 hk_286
  have hn_308 : Ln S_299 ga 7 := hf_301.ln hm_285 hn_287
  have hm_309 : ma ∈ hL S_299 := hf_301.mem hm_288
  have hk_310 : Kd S_299 ma 14 := hf_301.kd hm_288 hk_289
  have hn_311 : Ln S_299 ma 4096 := hf_301.ln hm_288 hn_290
  have hv_312 : hI S_299 1105 (ad 0) = 0 := hf_301.fi (wm_0 (S := S_278) hW_293) (fun q9 => absurd q9.1 (by decide)) hv_291
  have hv_313 : hI S_299 209 (ad 15) = 0 := hf_301.fi (wm_15 (S := S_278) hW_293) (fun q9 => absurd q9.1 (by decide)) hv_292
  have hW_314 : Wd ad S_299 := hW_293.fm hf_301 (by intro _ _ h9; exact h9) (by intro p9 hp9; simp only [wqL, List.mem_cons, List.not_mem_nil, or_false] at hp9; rcases hp9 with rfl | rfl <;> intro h9 <;> rcases h9 with h9 | h9 <;> (first | exact absurd h9 (wn hW_293 (by decide) (by decide) (by decide)) | exact absurd h9.symm (hga _ (by decide))))
  have hx_315 : MP (aI S_299 ma) P := by
    have e0_9 : (aI S_299 ma) = (aI S_278 ma) := funext fun j9 => hf_301.ai hm_288 (fun h9 => h9.elim (fun q9 => (hma 1 (by decide)) q9) (fun q9 => (Ne.symm hgm) q9)) j9
    first | (rw [e0_9]; exact hx_294) | rw [e0_9]
  refine j_aload_n C dL_law_265 rfl 5 rfl ?_
  refine j_aload_n C dL_law_266 rfl 6 rfl ?_
  refine j_iload C dL_law_267 3 rfl ?_
  refine j_callS C [.ref (ad 0), .ref ga, .int (nI b9.2.2.2.2.2.2)] [] mlL_41 mcL_number (c_num S_299 ad hW_314 ga hm_306 hk_307 hn_308 hga B (((((((((((((((T + 3) + (num b9.1).length) + 1) + (num b9.2.1).length) + 1) + 3) + (num (bN b9.2.2.1)).length) + 1) + 3) + (num b9.2.2.2.1).length) + 1) + (num b9.2.2.2.2.1).length) + 1) + (num b9.2.2.2.2.2.1).length) + 1) e_295 x_296 x_297 hb b9.2.2.2.2.2.2 q9 (by omega) (by omega)) (M.rm (by decide) (by decide) (by omega) (by omega)) rfl rfl (Nat.le_of_ble_eq_true rfl) dL_law_269 (fun r_319 S_320 hp_321 => ?_)
  obtain ⟨rfl, hf_322, e_316, x_317, x_318⟩ := hp_321
  refine J.eq (st' := []) rfl rfl rfl ?_
  have hz_323 : ∀ j, aI S_320 (ad 17) j = 0 := fun j9 => (hf_322.ai (wm_17 (S := S_299) hW_314) (fun h9 => h9.elim (fun q9 => (wn (S := S_299) hW_314 (i := 17) (j := 1) (by decide) (by decide) (by decide)) q9) (fun q9 => (Ne.symm (hga 17 (by decide))) q9)) j9).trans (hz_302 j9)
  have hz_324 : ∀ j, aI S_320 (ad 21) j = 0 := fun j9 => (hf_322.ai (wm_21 (S := S_299) hW_314) (fun h9 => h9.elim (fun q9 => (wn (S := S_299) hW_314 (i := 21) (j := 1) (by decide) (by decide) (by decide)) q9) (fun q9 => (Ne.symm (hga 21 (by decide))) q9)) j9).trans (hz_303 j9)
  have hz_325 : ∀ j, aI S_320 (ad 23) j = 0 := fun j9 => (hf_322.ai (wm_23 (S := S_299) hW_314) (fun h9 => h9.elim (fun q9 => (wn (S := S_299) hW_314 (i := 23) (j := 1) (by decide) (by decide) (by decide)) q9) (fun q9 => (Ne.symm (hga 23 (by decide))) q9)) j9).trans (hz_304 j9)
  have hz_326 : ∀ j, aI S_320 (ad 4) j = 0 := fun j9 => (hf_322.ai (wm_4 (S := S_299) hW_314) (fun h9 => h9.elim (fun q9 => (wn (S := S_299) hW_314 (i := 4) (j := 1) (by decide) (by decide) (by decide)) q9) (fun q9 => (Ne.symm (hga 4 (by decide))) q9)) j9).trans (hz_305 j9)
  have hm_327 : ga ∈ hL S_320 := hf_322.mem hm_306
  have hk_328 : Kd S_320 ga 14 := hf_322.kd hm_306 hk_307
  have hn_329 : Ln S_320 ga 7 := hf_322.ln hm_306 hn_308
  have hm_330 : ma ∈ hL S_320 := hf_322.mem hm_309
  have hk_331 : Kd S_320 ma 14 := hf_322.kd hm_309 hk_310
  have hn_332 : Ln S_320 ma 4096 := hf_322.ln hm_309 hn_311
  have hv_333 : hI S_320 1105 (ad 0) = 0 := hf_322.fi (wm_0 (S := S_299) hW_314) (fun q9 => absurd q9.1 (by decide)) hv_312
  have hv_334 : hI S_320 209 (ad 15) = 0 := hf_322.fi (wm_15 (S := S_299) hW_314) (fun q9 => absurd q9.1 (by decide)) hv_313
  have hW_335 : Wd ad S_320 := hW_314.fm hf_322 (by intro _ _ h9; exact h9) (by intro p9 hp9; simp only [wqL, List.mem_cons, List.not_mem_nil, or_false] at hp9; rcases hp9 with rfl | rfl <;> intro h9 <;> rcases h9 with h9 | h9 <;> (first | exact absurd h9 (wn hW_314 (by decide) (by decide) (by decide)) | exact absurd h9.symm (hga _ (by decide))))
  have hx_336 : MP (aI S_320 ma) P := by
    have e0_9 : (aI S_320 ma) = (aI S_299 ma) := funext fun j9 => hf_322.ai hm_309 (fun h9 => h9.elim (fun q9 => (hma 1 (by decide)) q9) (fun q9 => (Ne.symm hgm) q9)) j9
    first | (rw [e0_9]; exact hx_315) | rw [e0_9]
  refine j_aload_n C dL_law_272 rfl 5 rfl ?_
  refine j_aload_n C dL_law_273 rfl 6 rfl ?_
  show J _ _ _ _ _ 274 _
  refine j_bipush (v := 80) C dL_law_274 (by decide) ?_
  refine j_callS C [.ref (ad 0), .ref ga, .int 80] [] mlL_15 mcL_put (c_put S_320 ad hW_335 ga hm_327 hk_328 hn_329 hga B ((((((((((((((((T + 3) + (num b9.1).length) + 1) + (num b9.2.1).length) + 1) + 3) + (num (bN b9.2.2.1)).length) + 1) + 3) + (num b9.2.2.2.1).length) + 1) + (num b9.2.2.2.2.1).length) + 1) + (num b9.2.2.2.2.2.1).length) + 1) + (num b9.2.2.2.2.2.2).length) e_316 x_317 x_318 hb 80 (p9 0 _ rfl) (by omega)) (M.rm (by decide) (by decide) (by omega) (by omega)) rfl rfl (Nat.le_of_ble_eq_true rfl) dL_law_276 (fun r_340 S_341 hp_342 => ?_)
  obtain ⟨rfl, hf_343, e_337, x_338, x_339⟩ := hp_342
  refine J.eq (st' := []) rfl rfl rfl ?_
  have hz_344 : ∀ j, aI S_341 (ad 17) j = 0 := fun j9 => (hf_343.ai (wm_17 (S := S_320) hW_335) (fun h9 => h9.elim (fun q9 => (wn (S := S_320) hW_335 (i := 17) (j := 1) (by decide) (by decide) (by decide)) q9) (fun q9 => (Ne.symm (hga 17 (by decide))) q9)) j9).trans (hz_323 j9)
  have hz_345 : ∀ j, aI S_341 (ad 21) j = 0 := fun j9 => (hf_343.ai (wm_21 (S := S_320) hW_335) (fun h9 => h9.elim (fun q9 => (wn (S := S_320) hW_335 (i := 21) (j := 1) (by decide) (by decide) (by decide)) q9) (fun q9 => (Ne.symm (hga 21 (by decide))) q9)) j9).trans (hz_324 j9)
  have hz_346 : ∀ j, aI S_341 (ad 23) j = 0 := fun j9 => (hf_343.ai (wm_23 (S := S_320) hW_335) (fun h9 => h9.elim (fun q9 => (wn (S := S_320) hW_335 (i := 23) (j := 1) (by decide) (by decide) (by decide)) q9) (fun q9 => (Ne.symm (hga 23 (by decide))) q9)) j9).trans (hz_325 j9)
  have hz_347 : ∀ j, aI S_341 (ad 4) j = 0 := fun j9 => (hf_343.ai (wm_4 (S := S_320) hW_335) (fun h9 => h9.elim (fun q9 => (wn (S := S_320) hW_335 (i := 4) (j := 1) (by decide) (by decide) (by decide)) q9) (fun q9 => (Ne.symm (hga 4 (by decide))) q9)) j9).trans (hz_326 j9)
  have hm_348 : ga ∈ hL S_341 := hf_343.mem hm_327
  have hk_349 : Kd S_341 ga 14 := hf_343.kd hm_327 hk_328
  have hn_350 : Ln S_341 ga 7 := hf_343.ln hm_327 hn_329
  have hm_351 : ma ∈ hL S_341 := hf_343.mem hm_330
  have hk_352 : Kd S_341 ma 14 := hf_343.kd hm_330 hk_331
  have hn_353 : Ln S_341 ma 4096 := hf_343.ln hm_330 hn_332
  have hv_354 : hI S_341 1105 (ad 0) = 0 := hf_343.fi (wm_0 (S := S_320) hW_335) (fun q9 => absurd q9.1 (by decide)) hv_333
  have hv_355 : hI S_341 209 (ad 15) = 0 := hf_343.fi (wm_15 (S := S_320) hW_335) (fun q9 => absurd q9.1 (by decide)) hv_334
  have hW_356 : Wd ad S_341 := hW_335.fm hf_343 (by intro _ _ h9; exact h9) (by intro p9 hp9; simp only [wqL, List.mem_cons, List.not_mem_nil, or_false] at hp9; rcases hp9 with rfl | rfl <;> intro h9 <;> rcases h9 with h9 | h9 <;> (first | exact absurd h9 (wn hW_335 (by decide) (by decide) (by decide)) | exact absurd h9.symm (hga _ (by decide))))
  have hx_357 : MP (aI S_341 ma) P := by
    have e0_9 : (aI S_341 ma) = (aI S_320 ma) := funext fun j9 => hf_343.ai hm_330 (fun h9 => h9.elim (fun q9 => (hma 1 (by decide)) q9) (fun q9 => (Ne.symm hgm) q9)) j9
    first | (rw [e0_9]; exact hx_336) | rw [e0_9]
  have eT : ((((((((((((((((T + 3) + (num b9.1).length) + 1) + (num b9.2.1).length) + 1) + 3) + (num (bN b9.2.2.1)).length) + 1) + 3) + (num b9.2.2.2.1).length) + 1) + (num b9.2.2.2.2.1).length) + 1) + (num b9.2.2.2.2.2.1).length) + 1) + (num b9.2.2.2.2.2.2).length) + 1 = T + (boxL b9).length := by omega
  refine J.sub [4, 5, 6, 7, 0, 8, 10, 11, 12, 13, 3, 2, 1] (lv' := [(0, .ref b), (1, .ref (ad 0)), (2, .ref ga), (3, .ref ma), (4, .int (nI (i + 1))), (5, .int (nI (2 * i))), (8, .int (nI b9.1)), (9, .int (nI b9.2.1)), (10, .int (nI b9.2.2.2.1)), (11, .int (nI b9.2.2.2.2.1)), (12, .int (nI b9.2.2.2.2.2.2)), (13, .int (nI b9.2.2.2.2.2.1)), (14, .int (cI b9.2.2.1))]) (by rfl) ?_
  exact K S_341 ⟨hW_356, ⟨hm_348, hk_349, hn_350⟩, ⟨hm_351, hk_352, hn_353⟩, (by rw [← eT]; exact e_337), hv_354, hv_355, (by rw [← eT]; exact x_338), (by rw [← eT]; exact x_339), hx_357, hz_347, hz_344, hz_345, hz_346⟩
