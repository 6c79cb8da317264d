def rpL (n : Nat) (x : Int64) : Int64 := x ||| (x.toUInt64 >>> ((nI n).toInt64.toUInt64 &&& Int64.toUInt64 63)).toInt64
/-- a tile's row of one dot, over and over; of four dots -/
def rw1 (c : Bool) : Int64 := rpL 32 (rpL 16 (rpL 8 (rpL 4 (rpL 2 (rpL 1 ((cI c).toInt64 <<< ((63 : Int32).toInt64 &&& 63)))))))
def rw4 (b : Nat) : Int64 := rpL 32 (rpL 16 (rpL 8 (rpL 4 (lN b <<< ((60 : Int32).toInt64 &&& 63)))))
def topW (x : Int64) : Int32 := (x.toUInt64 >>> ((32 : Int32).toInt64.toUInt64 &&& Int64.toUInt64 63)).toInt64.toInt32
theorem top1 (c : Bool) : topW (rw1 c) = fI c := by cases c <;> decide
theorem top4 : ∀ b, b < 16 → ∀ i, i < 32 → bt (topW (rw4 b)) (31 - i) = b.testBit (3 - i % 4) := by decide +kernel
theorem shl0 (v : Int64) : v <<< ((nI 0).toInt64 &&& 63) = v := Int64.toBitVec_inj.mp (by
  rw [Int64.toBitVec_shiftLeft]
  show v.toBitVec <<< (((nI 0).toInt64 &&& 63).toBitVec.smod 64).toNat = _
  rw [show (((nI 0).toInt64 &&& 63).toBitVec.smod 64).toNat = 0 by decide, BitVec.shiftLeft_zero])
theorem xor_pos {a b : Nat} (ha : a < 2 ^ 31) (hb : b < 2 ^ 31) : (0 : Int32) ≤ nI a ^^^ nI b := by
  have e : nI a ^^^ nI b = nI (a ^^^ b) := Int32.toBitVec_inj.1 (by
    show BitVec.ofNat 32 a ^^^ BitVec.ofNat 32 b = BitVec.ofNat 32 (a ^^^ b)
    apply BitVec.eq_of_getLsbD_eq
    intro i hi
    simp [hi])
  rw [e]
  exact nI_pos' (Nat.xor_lt_two_pow ha hb)
def shN (k : Nat) : Nat := [0, 8, 2, 10, 12, 4, 14, 6, 3, 11, 1, 9, 15, 7, 13, 5].getD k 0
theorem sh_ok : ∀ k, k < 16 → st_SHADES.getD k 0 = nI (shN k) := by decide
theorem sh_le : ∀ k, k < 16 → shN k < 16 := by decide
/-- the first bits of a shade's row -/
def nibP (n b : Nat) : Nat → Nat
  | 0 => 0
  | a + 1 => nibP n b a * 2 + (if 100 * shN (4 * b + a) < 16 * n then 1 else 0)
theorem nib_lt (n b : Nat) : ∀ a, nibP n b a < 2 ^ a
  | 0 => Nat.zero_lt_one
  | a + 1 => by
    have := nib_lt n b a
    unfold nibP
    rw [Nat.pow_succ]
    split <;> omega
theorem or_low {m : Nat} (c : Nat) (hc : c < 2) : nI (m * 2) ||| nI c = nI (m * 2 + c) := by
  have e : nI (m * 2) ||| nI c = nI (m * 2 ||| c) := Int32.toBitVec_inj.1 (by
    show BitVec.ofNat 32 (m * 2) ||| BitVec.ofNat 32 c = BitVec.ofNat 32 (m * 2 ||| c)
    apply BitVec.eq_of_getLsbD_eq
    intro i hi
    simp [hi])
  have h : m * 2 + c = m * 2 ||| c := by
    have := Nat.two_pow_add_eq_or_of_lt (i := 1) (show c < 2 ^ 1 from hc) m
    rw [show 2 ^ 1 * m = m * 2 by omega] at this
    exact this
  rw [e, h]
theorem nib_y {n b a : Nat} (h : ¬ nI (16 * n) ≤ nI (100 * shN (b * 4 + a))) (hk : b * 4 + a < 16) (hn : n < 1000) : nI (nibP n b a * 2) ||| 1 = nI (nibP n b (a + 1)) := by
  have h1 : 100 * shN (4 * b + a) < 16 * n := by
    rw [show 4 * b + a = b * 4 + a by omega]
    have := sh_le _ hk
    exact Nat.lt_of_not_le fun q => h (nI_le q (by omega))
  show _ = nI (nibP n b a * 2 + _)
  rw [if_pos h1]
  exact or_low 1 (by decide)
theorem nib_n {n b a : Nat} (h : nI (16 * n) ≤ nI (100 * shN (b * 4 + a))) (hk : b * 4 + a < 16) (hn : n < 1000) : nI (nibP n b a * 2) ||| 0 = nI (nibP n b (a + 1)) := by
  have h1 : ¬ 100 * shN (4 * b + a) < 16 * n := by
    rw [show 4 * b + a = b * 4 + a by omega]
    have := sh_le _ hk
    exact fun q => (nI_ge q (by omega)) h
  show _ = nI (nibP n b a * 2 + _)
  rw [if_neg h1]
  exact or_low 0 (by decide)

theorem dJ9_floorMod_7cf53_0 : decode cJ9_floorMod_7cf53 0 = .ok (.iload_n 0, 1) := by decide +kernel
theorem dJ9_floorMod_7cf53_1 : decode cJ9_floorMod_7cf53 1 = .ok (.iload_n 1, 1) := by decide +kernel
theorem dJ9_floorMod_7cf53_2 : decode cJ9_floorMod_7cf53 2 = .ok (.irem, 1) := by decide +kernel
theorem dJ9_floorMod_7cf53_3 : decode cJ9_floorMod_7cf53 3 = .ok (.istore_n 2, 1) := by decide +kernel
theorem dJ9_floorMod_7cf53_4 : decode cJ9_floorMod_7cf53 4 = .ok (.iload_n 0, 1) := by decide +kernel
theorem dJ9_floorMod_7cf53_5 : decode cJ9_floorMod_7cf53 5 = .ok (.iload_n 1, 1) := by decide +kernel
theorem dJ9_floorMod_7cf53_6 : decode cJ9_floorMod_7cf53 6 = .ok (.ixor, 1) := by decide +kernel
theorem dJ9_floorMod_7cf53_7 : decode cJ9_floorMod_7cf53 7 = .ok (.ifCond .ge 11, 3) := by decide +kernel
theorem dJ9_floorMod_7cf53_10 : decode cJ9_floorMod_7cf53 10 = .ok (.iload_n 2, 1) := by decide +kernel
theorem dJ9_floorMod_7cf53_11 : decode cJ9_floorMod_7cf53 11 = .ok (.ifCond .eq 7, 3) := by decide +kernel
theorem dJ9_floorMod_7cf53_14 : decode cJ9_floorMod_7cf53 14 = .ok (.iload_n 2, 1) := by decide +kernel
theorem dJ9_floorMod_7cf53_15 : decode cJ9_floorMod_7cf53 15 = .ok (.iload_n 1, 1) := by decide +kernel
theorem dJ9_floorMod_7cf53_16 : decode cJ9_floorMod_7cf53 16 = .ok (.iadd, 1) := by decide +kernel
theorem dJ9_floorMod_7cf53_17 : decode cJ9_floorMod_7cf53 17 = .ok (.ireturn, 1) := by decide +kernel
theorem dJ9_floorMod_7cf53_18 : decode cJ9_floorMod_7cf53 18 = .ok (.iload_n 2, 1) := by decide +kernel
theorem dJ9_floorMod_7cf53_19 : decode cJ9_floorMod_7cf53 19 = .ok (.ireturn, 1) := by decide +kernel

set_option maxRecDepth 100000 in
set_option maxHeartbeats 4000000 in
theorem c_fm (S : Hp) (a9 : Nat) (d9 : Nat) (ha : a9 < 2 ^ 31) (h0 : 0 < d9) (hd : d9 < 2 ^ 31) : Ct 1 yJ9_floorMod_7cf53 cJ9_floorMod_7cf53 3 (some .int) 0 0 [.int (nI a9), .int (nI d9)] S (fun r S' => r = some (.int (nI (a9 % d9))) ∧ S' = S) := by
  refine ct_ofF (by decide +kernel) (Nat.le_of_ble_eq_true rfl) fun x hn9 C M hm9 => ?_
  have C : CB x RJ9 cJ9_floorMod_7cf53 := C
  refine J.eq (lv' := [(0, .int (nI a9)), (1, .int (nI d9))]) rfl rfl rfl ?_
  refine j_iload_n C dJ9_floorMod_7cf53_0 rfl 0 rfl ?_
  refine j_iload_n C dJ9_floorMod_7cf53_1 rfl 1 rfl ?_
  refine j_irem (v := nI (a9 % d9)) C dJ9_floorMod_7cf53_2 (nI_ne0 (by omega) (by omega)) (pk_rem ha h0 hd) ?_
  refine j_istore_n (lv' := [(2, .int (nI (a9 % d9))), (0, .int (nI a9)), (1, .int (nI d9))]) C dJ9_floorMod_7cf53_3 rfl (by rw [hn9]; decide) rfl ?_
  refine j_iload_n C dJ9_floorMod_7cf53_4 rfl 1 rfl ?_
  refine j_iload_n C dJ9_floorMod_7cf53_5 rfl 2 rfl ?_
  refine j_ixor (v := nI a9 ^^^ nI d9) C dJ9_floorMod_7cf53_6 rfl ?_
  refine j_if_ge (tgt := 18) C dJ9_floorMod_7cf53_7 (by decide) (fun c_7 => ?_) (fun c_7 => absurd (xor_pos ha hd) c_7)
  show J _ _ _ _ _ 18 _
  refine j_iload_n C dJ9_floorMod_7cf53_18 rfl 0 rfl ?_
  exact j_iret C M dJ9_floorMod_7cf53_19 (by decide) (by decide) ⟨rfl, rfl⟩

theorem dX10_size_0 : decode cX10_size 0 = .ok (.aload_n 0, 1) := by decide +kernel
theorem dX10_size_1 : decode cX10_size 1 = .ok (.iconst 1, 1) := by decide +kernel
theorem dX10_size_2 : decode cX10_size 2 = .ok (.iload_n 1, 1) := by decide +kernel
theorem dX10_size_3 : decode cX10_size 3 = .ok (.bipush 16, 2) := by decide +kernel
theorem dX10_size_5 : decode cX10_size 5 = .ok (.invokestatic 30, 3) := by decide +kernel
theorem dX10_size_8 : decode cX10_size 8 = .ok (.invokestatic 36, 3) := by decide +kernel
theorem dX10_size_11 : decode cX10_size 11 = .ok (.putfield 7, 3) := by decide +kernel
theorem dX10_size_14 : decode cX10_size 14 = .ok (.aload_n 0, 1) := by decide +kernel
theorem dX10_size_15 : decode cX10_size 15 = .ok (.iconst 1, 1) := by decide +kernel
theorem dX10_size_16 : decode cX10_size 16 = .ok (.iload_n 2, 1) := by decide +kernel
theorem dX10_size_17 : decode cX10_size 17 = .ok (.bipush 16, 2) := by decide +kernel
theorem dX10_size_19 : decode cX10_size 19 = .ok (.invokestatic 30, 3) := by decide +kernel
theorem dX10_size_22 : decode cX10_size 22 = .ok (.invokestatic 36, 3) := by decide +kernel
theorem dX10_size_25 : decode cX10_size 25 = .ok (.putfield 13, 3) := by decide +kernel
theorem dX10_size_28 : decode cX10_size 28 = .ok (.aload_n 0, 1) := by decide +kernel
theorem dX10_size_29 : decode cX10_size 29 = .ok (.iconst 0, 1) := by decide +kernel
theorem dX10_size_30 : decode cX10_size 30 = .ok (.putfield 20, 3) := by decide +kernel
theorem dX10_size_33 : decode cX10_size 33 = .ok (.return_, 1) := by decide +kernel

set_option maxRecDepth 100000 in
set_option maxHeartbeats 4000000 in
theorem c_size1 (S : Hp) (t : Nat) (m_t : t ∈ hL S) (k_t : Kd S t 10) : Ct 2 yX10_size cX10_size 3 none 0 0 [.ref t, .int 1, .int 1] S (fun r S' => r = none ∧ S' = (sI (sI (sI S 1000 t 1) 1001 t 1) 1002 t 0)) := by
  refine ct_of (by decide) (Nat.le_of_ble_eq_true rfl) fun x hn9 C M hm9 => ?_
  have C : CB x RX10 cX10_size := C
  refine J.eq (lv' := [(0, .ref t), (1, .int 1), (2, .int 1)]) rfl rfl rfl ?_
  refine j_aload_n C dX10_size_0 rfl 0 rfl ?_
  refine j_iconst (v := 1) C dX10_size_1 (by decide) ?_
  refine j_iload_n C dX10_size_2 rfl 1 rfl ?_
  refine j_bipush (v := 16) C dX10_size_3 (by decide) ?_
  refine j_callS C [.int 1, .int 16] [.int 1, .ref t] mlX10_30 mcJ9_min_7cf53 (c_J9_min_7cf53 S 1 16) (M.rm (by decide) (by decide) (Nat.le_of_ble_eq_true rfl) (Nat.le_of_ble_eq_true rfl)) rfl rfl (Nat.le_of_ble_eq_true rfl) dX10_size_5 (fun r_1 S_2 hp_3 => ?_)
  obtain ⟨rfl, e_4⟩ := hp_3
  refine J.eq (S' := S) (st' := .int 1 :: [.int 1, .ref t]) (lv' := [(0, .ref t), (1, .int 1), (2, .int 1)]) e_4 rfl (congrArg (fun z9 => Value.int z9 :: [.int 1, .ref t]) (by decide)) ?_
  refine J.eq (S' := S) (st' := [.int 1, .int 1, .ref t]) (lv' := [(0, .ref t), (1, .int 1), (2, .int 1)]) rfl rfl rfl ?_
  refine j_callS C [.int 1, .int 1] [.ref t] mlX10_36 mcJ9_max_7cf53 (c_J9_max_7cf53 S 1 1) (M.rm (by decide) (by decide) (Nat.le_of_ble_eq_true rfl) (Nat.le_of_ble_eq_true rfl)) rfl rfl (Nat.le_of_ble_eq_true rfl) dX10_size_8 (fun r_5 S_6 hp_7 => ?_)
  obtain ⟨rfl, e_8⟩ := hp_7
  refine J.eq (S' := S) (st' := .int 1 :: [.ref t]) (lv' := [(0, .ref t), (1, .int 1), (2, .int 1)]) e_8 rfl (congrArg (fun z9 => Value.int z9 :: [.ref t]) (by decide)) ?_
  refine J.eq (S' := S) (st' := [.int 1, .ref t]) (lv' := [(0, .ref t), (1, .int 1), (2, .int 1)]) rfl rfl rfl ?_
  refine j_puti (f := 1000) C flX10_7 (by decide) rfl rfl dX10_size_11 m_t k_t rfl ?_
  refine j_aload_n C dX10_size_14 rfl 0 rfl ?_
  show J _ _ _ _ _ 15 _
  refine j_iconst (v := 1) C dX10_size_15 (by decide) ?_
  refine j_iload_n C dX10_size_16 rfl 2 rfl ?_
  refine j_bipush (v := 16) C dX10_size_17 (by decide) ?_
  refine j_callS C [.int 1, .int 16] [.int 1, .ref t] mlX10_30 mcJ9_min_7cf53 (c_J9_min_7cf53 (sI S 1000 t 1) 1 16) (M.rm (by decide) (by decide) (Nat.le_of_ble_eq_true rfl) (Nat.le_of_ble_eq_true rfl)) rfl rfl (Nat.le_of_ble_eq_true rfl) dX10_size_19 (fun r_9 S_10 hp_11 => ?_)
  obtain ⟨rfl, e_12⟩ := hp_11
  refine J.eq (S' := (sI S 1000 t 1)) (st' := .int 1 :: [.int 1, .ref t]) (lv' := [(0, .ref t), (1, .int 1), (2, .int 1)]) e_12 rfl (congrArg (fun z9 => Value.int z9 :: [.int 1, .ref t]) (by decide)) ?_
  refine J.eq (S' := (sI S 1000 t 1)) (st' := [.int 1, .int 1, .ref t]) (lv' := [(0, .ref t), (1, .int 1), (2, .int 1)]) rfl rfl rfl ?_
  refine j_callS C [.int 1, .int 1] [.ref t] mlX10_36 mcJ9_max_7cf53 (c_J9_max_7cf53 (sI S 1000 t 1) 1 1) (M.rm (by decide) (by decide) (Nat.le_of_ble_eq_true rfl) (Nat.le_of_ble_eq_true rfl)) rfl rfl (Nat.le_of_ble_eq_true rfl) dX10_size_22 (fun r_13 S_14 hp_15 => ?_)
  obtain ⟨rfl, e_16⟩ := hp_15
  refine J.eq (S' := (sI S 1000 t 1)) (st' := .int 1 :: [.ref t]) (lv' := [(0, .ref t), (1, .int 1), (2, .int 1)]) e_16 rfl (congrArg (fun z9 => Value.int z9 :: [.ref t]) (by decide)) ?_
  refine J.eq (S' := (sI S 1000 t 1)) (st' := [.int 1, .ref t]) (lv' := [(0, .ref t), (1, .int 1), (2, .int 1)]) rfl rfl rfl ?_
  refine j_puti (f := 1001) C flX10_13 (by decide) rfl rfl dX10_size_25 m_t k_t rfl ?_
  refine j_aload_n C dX10_size_28 rfl 0 rfl ?_
  refine j_iconst (v := 0) C dX10_size_29 (by decide) ?_
  show J _ _ _ _ _ 30 _
  refine j_putz (f := 1002) C flX10_20 (by decide) rfl rfl (by decide) dX10_size_30 m_t k_t rfl ?_
  exact j_vret C M dX10_size_33 (Nat.le_of_ble_eq_true rfl) (Nat.le_of_ble_eq_true rfl) ⟨rfl, rfl⟩

set_option maxRecDepth 100000 in
set_option maxHeartbeats 4000000 in
theorem c_size4 (S : Hp) (t : Nat) (m_t : t ∈ hL S) (k_t : Kd S t 10) : Ct 2 yX10_size cX10_size 3 none 0 0 [.ref t, .int 4, .int 4] S (fun r S' => r = none ∧ S' = (sI (sI (sI S 1000 t 4) 1001 t 4) 1002 t 0)) := by
  refine ct_of (by decide) (Nat.le_of_ble_eq_true rfl) fun x hn9 C M hm9 => ?_
  have C : CB x RX10 cX10_size := C
  refine J.eq (lv' := [(0, .ref t), (1, .int 4), (2, .int 4)]) rfl rfl rfl ?_
  refine j_aload_n C dX10_size_0 rfl 0 rfl ?_
  refine j_iconst (v := 1) C dX10_size_1 (by decide) ?_
  refine j_iload_n C dX10_size_2 rfl 1 rfl ?_
  refine j_bipush (v := 16) C dX10_size_3 (by decide) ?_
  refine j_callS C [.int 4, .int 16] [.int 1, .ref t] mlX10_30 mcJ9_min_7cf53 (c_J9_min_7cf53 S 4 16) (M.rm (by decide) (by decide) (Nat.le_of_ble_eq_true rfl) (Nat.le_of_ble_eq_true rfl)) rfl rfl (Nat.le_of_ble_eq_true rfl) dX10_size_5 (fun r_1 S_2 hp_3 => ?_)
  obtain ⟨rfl, e_4⟩ := hp_3
  refine J.eq (S' := S) (st' := .int 4 :: [.int 1, .ref t]) (lv' := [(0, .ref t), (1, .int 4), (2, .int 4)]) e_4 rfl (congrArg (fun z9 => Value.int z9 :: [.int 1, .ref t]) (by decide)) ?_
  refine J.eq (S' := S) (st' := [.int 4, .int 1, .ref t]) (lv' := [(0, .ref t), (1, .int 4), (2, .int 4)]) rfl rfl rfl ?_
  refine j_callS C [.int 1, .int 4] [.ref t] mlX10_36 mcJ9_max_7cf53 (c_J9_max_7cf53 S 1 4) (M.rm (by decide) (by decide) (Nat.le_of_ble_eq_true rfl) (Nat.le_of_ble_eq_true rfl)) rfl rfl (Nat.le_of_ble_eq_true rfl) dX10_size_8 (fun r_5 S_6 hp_7 => ?_)
  obtain ⟨rfl, e_8⟩ := hp_7
  refine J.eq (S' := S) (st' := .int 4 :: [.ref t]) (lv' := [(0, .ref t), (1, .int 4), (2, .int 4)]) e_8 rfl (congrArg (fun z9 => Value.int z9 :: [.ref t]) (by decide)) ?_
  refine J.eq (S' := S) (st' := [.int 4, .ref t]) (lv' := [(0, .ref t), (1, .int 4), (2, .int 4)]) rfl rfl rfl ?_
  refine j_puti (f := 1000) C flX10_7 (by decide) rfl rfl dX10_size_11 m_t k_t rfl ?_
  refine j_aload_n C dX10_size_14 rfl 0 rfl ?_
  show J _ _ _ _ _ 15 _
  refine j_iconst (v := 1) C dX10_size_15 (by decide) ?_
  refine j_iload_n C dX10_size_16 rfl 2 rfl ?_
  refine j_bipush (v := 16) C dX10_size_17 (by decide) ?_
  refine j_callS C [.int 4, .int 16] [.int 1, .ref t] mlX10_30 mcJ9_min_7cf53 (c_J9_min_7cf53 (sI S 1000 t 4) 4 16) (M.rm (by decide) (by decide) (Nat.le_of_ble_eq_true rfl) (Nat.le_of_ble_eq_true rfl)) rfl rfl (Nat.le_of_ble_eq_true rfl) dX10_size_19 (fun r_9 S_10 hp_11 => ?_)
  obtain ⟨rfl, e_12⟩ := hp_11
  refine J.eq (S' := (sI S 1000 t 4)) (st' := .int 4 :: [.int 1, .ref t]) (lv' := [(0, .ref t), (1, .int 4), (2, .int 4)]) e_12 rfl (congrArg (fun z9 => Value.int z9 :: [.int 1, .ref t]) (by decide)) ?_
  refine J.eq (S' := (sI S 1000 t 4)) (st' := [.int 4, .int 1, .ref t]) (lv' := [(0, .ref t), (1, .int 4), (2, .int 4)]) rfl rfl rfl ?_
  refine j_callS C [.int 1, .int 4] [.ref t] mlX10_36 mcJ9_max_7cf53 (c_J9_max_7cf53 (sI S 1000 t 4) 1 4) (M.rm (by decide) (by decide) (Nat.le_of_ble_eq_true rfl) (Nat.le_of_ble_eq_true rfl)) rfl rfl (Nat.le_of_ble_eq_true rfl) dX10_size_22 (fun r_13 S_14 hp_15 => ?_)
  obtain ⟨rfl, e_16⟩ := hp_15
  refine J.eq (S' := (sI S 1000 t 4)) (st' := .int 4 :: [.ref t]) (lv' := [(0, .ref t), (1, .int 4), (2, .int 4)]) e_16 rfl (congrArg (fun z9 => Value.int z9 :: [.ref t]) (by decide)) ?_
  refine J.eq (S' := (sI S 1000 t 4)) (st' := [.int 4, .ref t]) (lv' := [(0, .ref t), (1, .int 4), (2, .int 4)]) rfl rfl rfl ?_
  refine j_puti (f := 1001) C flX10_13 (by decide) rfl rfl dX10_size_25 m_t k_t rfl ?_
  refine j_aload_n C dX10_size_28 rfl 0 rfl ?_
  refine j_iconst (v := 0) C dX10_size_29 (by decide) ?_
  show J _ _ _ _ _ 30 _
  refine j_putz (f := 1002) C flX10_20 (by decide) rfl rfl (by decide) dX10_size_30 m_t k_t rfl ?_
  exact j_vret C M dX10_size_33 (Nat.le_of_ble_eq_true rfl) (Nat.le_of_ble_eq_true rfl) ⟨rfl, rfl⟩

theorem dX10_setRow_0 : decode cX10_setRow 0 = .ok (.aload_n 0, 1) := by decide +kernel
theorem dX10_setRow_1 : decode cX10_setRow 1 = .ok (.getfield 7, 3) := by decide +kernel
theorem dX10_setRow_4 : decode cX10_setRow 4 = .ok (.iconst 1, 1) := by decide +kernel
theorem dX10_setRow_5 : decode cX10_setRow 5 = .ok (.invokestatic 36, 3) := by decide +kernel
theorem dX10_setRow_8 : decode cX10_setRow 8 = .ok (.istore_n 3, 1) := by decide +kernel
theorem dX10_setRow_9 : decode cX10_setRow 9 = .ok (.iload_n 2, 1) := by decide +kernel
theorem dX10_setRow_10 : decode cX10_setRow 10 = .ok (.i2l, 1) := by decide +kernel
theorem dX10_setRow_11 : decode cX10_setRow 11 = .ok (.bipush 64, 2) := by decide +kernel
theorem dX10_setRow_13 : decode cX10_setRow 13 = .ok (.iload_n 3, 1) := by decide +kernel
theorem dX10_setRow_14 : decode cX10_setRow 14 = .ok (.isub, 1) := by decide +kernel
theorem dX10_setRow_15 : decode cX10_setRow 15 = .ok (.lshl, 1) := by decide +kernel
theorem dX10_setRow_16 : decode cX10_setRow 16 = .ok (.lstore 4, 2) := by decide +kernel
theorem dX10_setRow_18 : decode cX10_setRow 18 = .ok (.iload_n 3, 1) := by decide +kernel
theorem dX10_setRow_19 : decode cX10_setRow 19 = .ok (.bipush 64, 2) := by decide +kernel
theorem dX10_setRow_21 : decode cX10_setRow 21 = .ok (.if_icmp .ge 19, 3) := by decide +kernel
theorem dX10_setRow_24 : decode cX10_setRow 24 = .ok (.lload 4, 2) := by decide +kernel
theorem dX10_setRow_26 : decode cX10_setRow 26 = .ok (.lload 4, 2) := by decide +kernel
theorem dX10_setRow_28 : decode cX10_setRow 28 = .ok (.iload_n 3, 1) := by decide +kernel
theorem dX10_setRow_29 : decode cX10_setRow 29 = .ok (.lushr, 1) := by decide +kernel
theorem dX10_setRow_30 : decode cX10_setRow 30 = .ok (.lor, 1) := by decide +kernel
theorem dX10_setRow_31 : decode cX10_setRow 31 = .ok (.lstore 4, 2) := by decide +kernel
theorem dX10_setRow_33 : decode cX10_setRow 33 = .ok (.iload_n 3, 1) := by decide +kernel
theorem dX10_setRow_34 : decode cX10_setRow 34 = .ok (.iconst 2, 1) := by decide +kernel
theorem dX10_setRow_35 : decode cX10_setRow 35 = .ok (.imul, 1) := by decide +kernel
theorem dX10_setRow_36 : decode cX10_setRow 36 = .ok (.istore_n 3, 1) := by decide +kernel
theorem dX10_setRow_37 : decode cX10_setRow 37 = .ok (.goto (-19), 3) := by decide +kernel
theorem dX10_setRow_40 : decode cX10_setRow 40 = .ok (.iload_n 1, 1) := by decide +kernel
theorem dX10_setRow_41 : decode cX10_setRow 41 = .ok (.ifCond .lt 20, 3) := by decide +kernel
theorem dX10_setRow_44 : decode cX10_setRow 44 = .ok (.iload_n 1, 1) := by decide +kernel
theorem dX10_setRow_45 : decode cX10_setRow 45 = .ok (.aload_n 0, 1) := by decide +kernel
theorem dX10_setRow_46 : decode cX10_setRow 46 = .ok (.getfield 16, 3) := by decide +kernel
theorem dX10_setRow_49 : decode cX10_setRow 49 = .ok (.arraylength, 1) := by decide +kernel
theorem dX10_setRow_50 : decode cX10_setRow 50 = .ok (.if_icmp .ge 11, 3) := by decide +kernel
theorem dX10_setRow_53 : decode cX10_setRow 53 = .ok (.aload_n 0, 1) := by decide +kernel
theorem dX10_setRow_54 : decode cX10_setRow 54 = .ok (.getfield 16, 3) := by decide +kernel
theorem dX10_setRow_57 : decode cX10_setRow 57 = .ok (.iload_n 1, 1) := by decide +kernel
theorem dX10_setRow_58 : decode cX10_setRow 58 = .ok (.lload 4, 2) := by decide +kernel
theorem dX10_setRow_60 : decode cX10_setRow 60 = .ok (.lastore, 1) := by decide +kernel
theorem dX10_setRow_61 : decode cX10_setRow 61 = .ok (.return_, 1) := by decide +kernel

set_option maxRecDepth 100000 in
set_option maxHeartbeats 4000000 in
theorem c_setRow1 (S : Hp) (t : Nat) (m_t : t ∈ hL S) (k_t : Kd S t 10) (q : Nat) (hR_1003_t : hR S 1003 t = some q) (m_q : q ∈ hL S) (k_q : Kd S q 15) (l_q : Ln S q 16) (ri : Nat) (c : Bool) (hI_1000_t : hI S 1000 t = 1) (hi : ri < 16) : Ct 2 yX10_setRow cX10_setRow 6 none 0 0 [.ref t, .int (nI ri), .int (cI c)] S (fun r S' => r = none ∧ S' = (tJ S q ri (rw1 c))) := by
  refine ct_of (by decide) (Nat.le_of_ble_eq_true rfl) fun x hn9 C M hm9 => ?_
  have C : CB x RX10 cX10_setRow := C
  refine J.eq (lv' := [(0, .ref t), (1, .int (nI ri)), (2, .int (cI c))]) rfl rfl rfl ?_
  refine j_aload_n C dX10_setRow_0 rfl 0 rfl ?_
  refine j_geti (f := 1000) (v := 1) C flX10_7 dX10_setRow_1 m_t k_t (by decide) (by decide) rfl hI_1000_t ?_
  refine j_iconst (v := 1) C dX10_setRow_4 (by decide) ?_
  refine j_callS C [.int 1, .int 1] [] mlX10_36 mcJ9_max_7cf53 (c_J9_max_7cf53 S 1 1) (M.rm (by decide) (by decide) (Nat.le_of_ble_eq_true rfl) (Nat.le_of_ble_eq_true rfl)) rfl rfl (Nat.le_of_ble_eq_true rfl) dX10_setRow_5 (fun r_1 S_2 hp_3 => ?_)
  obtain ⟨rfl, e_4⟩ := hp_3
  refine J.eq (S' := S) (st' := .int 1 :: []) (lv' := [(0, .ref t), (1, .int (nI ri)), (2, .int (cI c))]) e_4 rfl (congrArg (fun z9 => Value.int z9 :: []) (by decide)) ?_
  refine J.eq (S' := S) (st' := [.int 1]) (lv' := [(0, .ref t), (1, .int (nI ri)), (2, .int (cI c))]) rfl rfl rfl ?_
  refine j_istore_n (lv' := [(3, .int 1), (0, .ref t), (1, .int (nI ri)), (2, .int (cI c))]) C dX10_setRow_8 rfl (by rw [hn9]; decide) rfl ?_
  refine j_iload_n C dX10_setRow_9 rfl 3 rfl ?_
  refine j_i2l C dX10_setRow_10 rfl ?_
  refine j_bipush (v := 64) C dX10_setRow_11 (by decide) ?_
  show J _ _ _ _ _ 13 _
  refine j_iload_n C dX10_setRow_13 rfl 0 rfl ?_
  refine j_isub (v := 63) C dX10_setRow_14 (by decide) ?_
  refine j_lshl C dX10_setRow_15 rfl ?_
  refine j_lstore (lv' := [(4, .long (((cI c).toInt64) <<< ((63 : Int32).toInt64 &&& 63))), (3, .int 1), (0, .ref t), (1, .int (nI ri)), (2, .int (cI c))]) C dX10_setRow_16 (by rw [hn9]; decide) rfl ?_
  refine j_iload_n C dX10_setRow_18 rfl 1 rfl ?_
  refine j_bipush (v := 64) C dX10_setRow_19 (by decide) ?_
  refine j_ic_ge (tgt := 40) C dX10_setRow_21 (by decide) (fun c9 => absurd c9 (by decide)) (fun c9 => ?_)
  refine j_lload C dX10_setRow_24 0 rfl ?_
  show J _ _ _ _ _ 26 _
  refine j_lload C dX10_setRow_26 0 rfl ?_
  refine j_iload_n C dX10_setRow_28 rfl 1 rfl ?_
  refine j_lushr C dX10_setRow_29 rfl ?_
  refine j_lor (v := rpL 1 (((cI c).toInt64) <<< ((63 : Int32).toInt64 &&& 63))) C dX10_setRow_30 rfl ?_
  refine j_lstore (lv' := [(4, .long (rpL 1 (((cI c).toInt64) <<< ((63 : Int32).toInt64 &&& 63)))), (3, .int 1), (0, .ref t), (1, .int (nI ri)), (2, .int (cI c))]) C dX10_setRow_31 (by rw [hn9]; decide) rfl ?_
  refine j_iload_n C dX10_setRow_33 rfl 1 rfl ?_
  refine j_iconst (v := 2) C dX10_setRow_34 (by decide) ?_
  refine j_imul (v := 2) C dX10_setRow_35 (by decide) ?_
  show J _ _ _ _ _ 36 _
  refine j_istore_n (lv' := [(3, .int 2), (4, .long (rpL 1 (((cI c).toInt64) <<< ((63 : Int32).toInt64 &&& 63)))), (0, .ref t), (1, .int (nI ri)), (2, .int (cI c))]) C dX10_setRow_36 rfl (by rw [hn9]; decide) rfl ?_
  refine j_goto (tgt := 18) C dX10_setRow_37 (by decide) ?_
  refine j_iload_n C dX10_setRow_18 rfl 0 rfl ?_
  refine j_bipush (v := 64) C dX10_setRow_19 (by decide) ?_
  refine j_ic_ge (tgt := 40) C dX10_setRow_21 (by decide) (fun c9 => absurd c9 (by decide)) (fun c9 => ?_)
  refine j_lload C dX10_setRow_24 1 rfl ?_
  refine j_lload C dX10_setRow_26 1 rfl ?_
  refine j_iload_n C dX10_setRow_28 rfl 0 rfl ?_
  show J _ _ _ _ _ 29 _
  refine j_lushr C dX10_setRow_29 rfl ?_
  refine j_lor (v := rpL 2 (rpL 1 (((cI c).toInt64) <<< ((63 : Int32).toInt64 &&& 63)))) C dX10_setRow_30 rfl ?_
  refine j_lstore (lv' := [(4, .long (rpL 2 (rpL 1 (((cI c).toInt64) <<< ((63 : Int32).toInt64 &&& 63))))), (3, .int 2), (0, .ref t), (1, .int (nI ri)), (2, .int (cI c))]) C dX10_setRow_31 (by rw [hn9]; decide) rfl ?_
  refine j_iload_n C dX10_setRow_33 rfl 1 rfl ?_
  refine j_iconst (v := 2) C dX10_setRow_34 (by decide) ?_
  refine j_imul (v := 4) C dX10_setRow_35 (by decide) ?_
  refine j_istore_n (lv' := [(3, .int 4), (4, .long (rpL 2 (rpL 1 (((cI c).toInt64) <<< ((63 : Int32).toInt64 &&& 63))))), (0, .ref t), (1, .int (nI ri)), (2, .int (cI c))]) C dX10_setRow_36 rfl (by rw [hn9]; decide) rfl ?_
  refine j_goto (tgt := 18) C dX10_setRow_37 (by decide) ?_
  show J _ _ _ _ _ 18 _
  refine j_iload_n C dX10_setRow_18 rfl 0 rfl ?_
  refine j_bipush (v := 64) C dX10_setRow_19 (by decide) ?_
  refine j_ic_ge (tgt := 40) C dX10_setRow_21 (by decide) (fun c9 => absurd c9 (by decide)) (fun c9 => ?_)
  refine j_lload C dX10_setRow_24 1 rfl ?_
  refine j_lload C dX10_setRow_26 1 rfl ?_
  refine j_iload_n C dX10_setRow_28 rfl 0 rfl ?_
  refine j_lushr C dX10_setRow_29 rfl ?_
  refine j_lor (v := rpL 4 (rpL 2 (rpL 1 (((cI c).toInt64) <<< ((63 : Int32).toInt64 &&& 63))))) C dX10_setRow_30 rfl ?_
  show J _ _ _ _ _ 31 _
  refine j_lstore (lv' := [(4, .long (rpL 4 (rpL 2 (rpL 1 (((cI c).toInt64) <<< ((63 : Int32).toInt64 &&& 63)))))), (3, .int 4), (0, .ref t), (1, .int (nI ri)), (2, .int (cI c))]) C dX10_setRow_31 (by rw [hn9]; decide) rfl ?_
  refine j_iload_n C dX10_setRow_33 rfl 1 rfl ?_
  refine j_iconst (v := 2) C dX10_setRow_34 (by decide) ?_
  refine j_imul (v := 8) C dX10_setRow_35 (by decide) ?_
  refine j_istore_n (lv' := [(3, .int 8), (4, .long (rpL 4 (rpL 2 (rpL 1 (((cI c).toInt64) <<< ((63 : Int32).toInt64 &&& 63)))))), (0, .ref t), (1, .int (nI ri)), (2, .int (cI c))]) C dX10_setRow_36 rfl (by rw [hn9]; decide) rfl ?_
  refine j_goto (tgt := 18) C dX10_setRow_37 (by decide) ?_
  refine j_iload_n C dX10_setRow_18 rfl 0 rfl ?_
  refine j_bipush (v := 64) C dX10_setRow_19 (by decide) ?_
  show J _ _ _ _ _ 21 _
  refine j_ic_ge (tgt := 40) C dX10_setRow_21 (by decide) (fun c9 => absurd c9 (by decide)) (fun c9 => ?_)
  refine j_lload C dX10_setRow_24 1 rfl ?_
  refine j_lload C dX10_setRow_26 1 rfl ?_
  refine j_iload_n C dX10_setRow_28 rfl 0 rfl ?_
  refine j_lushr C dX10_setRow_29 rfl ?_
  refine j_lor (v := rpL 8 (rpL 4 (rpL 2 (rpL 1 (((cI c).toInt64) <<< ((63 : Int32).toInt64 &&& 63)))))) C dX10_setRow_30 rfl ?_
  refine j_lstore (lv' := [(4, .long (rpL 8 (rpL 4 (rpL 2 (rpL 1 (((cI c).toInt64) <<< ((63 : Int32).toInt64 &&& 63))))))), (3, .int 8), (0, .ref t), (1, .int (nI ri)), (2, .int (cI c))]) C dX10_setRow_31 (by rw [hn9]; decide) rfl ?_
  refine j_iload_n C dX10_setRow_33 rfl 1 rfl ?_
  show J _ _ _ _ _ 34 _
  refine j_iconst (v := 2) C dX10_setRow_34 (by decide) ?_
  refine j_imul (v := 16) C dX10_setRow_35 (by decide) ?_
  refine j_istore_n (lv' := [(3, .int 16), (4, .long (rpL 8 (rpL 4 (rpL 2 (rpL 1 (((cI c).toInt64) <<< ((63 : Int32).toInt64 &&& 63))))))), (0, .ref t), (1, .int (nI ri)), (2, .int (cI c))]) C dX10_setRow_36 rfl (by rw [hn9]; decide) rfl ?_
  refine j_goto (tgt := 18) C dX10_setRow_37 (by decide) ?_
  refine j_iload_n C dX10_setRow_18 rfl 0 rfl ?_
  refine j_bipush (v := 64) C dX10_setRow_19 (by decide) ?_
  refine j_ic_ge (tgt := 40) C dX10_setRow_21 (by decide) (fun c9 => absurd c9 (by decide)) (fun c9 => ?_)
  refine j_lload C dX10_setRow_24 1 rfl ?_
  show J _ _ _ _ _ 26 _
  refine j_lload C dX10_setRow_26 1 rfl ?_
  refine j_iload_n C dX10_setRow_28 rfl 0 rfl ?_
  refine j_lushr C dX10_setRow_29 rfl ?_
  refine j_lor (v := rpL 16 (rpL 8 (rpL 4 (rpL 2 (rpL 1 (((cI c).toInt64) <<< ((63 : Int32).toInt64 &&& 63))))))) C dX10_setRow_30 rfl ?_
  refine j_lstore (lv' := [(4, .long (rpL 16 (rpL 8 (rpL 4 (rpL 2 (rpL 1 (((cI c).toInt64) <<< ((63 : Int32).toInt64 &&& 63)))))))), (3, .int 16), (0, .ref t), (1, .int (nI ri)), (2, .int (cI c))]) C dX10_setRow_31 (by rw [hn9]; decide) rfl ?_
  refine j_iload_n C dX10_setRow_33 rfl 1 rfl ?_
  refine j_iconst (v := 2) C dX10_setRow_34 (by decide) ?_
  refine j_imul (v := 32) C dX10_setRow_35 (by decide) ?_
  show J _ _ _ _ _ 36 _
  refine j_istore_n (lv' := [(3, .int 32), (4, .long (rpL 16 (rpL 8 (rpL 4 (rpL 2 (rpL 1 (((cI c).toInt64) <<< ((63 : Int32).toInt64 &&& 63)))))))), (0, .ref t), (1, .int (nI ri)), (2, .int (cI c))]) C dX10_setRow_36 rfl (by rw [hn9]; decide) rfl ?_
  refine j_goto (tgt := 18) C dX10_setRow_37 (by decide) ?_
  refine j_iload_n C dX10_setRow_18 rfl 0 rfl ?_
  refine j_bipush (v := 64) C dX10_setRow_19 (by decide) ?_
  refine j_ic_ge (tgt := 40) C dX10_setRow_21 (by decide) (fun c9 => absurd c9 (by decide)) (fun c9 => ?_)
  refine j_lload C dX10_setRow_24 1 rfl ?_
  refine j_lload C dX10_setRow_26 1 rfl ?_
  refine j_iload_n C dX10_setRow_28 rfl 0 rfl ?_
  show J _ _ _ _ _ 29 _
  refine j_lushr C dX10_setRow_29 rfl ?_
  refine j_lor (v := rw1 c) C dX10_setRow_30 rfl ?_
  refine j_lstore (lv' := [(4, .long (rw1 c)), (3, .int 32), (0, .ref t), (1, .int (nI ri)), (2, .int (cI c))]) C dX10_setRow_31 (by rw [hn9]; decide) rfl ?_
  refine j_iload_n C dX10_setRow_33 rfl 1 rfl ?_
  refine j_iconst (v := 2) C dX10_setRow_34 (by decide) ?_
  refine j_imul (v := 64) C dX10_setRow_35 (by decide) ?_
  refine j_istore_n (lv' := [(3, .int 64), (4, .long (rw1 c)), (0, .ref t), (1, .int (nI ri)), (2, .int (cI c))]) C dX10_setRow_36 rfl (by rw [hn9]; decide) rfl ?_
  refine j_goto (tgt := 18) C dX10_setRow_37 (by decide) ?_
  show J _ _ _ _ _ 18 _
  refine j_iload_n C dX10_setRow_18 rfl 0 rfl ?_
  refine j_bipush (v := 64) C dX10_setRow_19 (by decide) ?_
  refine j_ic_ge (tgt := 40) C dX10_setRow_21 (by decide) (fun c9 => ?_) (fun c9 => absurd (by decide) c9)
  refine j_iload_n C dX10_setRow_40 rfl 3 rfl ?_
  refine j_if_lt (tgt := 61) C dX10_setRow_41 (by decide) (fun c_41 => absurd c_41 (nI_pos (by omega))) (fun c_41 => ?_)
  refine j_iload_n C dX10_setRow_44 rfl 3 rfl ?_
  refine j_aload_n C dX10_setRow_45 rfl 2 rfl ?_
  refine j_getr (f := 1003) (v := q) C flX10_16 dX10_setRow_46 m_t k_t (by decide) rfl hR_1003_t ?_
  show J _ _ _ _ _ 49 _
  refine j_alen (v := 16) C dX10_setRow_49 m_q k_q (by decide) (by decide) (len_of (n := 16) l_q (by decide)) ?_
  refine j_ic_ge (tgt := 61) C dX10_setRow_50 (by decide) (fun c_50 => absurd c_50 (nI_ge (b := 16) (by omega) (by omega))) (fun c_50 => ?_)
  refine j_aload_n C dX10_setRow_53 rfl 2 rfl ?_
  refine j_getr (f := 1003) (v := q) C flX10_16 dX10_setRow_54 m_t k_t (by decide) rfl hR_1003_t ?_
  refine j_iload_n C dX10_setRow_57 rfl 3 rfl ?_
  refine j_lload C dX10_setRow_58 1 rfl ?_
  refine j_last (j := ri) C dX10_setRow_60 m_q k_q (inr_of (n := 16) l_q (vp_in_nI (by omega) (by omega))) (nI_clamp (by omega)) ?_
  exact j_vret C M dX10_setRow_61 (Nat.le_of_ble_eq_true rfl) (Nat.le_of_ble_eq_true rfl) ⟨rfl, rfl⟩

set_option maxRecDepth 100000 in
set_option maxHeartbeats 4000000 in
theorem c_setRow4 (S : Hp) (t : Nat) (m_t : t ∈ hL S) (k_t : Kd S t 10) (q : Nat) (hR_1003_t : hR S 1003 t = some q) (m_q : q ∈ hL S) (k_q : Kd S q 15) (l_q : Ln S q 16) (ri : Nat) (nb : Nat) (hI_1000_t : hI S 1000 t = 4) (hi : ri < 16) (hb : nb < 16) : Ct 2 yX10_setRow cX10_setRow 6 none 0 0 [.ref t, .int (nI ri), .int (nI nb)] S (fun r S' => r = none ∧ S' = (tJ S q ri (rw4 nb))) := by
  refine ct_of (by decide) (Nat.le_of_ble_eq_true rfl) fun x hn9 C M hm9 => ?_
  have C : CB x RX10 cX10_setRow := C
  refine J.eq (lv' := [(0, .ref t), (1, .int (nI ri)), (2, .int (nI nb))]) rfl rfl rfl ?_
  refine j_aload_n C dX10_setRow_0 rfl 0 rfl ?_
  refine j_geti (f := 1000) (v := 4) C flX10_7 dX10_setRow_1 m_t k_t (by decide) (by decide) rfl hI_1000_t ?_
  refine j_iconst (v := 1) C dX10_setRow_4 (by decide) ?_
  refine j_callS C [.int 4, .int 1] [] mlX10_36 mcJ9_max_7cf53 (c_J9_max_7cf53 S 4 1) (M.rm (by decide) (by decide) (Nat.le_of_ble_eq_true rfl) (Nat.le_of_ble_eq_true rfl)) rfl rfl (Nat.le_of_ble_eq_true rfl) dX10_setRow_5 (fun r_1 S_2 hp_3 => ?_)
  obtain ⟨rfl, e_4⟩ := hp_3
  refine J.eq (S' := S) (st' := .int 4 :: []) (lv' := [(0, .ref t), (1, .int (nI ri)), (2, .int (nI nb))]) e_4 rfl (congrArg (fun z9 => Value.int z9 :: []) (by decide)) ?_
  refine J.eq (S' := S) (st' := [.int 4]) (lv' := [(0, .ref t), (1, .int (nI ri)), (2, .int (nI nb))]) rfl rfl rfl ?_
  refine j_istore_n (lv' := [(3, .int 4), (0, .ref t), (1, .int (nI ri)), (2, .int (nI nb))]) C dX10_setRow_8 rfl (by rw [hn9]; decide) rfl ?_
  refine j_iload_n C dX10_setRow_9 rfl 3 rfl ?_
  refine j_i2l (v := lN nb) C dX10_setRow_10 (nI_l (by omega)) ?_
  refine j_bipush (v := 64) C dX10_setRow_11 (by decide) ?_
  show J _ _ _ _ _ 13 _
  refine j_iload_n C dX10_setRow_13 rfl 0 rfl ?_
  refine j_isub (v := 60) C dX10_setRow_14 (by decide) ?_
  refine j_lshl C dX10_setRow_15 rfl ?_
  refine j_lstore (lv' := [(4, .long ((lN nb) <<< ((60 : Int32).toInt64 &&& 63))), (3, .int 4), (0, .ref t), (1, .int (nI ri)), (2, .int (nI nb))]) C dX10_setRow_16 (by rw [hn9]; decide) rfl ?_
  refine j_iload_n C dX10_setRow_18 rfl 1 rfl ?_
  refine j_bipush (v := 64) C dX10_setRow_19 (by decide) ?_
  refine j_ic_ge (tgt := 40) C dX10_setRow_21 (by decide) (fun c9 => absurd c9 (by decide)) (fun c9 => ?_)
  refine j_lload C dX10_setRow_24 0 rfl ?_
  show J _ _ _ _ _ 26 _
  refine j_lload C dX10_setRow_26 0 rfl ?_
  refine j_iload_n C dX10_setRow_28 rfl 1 rfl ?_
  refine j_lushr C dX10_setRow_29 rfl ?_
  refine j_lor (v := rpL 4 ((lN nb) <<< ((60 : Int32).toInt64 &&& 63))) C dX10_setRow_30 rfl ?_
  refine j_lstore (lv' := [(4, .long (rpL 4 ((lN nb) <<< ((60 : Int32).toInt64 &&& 63)))), (3, .int 4), (0, .ref t), (1, .int (nI ri)), (2, .int (nI nb))]) C dX10_setRow_31 (by rw [hn9]; decide) rfl ?_
  refine j_iload_n C dX10_setRow_33 rfl 1 rfl ?_
  refine j_iconst (v := 2) C dX10_setRow_34 (by decide) ?_
  refine j_imul (v := 8) C dX10_setRow_35 (by decide) ?_
  show J _ _ _ _ _ 36 _
  refine j_istore_n (lv' := [(3, .int 8), (4, .long (rpL 4 ((lN nb) <<< ((60 : Int32).toInt64 &&& 63)))), (0, .ref t), (1, .int (nI ri)), (2, .int (nI nb))]) C dX10_setRow_36 rfl (by rw [hn9]; decide) rfl ?_
  refine j_goto (tgt := 18) C dX10_setRow_37 (by decide) ?_
  refine j_iload_n C dX10_setRow_18 rfl 0 rfl ?_
  refine j_bipush (v := 64) C dX10_setRow_19 (by decide) ?_
  refine j_ic_ge (tgt := 40) C dX10_setRow_21 (by decide) (fun c9 => absurd c9 (by decide)) (fun c9 => ?_)
  refine j_lload C dX10_setRow_24 1 rfl ?_
  refine j_lload C dX10_setRow_26 1 rfl ?_
  refine j_iload_n C dX10_setRow_28 rfl 0 rfl ?_
  show J _ _ _ _ _ 29 _
  refine j_lushr C dX10_setRow_29 rfl ?_
  refine j_lor (v := rpL 8 (rpL 4 ((lN nb) <<< ((60 : Int32).toInt64 &&& 63)))) C dX10_setRow_30 rfl ?_
  refine j_lstore (lv' := [(4, .long (rpL 8 (rpL 4 ((lN nb) <<< ((60 : Int32).toInt64 &&& 63))))), (3, .int 8), (0, .ref t), (1, .int (nI ri)), (2, .int (nI nb))]) C dX10_setRow_31 (by rw [hn9]; decide) rfl ?_
  refine j_iload_n C dX10_setRow_33 rfl 1 rfl ?_
  refine j_iconst (v := 2) C dX10_setRow_34 (by decide) ?_
  refine j_imul (v := 16) C dX10_setRow_35 (by decide) ?_
  refine j_istore_n (lv' := [(3, .int 16), (4, .long (rpL 8 (rpL 4 ((lN nb) <<< ((60 : Int32).toInt64 &&& 63))))), (0, .ref t), (1, .int (nI ri)), (2, .int (nI nb))]) C dX10_setRow_36 rfl (by rw [hn9]; decide) rfl ?_
  refine j_goto (tgt := 18) C dX10_setRow_37 (by decide) ?_
  show J _ _ _ _ _ 18 _
  refine j_iload_n C dX10_setRow_18 rfl 0 rfl ?_
  refine j_bipush (v := 64) C dX10_setRow_19 (by decide) ?_
  refine j_ic_ge (tgt := 40) C dX10_setRow_21 (by decide) (fun c9 => absurd c9 (by decide)) (fun c9 => ?_)
  refine j_lload C dX10_setRow_24 1 rfl ?_
  refine j_lload C dX10_setRow_26 1 rfl ?_
  refine j_iload_n C dX10_setRow_28 rfl 0 rfl ?_
  refine j_lushr C dX10_setRow_29 rfl ?_
  refine j_lor (v := rpL 16 (rpL 8 (rpL 4 ((lN nb) <<< ((60 : Int32).toInt64 &&& 63))))) C dX10_setRow_30 rfl ?_
  show J _ _ _ _ _ 31 _
  refine j_lstore (lv' := [(4, .long (rpL 16 (rpL 8 (rpL 4 ((lN nb) <<< ((60 : Int32).toInt64 &&& 63)))))), (3, .int 16), (0, .ref t), (1, .int (nI ri)), (2, .int (nI nb))]) C dX10_setRow_31 (by rw [hn9]; decide) rfl ?_
  refine j_iload_n C dX10_setRow_33 rfl 1 rfl ?_
  refine j_iconst (v := 2) C dX10_setRow_34 (by decide) ?_
  refine j_imul (v := 32) C dX10_setRow_35 (by decide) ?_
  refine j_istore_n (lv' := [(3, .int 32), (4, .long (rpL 16 (rpL 8 (rpL 4 ((lN nb) <<< ((60 : Int32).toInt64 &&& 63)))))), (0, .ref t), (1, .int (nI ri)), (2, .int (nI nb))]) C dX10_setRow_36 rfl (by rw [hn9]; decide) rfl ?_
  refine j_goto (tgt := 18) C dX10_setRow_37 (by decide) ?_
  refine j_iload_n C dX10_setRow_18 rfl 0 rfl ?_
  refine j_bipush (v := 64) C dX10_setRow_19 (by decide) ?_
  show J _ _ _ _ _ 21 _
  refine j_ic_ge (tgt := 40) C dX10_setRow_21 (by decide) (fun c9 => absurd c9 (by decide)) (fun c9 => ?_)
  refine j_lload C dX10_setRow_24 1 rfl ?_
  refine j_lload C dX10_setRow_26 1 rfl ?_
  refine j_iload_n C dX10_setRow_28 rfl 0 rfl ?_
  refine j_lushr C dX10_setRow_29 rfl ?_
  refine j_lor (v := rw4 nb) C dX10_setRow_30 rfl ?_
  refine j_lstore (lv' := [(4, .long (rw4 nb)), (3, .int 32), (0, .ref t), (1, .int (nI ri)), (2, .int (nI nb))]) C dX10_setRow_31 (by rw [hn9]; decide) rfl ?_
  refine j_iload_n C dX10_setRow_33 rfl 1 rfl ?_
  show J _ _ _ _ _ 34 _
  refine j_iconst (v := 2) C dX10_setRow_34 (by decide) ?_
  refine j_imul (v := 64) C dX10_setRow_35 (by decide) ?_
  refine j_istore_n (lv' := [(3, .int 64), (4, .long (rw4 nb)), (0, .ref t), (1, .int (nI ri)), (2, .int (nI nb))]) C dX10_setRow_36 rfl (by rw [hn9]; decide) rfl ?_
  refine j_goto (tgt := 18) C dX10_setRow_37 (by decide) ?_
  refine j_iload_n C dX10_setRow_18 rfl 0 rfl ?_
  refine j_bipush (v := 64) C dX10_setRow_19 (by decide) ?_
  refine j_ic_ge (tgt := 40) C dX10_setRow_21 (by decide) (fun c9 => ?_) (fun c9 => absurd (by decide) c9)
  refine j_iload_n C dX10_setRow_40 rfl 3 rfl ?_
  show J _ _ _ _ _ 41 _
  refine j_if_lt (tgt := 61) C dX10_setRow_41 (by decide) (fun c_41 => absurd c_41 (nI_pos (by omega))) (fun c_41 => ?_)
  refine j_iload_n C dX10_setRow_44 rfl 3 rfl ?_
  refine j_aload_n C dX10_setRow_45 rfl 2 rfl ?_
  refine j_getr (f := 1003) (v := q) C flX10_16 dX10_setRow_46 m_t k_t (by decide) rfl hR_1003_t ?_
  refine j_alen (v := 16) C dX10_setRow_49 m_q k_q (by decide) (by decide) (len_of (n := 16) l_q (by decide)) ?_
  refine j_ic_ge (tgt := 61) C dX10_setRow_50 (by decide) (fun c_50 => absurd c_50 (nI_ge (b := 16) (by omega) (by omega))) (fun c_50 => ?_)
  refine j_aload_n C dX10_setRow_53 rfl 2 rfl ?_
  refine j_getr (f := 1003) (v := q) C flX10_16 dX10_setRow_54 m_t k_t (by decide) rfl hR_1003_t ?_
  show J _ _ _ _ _ 57 _
  refine j_iload_n C dX10_setRow_57 rfl 3 rfl ?_
  refine j_lload C dX10_setRow_58 1 rfl ?_
  refine j_last (j := ri) C dX10_setRow_60 m_q k_q (inr_of (n := 16) l_q (vp_in_nI (by omega) (by omega))) (nI_clamp (by omega)) ?_
  exact j_vret C M dX10_setRow_61 (Nat.le_of_ble_eq_true rfl) (Nat.le_of_ble_eq_true rfl) ⟨rfl, rfl⟩

theorem dX10_solid_0 : decode cX10_solid 0 = .ok (.aload_n 0, 1) := by decide +kernel
theorem dX10_solid_1 : decode cX10_solid 1 = .ok (.iconst 1, 1) := by decide +kernel
theorem dX10_solid_2 : decode cX10_solid 2 = .ok (.iconst 1, 1) := by decide +kernel
theorem dX10_solid_3 : decode cX10_solid 3 = .ok (.invokevirtual 39, 3) := by decide +kernel
theorem dX10_solid_6 : decode cX10_solid 6 = .ok (.aload_n 0, 1) := by decide +kernel
theorem dX10_solid_7 : decode cX10_solid 7 = .ok (.iconst 0, 1) := by decide +kernel
theorem dX10_solid_8 : decode cX10_solid 8 = .ok (.iconst 1, 1) := by decide +kernel
theorem dX10_solid_9 : decode cX10_solid 9 = .ok (.invokevirtual 43, 3) := by decide +kernel
theorem dX10_solid_12 : decode cX10_solid 12 = .ok (.return_, 1) := by decide +kernel

set_option maxRecDepth 100000 in
set_option maxHeartbeats 4000000 in
theorem c_X10_solid (S : Hp) (t : Nat) (m_t : t ∈ hL S) (k_t : Kd S t 10) (q : Nat) (hR_1003_t : hR S 1003 t = some q) (m_q : q ∈ hL S) (k_q : Kd S q 15) (l_q : Ln S q 16) : Ct 3 yX10_solid cX10_solid 1 none 0 0 [.ref t] S (fun r S' => r = none ∧ S' = (tJ (sI (sI (sI S 1000 t 1) 1001 t 1) 1002 t 0) q 0 (rw1 true))) := by
  refine ct_of (by decide) (Nat.le_of_ble_eq_true rfl) fun x hn9 C M hm9 => ?_
  have C : CB x RX10 cX10_solid := C
  refine J.eq (lv' := [(0, .ref t)]) rfl rfl rfl ?_
  refine j_aload_n C dX10_solid_0 rfl 0 rfl ?_
  refine j_iconst (v := 1) C dX10_solid_1 (by decide) ?_
  refine j_iconst (v := 1) C dX10_solid_2 (by decide) ?_
  refine j_callV (ci := 10) C [.int 1, .int 1] [] mlX10_39 mcX10_size (c_size1 S t m_t k_t) m_t k_t rfl (M.rm (by decide) (by decide) (Nat.le_of_ble_eq_true rfl) (Nat.le_of_ble_eq_true rfl)) rfl rfl (Nat.le_of_ble_eq_true rfl) dX10_solid_3 (fun r_1 S_2 hp_3 => ?_)
  obtain ⟨rfl, e_4⟩ := hp_3
  refine J.eq (S' := (sI (sI (sI S 1000 t 1) 1001 t 1) 1002 t 0)) (st' := []) (lv' := [(0, .ref t)]) e_4 rfl rfl ?_
  refine j_aload_n C dX10_solid_6 rfl 0 rfl ?_
  refine j_iconst (v := 0) C dX10_solid_7 (by decide) ?_
  refine j_iconst (v := 1) C dX10_solid_8 (by decide) ?_
  refine j_callV (ci := 10) C [.int 0, .int 1] [] mlX10_43 mcX10_setRow (c_setRow1 (sI (sI (sI S 1000 t 1) 1001 t 1) 1002 t 0) t m_t k_t q hR_1003_t m_q k_q l_q 0 true (rd_sIf (S := (sI (sI S 1000 t 1) 1001 t 1)) (g := 1002) (a := t) (v := 0) (by decide) (rd_sIf (S := (sI S 1000 t 1)) (g := 1001) (a := t) (v := 1) (by decide) (rd_sI (S := S) (g := 1000) (a := t) (v := 1)))) (by omega)) m_t k_t rfl (M.rm (by decide) (by decide) (Nat.le_of_ble_eq_true rfl) (Nat.le_of_ble_eq_true rfl)) rfl rfl (Nat.le_of_ble_eq_true rfl) dX10_solid_9 (fun r_5 S_6 hp_7 => ?_)
  obtain ⟨rfl, e_8⟩ := hp_7
  refine J.eq (S' := (tJ (sI (sI (sI S 1000 t 1) 1001 t 1) 1002 t 0) q 0 (rw1 true))) (st' := []) (lv' := [(0, .ref t)]) e_8 rfl rfl ?_
  show J _ _ _ _ _ 12 _
  exact j_vret C M dX10_solid_12 (Nat.le_of_ble_eq_true rfl) (Nat.le_of_ble_eq_true rfl) ⟨rfl, rfl⟩

theorem dX10_white_0 : decode cX10_white 0 = .ok (.aload_n 0, 1) := by decide +kernel
theorem dX10_white_1 : decode cX10_white 1 = .ok (.iconst 1, 1) := by decide +kernel
theorem dX10_white_2 : decode cX10_white 2 = .ok (.iconst 1, 1) := by decide +kernel
theorem dX10_white_3 : decode cX10_white 3 = .ok (.invokevirtual 39, 3) := by decide +kernel
theorem dX10_white_6 : decode cX10_white 6 = .ok (.aload_n 0, 1) := by decide +kernel
theorem dX10_white_7 : decode cX10_white 7 = .ok (.iconst 0, 1) := by decide +kernel
theorem dX10_white_8 : decode cX10_white 8 = .ok (.iconst 0, 1) := by decide +kernel
theorem dX10_white_9 : decode cX10_white 9 = .ok (.invokevirtual 43, 3) := by decide +kernel
theorem dX10_white_12 : decode cX10_white 12 = .ok (.aload_n 0, 1) := by decide +kernel
theorem dX10_white_13 : decode cX10_white 13 = .ok (.iconst 1, 1) := by decide +kernel
theorem dX10_white_14 : decode cX10_white 14 = .ok (.putfield 20, 3) := by decide +kernel
theorem dX10_white_17 : decode cX10_white 17 = .ok (.return_, 1) := by decide +kernel

set_option maxRecDepth 100000 in
set_option maxHeartbeats 4000000 in
theorem c_X10_white (S : Hp) (t : Nat) (m_t : t ∈ hL S) (k_t : Kd S t 10) (q : Nat) (hR_1003_t : hR S 1003 t = some q) (m_q : q ∈ hL S) (k_q : Kd S q 15) (l_q : Ln S q 16) : Ct 3 yX10_white cX10_white 1 none 0 0 [.ref t] S (fun r S' => r = none ∧ S' = (sI (tJ (sI (sI (sI S 1000 t 1) 1001 t 1) 1002 t 0) q 0 (rw1 false)) 1002 t 1)) := by
  refine ct_of (by decide) (Nat.le_of_ble_eq_true rfl) fun x hn9 C M hm9 => ?_
  have C : CB x RX10 cX10_white := C
  refine J.eq (lv' := [(0, .ref t)]) rfl rfl rfl ?_
  refine j_aload_n C dX10_white_0 rfl 0 rfl ?_
  refine j_iconst (v := 1) C dX10_white_1 (by decide) ?_
  refine j_iconst (v := 1) C dX10_white_2 (by decide) ?_
  refine j_callV (ci := 10) C [.int 1, .int 1] [] mlX10_39 mcX10_size (c_size1 S t m_t k_t) m_t k_t rfl (M.rm (by decide) (by decide) (Nat.le_of_ble_eq_true rfl) (Nat.le_of_ble_eq_true rfl)) rfl rfl (Nat.le_of_ble_eq_true rfl) dX10_white_3 (fun r_1 S_2 hp_3 => ?_)
  obtain ⟨rfl, e_4⟩ := hp_3
  refine J.eq (S' := (sI (sI (sI S 1000 t 1) 1001 t 1) 1002 t 0)) (st' := []) (lv' := [(0, .ref t)]) e_4 rfl rfl ?_
  refine j_aload_n C dX10_white_6 rfl 0 rfl ?_
  refine j_iconst (v := 0) C dX10_white_7 (by decide) ?_
  refine j_iconst (v := 0) C dX10_white_8 (by decide) ?_
  refine j_callV (ci := 10) C [.int 0, .int 0] [] mlX10_43 mcX10_setRow (c_setRow1 (sI (sI (sI S 1000 t 1) 1001 t 1) 1002 t 0) t m_t k_t q hR_1003_t m_q k_q l_q 0 false (rd_sIf (S := (sI (sI S 1000 t 1) 1001 t 1)) (g := 1002) (a := t) (v := 0) (by decide) (rd_sIf (S := (sI S 1000 t 1)) (g := 1001) (a := t) (v := 1) (by decide) (rd_sI (S := S) (g := 1000) (a := t) (v := 1)))) (by omega)) m_t k_t rfl (M.rm (by decide) (by decide) (Nat.le_of_ble_eq_true rfl) (Nat.le_of_ble_eq_true rfl)) rfl rfl (Nat.le_of_ble_eq_true rfl) dX10_white_9 (fun r_5 S_6 hp_7 => ?_)
  obtain ⟨rfl, e_8⟩ := hp_7
  refine J.eq (S' := (tJ (sI (sI (sI S 1000 t 1) 1001 t 1) 1002 t 0) q 0 (rw1 false))) (st' := []) (lv' := [(0, .ref t)]) e_8 rfl rfl ?_
  show J _ _ _ _ _ 12 _
  refine j_aload_n C dX10_white_12 rfl 0 rfl ?_
  refine j_iconst (v := 1) C dX10_white_13 (by decide) ?_
  refine j_putz (f := 1002) C flX10_20 (by decide) rfl rfl (by decide) dX10_white_14 m_t k_t rfl ?_
  exact j_vret C M dX10_white_17 (Nat.le_of_ble_eq_true rfl) (Nat.le_of_ble_eq_true rfl) ⟨rfl, rfl⟩

theorem dX10_shade_0 : decode cX10_shade 0 = .ok (.aload_n 0, 1) := by decide +kernel
theorem dX10_shade_1 : decode cX10_shade 1 = .ok (.iconst 4, 1) := by decide +kernel
theorem dX10_shade_2 : decode cX10_shade 2 = .ok (.iconst 4, 1) := by decide +kernel
theorem dX10_shade_3 : decode cX10_shade 3 = .ok (.invokevirtual 39, 3) := by decide +kernel
theorem dX10_shade_6 : decode cX10_shade 6 = .ok (.iconst 0, 1) := by decide +kernel
theorem dX10_shade_7 : decode cX10_shade 7 = .ok (.istore_n 2, 1) := by decide +kernel
theorem dX10_shade_8 : decode cX10_shade 8 = .ok (.iload_n 2, 1) := by decide +kernel
theorem dX10_shade_9 : decode cX10_shade 9 = .ok (.iconst 4, 1) := by decide +kernel
theorem dX10_shade_10 : decode cX10_shade 10 = .ok (.if_icmp .ge 66, 3) := by decide +kernel
theorem dX10_shade_13 : decode cX10_shade 13 = .ok (.iconst 0, 1) := by decide +kernel
theorem dX10_shade_14 : decode cX10_shade 14 = .ok (.istore_n 3, 1) := by decide +kernel
theorem dX10_shade_15 : decode cX10_shade 15 = .ok (.iconst 0, 1) := by decide +kernel
theorem dX10_shade_16 : decode cX10_shade 16 = .ok (.istore 4, 2) := by decide +kernel
theorem dX10_shade_18 : decode cX10_shade 18 = .ok (.iload 4, 2) := by decide +kernel
theorem dX10_shade_20 : decode cX10_shade 20 = .ok (.iconst 4, 1) := by decide +kernel
theorem dX10_shade_21 : decode cX10_shade 21 = .ok (.if_icmp .ge 43, 3) := by decide +kernel
theorem dX10_shade_24 : decode cX10_shade 24 = .ok (.bipush 100, 2) := by decide +kernel
theorem dX10_shade_26 : decode cX10_shade 26 = .ok (.getstatic 46, 3) := by decide +kernel
theorem dX10_shade_29 : decode cX10_shade 29 = .ok (.iconst 4, 1) := by decide +kernel
theorem dX10_shade_30 : decode cX10_shade 30 = .ok (.iload_n 2, 1) := by decide +kernel
theorem dX10_shade_31 : decode cX10_shade 31 = .ok (.imul, 1) := by decide +kernel
theorem dX10_shade_32 : decode cX10_shade 32 = .ok (.iload 4, 2) := by decide +kernel
theorem dX10_shade_34 : decode cX10_shade 34 = .ok (.iadd, 1) := by decide +kernel
theorem dX10_shade_35 : decode cX10_shade 35 = .ok (.iaload, 1) := by decide +kernel
theorem dX10_shade_36 : decode cX10_shade 36 = .ok (.imul, 1) := by decide +kernel
theorem dX10_shade_37 : decode cX10_shade 37 = .ok (.bipush 16, 2) := by decide +kernel
theorem dX10_shade_39 : decode cX10_shade 39 = .ok (.iload_n 1, 1) := by decide +kernel
theorem dX10_shade_40 : decode cX10_shade 40 = .ok (.imul, 1) := by decide +kernel
theorem dX10_shade_41 : decode cX10_shade 41 = .ok (.if_icmp .ge 7, 3) := by decide +kernel
theorem dX10_shade_44 : decode cX10_shade 44 = .ok (.iconst 1, 1) := by decide +kernel
theorem dX10_shade_45 : decode cX10_shade 45 = .ok (.goto 4, 3) := by decide +kernel
theorem dX10_shade_48 : decode cX10_shade 48 = .ok (.iconst 0, 1) := by decide +kernel
theorem dX10_shade_49 : decode cX10_shade 49 = .ok (.istore 5, 2) := by decide +kernel
theorem dX10_shade_51 : decode cX10_shade 51 = .ok (.iload_n 3, 1) := by decide +kernel
theorem dX10_shade_52 : decode cX10_shade 52 = .ok (.iconst 1, 1) := by decide +kernel
theorem dX10_shade_53 : decode cX10_shade 53 = .ok (.ishl, 1) := by decide +kernel
theorem dX10_shade_54 : decode cX10_shade 54 = .ok (.iload 5, 2) := by decide +kernel
theorem dX10_shade_56 : decode cX10_shade 56 = .ok (.ior, 1) := by decide +kernel
theorem dX10_shade_57 : decode cX10_shade 57 = .ok (.istore_n 3, 1) := by decide +kernel
theorem dX10_shade_58 : decode cX10_shade 58 = .ok (.iinc 4 1, 3) := by decide +kernel
theorem dX10_shade_61 : decode cX10_shade 61 = .ok (.goto (-43), 3) := by decide +kernel
theorem dX10_shade_64 : decode cX10_shade 64 = .ok (.aload_n 0, 1) := by decide +kernel
theorem dX10_shade_65 : decode cX10_shade 65 = .ok (.iload_n 2, 1) := by decide +kernel
theorem dX10_shade_66 : decode cX10_shade 66 = .ok (.iload_n 3, 1) := by decide +kernel
theorem dX10_shade_67 : decode cX10_shade 67 = .ok (.invokevirtual 43, 3) := by decide +kernel
theorem dX10_shade_70 : decode cX10_shade 70 = .ok (.iinc 2 1, 3) := by decide +kernel
theorem dX10_shade_73 : decode cX10_shade 73 = .ok (.goto (-65), 3) := by decide +kernel
theorem dX10_shade_76 : decode cX10_shade 76 = .ok (.return_, 1) := by decide +kernel

set_option maxRecDepth 100000 in
set_option maxHeartbeats 4000000 in
theorem c_X10_shade (S : Hp) (t : Nat) (m_t : t ∈ hL S) (k_t : Kd S t 10) (q : Nat) (hR_1003_t : hR S 1003 t = some q) (m_q : q ∈ hL S) (k_q : Kd S q 15) (l_q : Ln S q 16) (n : Nat) (hn : n < 1000) : Ct 3 yX10_shade cX10_shade 6 none 0 0 [.ref t, .int (nI n)] S (fun r S' => r = none ∧ S' = (tJ (tJ (tJ (tJ (sI (sI (sI S 1000 t 4) 1001 t 4) 1002 t 0) q 0 (rw4 (nibP n 0 4))) q 1 (rw4 (nibP n 1 4))) q 2 (rw4 (nibP n 2 4))) q 3 (rw4 (nibP n 3 4)))) := by
  refine ct_of (by decide) (Nat.le_of_ble_eq_true rfl) fun x hn9 C M hm9 => ?_
  have C : CB x RX10 cX10_shade := C
  refine J.eq (lv' := [(0, .ref t), (1, .int (nI n))]) rfl rfl rfl ?_
  refine j_aload_n C dX10_shade_0 rfl 0 rfl ?_
  refine j_iconst (v := 4) C dX10_shade_1 (by decide) ?_
  refine j_iconst (v := 4) C dX10_shade_2 (by decide) ?_
  refine j_callV (ci := 10) C [.int 4, .int 4] [] mlX10_39 mcX10_size (c_size4 S t m_t k_t) m_t k_t rfl (M.rm (by decide) (by decide) (Nat.le_of_ble_eq_true rfl) (Nat.le_of_ble_eq_true rfl)) rfl rfl (Nat.le_of_ble_eq_true rfl) dX10_shade_3 (fun r_1 S_2 hp_3 => ?_)
  obtain ⟨rfl, e_4⟩ := hp_3
  refine J.eq (S' := (sI (sI (sI S 1000 t 4) 1001 t 4) 1002 t 0)) (st' := []) (lv' := [(0, .ref t), (1, .int (nI n))]) e_4 rfl rfl ?_
  refine j_iconst (v := 0) C dX10_shade_6 (by decide) ?_
  refine j_istore_n (lv' := [(2, .int 0), (0, .ref t), (1, .int (nI n))]) C dX10_shade_7 rfl (by rw [hn9]; decide) rfl ?_
  refine j_iload_n C dX10_shade_8 rfl 0 rfl ?_
  refine j_iconst (v := 4) C dX10_shade_9 (by decide) ?_
  show J _ _ _ _ _ 10 _
  refine j_ic_ge (tgt := 76) C dX10_shade_10 (by decide) (fun c9 => absurd c9 (by decide)) (fun c9 => ?_)
  refine j_iconst (v := 0) C dX10_shade_13 (by decide) ?_
  refine j_istore_n (lv' := [(3, .int 0), (2, .int 0), (0, .ref t), (1, .int (nI n))]) C dX10_shade_14 rfl (by rw [hn9]; decide) rfl ?_
  refine j_iconst (v := 0) C dX10_shade_15 (by decide) ?_
  refine j_istore (lv' := [(4, .int 0), (3, .int 0), (2, .int 0), (0, .ref t), (1, .int (nI n))]) C dX10_shade_16 (by rw [hn9]; decide) rfl ?_
  have loop_6 : ∀ (m9 a9 : Nat), a9 + m9 = 4 → J x (0 + 0) (0 + 0) (sI (sI (sI S 1000 t 4) 1001 t 4) 1002 t 0) [(4, .int (nI a9)), (3, .int (nI (nibP n 0 a9))), (2, .int 0), (0, .ref t), (1, .int (nI n))] 18 [] := by
    intro m9
    induction m9 with
    | zero =>
      intro a9  hi_7 
      refine j_iload C dX10_shade_18 0 rfl ?_
      refine j_iconst (v := 4) C dX10_shade_20 (by decide) ?_
      refine j_ic_ge (tgt := 64) C dX10_shade_21 (by decide) (fun c_21 => ?_) (fun c_21 => absurd (nI_le (a := 4) (by omega) (by omega)) c_21)
      have e4_0 : a9 = 4 := by omega
      subst e4_0
      refine j_aload_n C dX10_shade_64 rfl 3 rfl ?_
      show J _ _ _ _ _ 65 _
      refine j_iload_n C dX10_shade_65 rfl 2 rfl ?_
      refine j_iload_n C dX10_shade_66 rfl 1 rfl ?_
      refine j_callV (ci := 10) C [.int 0, .int (nI (nibP n 0 4))] [] mlX10_43 mcX10_setRow (c_setRow4 (sI (sI (sI S 1000 t 4) 1001 t 4) 1002 t 0) t m_t k_t q hR_1003_t m_q k_q l_q 0 (nibP n 0 4) (rd_sIf (S := (sI (sI S 1000 t 4) 1001 t 4)) (g := 1002) (a := t) (v := 0) (by decide) (rd_sIf (S := (sI S 1000 t 4)) (g := 1001) (a := t) (v := 4) (by decide) (rd_sI (S := S) (g := 1000) (a := t) (v := 4)))) (by omega) (nib_lt n 0 4)) m_t k_t rfl (M.rm (by decide) (by decide) (Nat.le_of_ble_eq_true rfl) (Nat.le_of_ble_eq_true rfl)) rfl rfl (Nat.le_of_ble_eq_true rfl) dX10_shade_67 (fun r_8 S_9 hp_10 => ?_)
      obtain ⟨rfl, e_11⟩ := hp_10
      refine J.eq (S' := (tJ (sI (sI (sI S 1000 t 4) 1001 t 4) 1002 t 0) q 0 (rw4 (nibP n 0 4)))) (st' := []) (lv' := [(4, .int (nI 4)), (3, .int (nI (nibP n 0 4))), (2, .int 0), (0, .ref t), (1, .int (nI n))]) e_11 rfl rfl ?_
      refine j_iinc (q := 2) (v := 1) (lv' := [(2, .int 1), (4, .int (nI 4)), (3, .int (nI (nibP n 0 4))), (0, .ref t), (1, .int (nI n))]) C dX10_shade_70 rfl (by decide) (by rw [hn9]; decide) rfl ?_
      refine j_goto (tgt := 8) C dX10_shade_73 (by decide) ?_
      refine j_iload_n C dX10_shade_8 rfl 0 rfl ?_
      refine j_iconst (v := 4) C dX10_shade_9 (by decide) ?_
      refine j_ic_ge (tgt := 76) C dX10_shade_10 (by decide) (fun c9 => absurd c9 (by decide)) (fun c9 => ?_)
      show J _ _ _ _ _ 13 _
      refine j_iconst (v := 0) C dX10_shade_13 (by decide) ?_
      refine j_istore_n (lv' := [(3, .int 0), (2, .int 1), (4, .int (nI 4)), (0, .ref t), (1, .int (nI n))]) C dX10_shade_14 rfl (by rw [hn9]; decide) rfl ?_
      refine j_iconst (v := 0) C dX10_shade_15 (by decide) ?_
      refine j_istore (lv' := [(4, .int 0), (3, .int 0), (2, .int 1), (0, .ref t), (1, .int (nI n))]) C dX10_shade_16 (by rw [hn9]; decide) rfl ?_
      have loop_13 : ∀ (m9 a9 : Nat), a9 + m9 = 4 → J x (0 + 0 + 0) (0 + 0 + 0) (tJ (sI (sI (sI S 1000 t 4) 1001 t 4) 1002 t 0) q 0 (rw4 (nibP n 0 4))) [(4, .int (nI a9)), (3, .int (nI (nibP n 1 a9))), (2, .int 1), (0, .ref t), (1, .int (nI n))] 18 [] := by
        intro m9
        induction m9 with
        | zero =>
          intro a9  hi_14 
          refine j_iload C dX10_shade_18 0 rfl ?_
          refine j_iconst (v := 4) C dX10_shade_20 (by decide) ?_
          refine j_ic_ge (tgt := 64) C dX10_shade_21 (by decide) (fun c_21 => ?_) (fun c_21 => absurd (nI_le (a := 4) (by omega) (by omega)) c_21)
          have e4_1 : a9 = 4 := by omega
          subst e4_1
          refine j_aload_n C dX10_shade_64 rfl 3 rfl ?_
          refine j_iload_n C dX10_shade_65 rfl 2 rfl ?_
          show J _ _ _ _ _ 66 _
          refine j_iload_n C dX10_shade_66 rfl 1 rfl ?_
          refine j_callV (ci := 10) C [.int 1, .int (nI (nibP n 1 4))] [] mlX10_43 mcX10_setRow (c_setRow4 (tJ (sI (sI (sI S 1000 t 4) 1001 t 4) 1002 t 0) q 0 (rw4 (nibP n 0 4))) t m_t k_t q hR_1003_t m_q k_q l_q 1 (nibP n 1 4) (rd_sIf (S := (sI (sI S 1000 t 4) 1001 t 4)) (g := 1002) (a := t) (v := 0) (by decide) (rd_sIf (S := (sI S 1000 t 4)) (g := 1001) (a := t) (v := 4) (by decide) (rd_sI (S := S) (g := 1000) (a := t) (v := 4)))) (by omega) (nib_lt n 1 4)) m_t k_t rfl (M.rm (by decide) (by decide) (Nat.le_of_ble_eq_true rfl) (Nat.le_of_ble_eq_true rfl)) rfl rfl (Nat.le_of_ble_eq_true rfl) dX10_shade_67 (fun r_15 S_16 hp_17 => ?_)
          obtain ⟨rfl, e_18⟩ := hp_17
          refine J.eq (S' := (tJ (tJ (sI (sI (sI S 1000 t 4) 1001 t 4) 1002 t 0) q 0 (rw4 (nibP n 0 4))) q 1 (rw4 (nibP n 1 4)))) (st' := []) (lv' := [(4, .int (nI 4)), (3, .int (nI (nibP n 1 4))), (2, .int 1), (0, .ref t), (1, .int (nI n))]) e_18 rfl rfl ?_
          refine j_iinc (q := 2) (v := 2) (lv' := [(2, .int 2), (4, .int (nI 4)), (3, .int (nI (nibP n 1 4))), (0, .ref t), (1, .int (nI n))]) C dX10_shade_70 rfl (by decide) (by rw [hn9]; decide) rfl ?_
          refine j_goto (tgt := 8) C dX10_shade_73 (by decide) ?_
          refine j_iload_n C dX10_shade_8 rfl 0 rfl ?_
          refine j_iconst (v := 4) C dX10_shade_9 (by decide) ?_
          refine j_ic_ge (tgt := 76) C dX10_shade_10 (by decide) (fun c9 => absurd c9 (by decide)) (fun c9 => ?_)
          refine j_iconst (v := 0) C dX10_shade_13 (by decide) ?_
          show J _ _ _ _ _ 14 _
          refine j_istore_n (lv' := [(3, .int 0), (2, .int 2), (4, .int (nI 4)), (0, .ref t), (1, .int (nI n))]) C dX10_shade_14 rfl (by rw [hn9]; decide) rfl ?_
          refine j_iconst (v := 0) C dX10_shade_15 (by decide) ?_
          refine j_istore (lv' := [(4, .int 0), (3, .int 0), (2, .int 2), (0, .ref t), (1, .int (nI n))]) C dX10_shade_16 (by rw [hn9]; decide) rfl ?_
          have loop_20 : ∀ (m9 a9 : Nat), a9 + m9 = 4 → J x (0 + 0 + 0 + 0) (0 + 0 + 0 + 0) (tJ (tJ (sI (sI (sI S 1000 t 4) 1001 t 4) 1002 t 0) q 0 (rw4 (nibP n 0 4))) q 1 (rw4 (nibP n 1 4))) [(4, .int (nI a9)), (3, .int (nI (nibP n 2 a9))), (2, .int 2), (0, .ref t), (1, .int (nI n))] 18 [] := by
            intro m9
            induction m9 with
            | zero =>
              intro a9  hi_21 
              refine j_iload C dX10_shade_18 0 rfl ?_
              refine j_iconst (v := 4) C dX10_shade_20 (by decide) ?_
              refine j_ic_ge (tgt := 64) C dX10_shade_21 (by decide) (fun c_21 => ?_) (fun c_21 => absurd (nI_le (a := 4) (by omega) (by omega)) c_21)
              have e4_2 : a9 = 4 := by omega
              subst e4_2
              refine j_aload_n C dX10_shade_64 rfl 3 rfl ?_
              refine j_iload_n C dX10_shade_65 rfl 2 rfl ?_
              refine j_iload_n C dX10_shade_66 rfl 1 rfl ?_
              show J _ _ _ _ _ 67 _
              obtain ⟨S_22, eS_23⟩ : ∃ S9 : Hp, S9 = (tJ (tJ (sI (sI (sI S 1000 t 4) 1001 t 4) 1002 t 0) q 0 (rw4 (nibP n 0 4))) q 1 (rw4 (nibP n 1 4))) := ⟨_, rfl⟩
              refine J.eq (S' := S_22) eS_23.symm rfl rfl ?_
              have hm_24 : q ∈ hL S_22 := by rw [eS_23]; exact m_q
              have hk_25 : Kd S_22 q 15 := by rw [eS_23]; exact k_q
              have hn_26 : Ln S_22 q 16 := by rw [eS_23]; exact l_q
              have hm_27 : t ∈ hL S_22 := by rw [eS_23]; exact m_t
              have hk_28 : Kd S_22 t 10 := by rw [eS_23]; exact k_t
              have hv_29 : hI S_22 1000 t = 4 := by rw [eS_23]; exact (rd_sIf (S := (sI (sI S 1000 t 4) 1001 t 4)) (g := 1002) (a := t) (v := 0) (by decide) (rd_sIf (S := (sI S 1000 t 4)) (g := 1001) (a := t) (v := 4) (by decide) (rd_sI (S := S) (g := 1000) (a := t) (v := 4))))
              have hv_30 : hI S_22 1001 t = 4 := by rw [eS_23]; exact (rd_sIf (S := (sI (sI S 1000 t 4) 1001 t 4)) (g := 1002) (a := t) (v := 0) (by decide) (rd_sI (S := (sI S 1000 t 4)) (g := 1001) (a := t) (v := 4)))
              have hv_31 : hI S_22 1002 t = 0 := by rw [eS_23]; exact (rd_sI (S := (sI (sI S 1000 t 4) 1001 t 4)) (g := 1002) (a := t) (v := 0))
              have hv_32 : hR S_22 1003 t = (some q) := by rw [eS_23]; exact hR_1003_t
              refine j_callV (ci := 10) C [.int 2, .int (nI (nibP n 2 4))] [] mlX10_43 mcX10_setRow (c_setRow4 S_22 t hm_27 hk_28 q hv_32 hm_24 hk_25 hn_26 2 (nibP n 2 4) hv_29 (by omega) (nib_lt n 2 4)) hm_27 hk_28 rfl (M.rm (by decide) (by decide) (Nat.le_of_ble_eq_true rfl) (Nat.le_of_ble_eq_true rfl)) rfl rfl (Nat.le_of_ble_eq_true rfl) dX10_shade_67 (fun r_33 S_34 hp_35 => ?_)
              obtain ⟨rfl, e_36⟩ := hp_35
              refine J.eq (S' := (tJ S_22 q 2 (rw4 (nibP n 2 4)))) (st' := []) (lv' := [(4, .int (nI 4)), (3, .int (nI (nibP n 2 4))), (2, .int 2), (0, .ref t), (1, .int (nI n))]) e_36 rfl rfl ?_
              refine j_iinc (q := 2) (v := 3) (lv' := [(2, .int 3), (4, .int (nI 4)), (3, .int (nI (nibP n 2 4))), (0, .ref t), (1, .int (nI n))]) C dX10_shade_70 rfl (by decide) (by rw [hn9]; decide) rfl ?_
              refine j_goto (tgt := 8) C dX10_shade_73 (by decide) ?_
              refine j_iload_n C dX10_shade_8 rfl 0 rfl ?_
              refine j_iconst (v := 4) C dX10_shade_9 (by decide) ?_
              refine j_ic_ge (tgt := 76) C dX10_shade_10 (by decide) (fun c9 => absurd c9 (by decide)) (fun c9 => ?_)
              refine j_iconst (v := 0) C dX10_shade_13 (by decide) ?_
              refine j_istore_n (lv' := [(3, .int 0), (2, .int 3), (4, .int (nI 4)), (0, .ref t), (1, .int (nI n))]) C dX10_shade_14 rfl (by rw [hn9]; decide) rfl ?_
              show J _ _ _ _ _ 15 _
              refine j_iconst (v := 0) C dX10_shade_15 (by decide) ?_
              refine j_istore (lv' := [(4, .int 0), (3, .int 0), (2, .int 3), (0, .ref t), (1, .int (nI n))]) C dX10_shade_16 (by rw [hn9]; decide) rfl ?_
              have loop_38 : ∀ (m9 a9 : Nat), a9 + m9 = 4 → J x (0 + 0 + 0 + 0 + 0) (0 + 0 + 0 + 0 + 0) (tJ S_22 q 2 (rw4 (nibP n 2 4))) [(4, .int (nI a9)), (3, .int (nI (nibP n 3 a9))), (2, .int 3), (0, .ref t), (1, .int (nI n))] 18 [] := by
                intro m9
                induction m9 with
                | zero =>
                  intro a9  hi_39 
                  refine j_iload C dX10_shade_18 0 rfl ?_
                  refine j_iconst (v := 4) C dX10_shade_20 (by decide) ?_
                  refine j_ic_ge (tgt := 64) C dX10_shade_21 (by decide) (fun c_21 => ?_) (fun c_21 => absurd (nI_le (a := 4) (by omega) (by omega)) c_21)
                  have e4_3 : a9 = 4 := by omega
                  subst e4_3
                  refine j_aload_n C dX10_shade_64 rfl 3 rfl ?_
                  refine j_iload_n C dX10_shade_65 rfl 2 rfl ?_
                  refine j_iload_n C dX10_shade_66 rfl 1 rfl ?_
                  refine j_callV (ci := 10) C [.int 3, .int (nI (nibP n 3 4))] [] mlX10_43 mcX10_setRow (c_setRow4 (tJ S_22 q 2 (rw4 (nibP n 2 4))) t hm_27 hk_28 q hv_32 hm_24 hk_25 hn_26 3 (nibP n 3 4) hv_29 (by omega) (nib_lt n 3 4)) hm_27 hk_28 rfl (M.rm (by decide) (by decide) (Nat.le_of_ble_eq_true rfl) (Nat.le_of_ble_eq_true rfl)) rfl rfl (Nat.le_of_ble_eq_true rfl) dX10_shade_67 (fun r_40 S_41 hp_42 => ?_)
                  obtain ⟨rfl, e_43⟩ := hp_42
                  refine J.eq (S' := (tJ (tJ S_22 q 2 (rw4 (nibP n 2 4))) q 3 (rw4 (nibP n 3 4)))) (st' := []) (lv' := [(4, .int (nI 4)), (3, .int (nI (nibP n 3 4))), (2, .int 3), (0, .ref t), (1, .int (nI n))]) e_43 rfl rfl ?_
                  show J _ _ _ _ _ 70 _
                  refine j_iinc (q := 2) (v := 4) (lv' := [(2, .int 4), (4, .int (nI 4)), (3, .int (nI (nibP n 3 4))), (0, .ref t), (1, .int (nI n))]) C dX10_shade_70 rfl (by decide) (by rw [hn9]; decide) rfl ?_
                  refine j_goto (tgt := 8) C dX10_shade_73 (by decide) ?_
                  refine j_iload_n C dX10_shade_8 rfl 0 rfl ?_
                  refine j_iconst (v := 4) C dX10_shade_9 (by decide) ?_
                  refine j_ic_ge (tgt := 76) C dX10_shade_10 (by decide) (fun c9 => ?_) (fun c9 => absurd (by decide) c9)
                  exact j_vret C M dX10_shade_76 (Nat.le_of_ble_eq_true rfl) (Nat.le_of_ble_eq_true rfl) (by subst eS_23; exact ⟨rfl, rfl⟩)
                | succ m9 ih_37 =>
                  intro a9  hi_39 
                  refine j_iload C dX10_shade_18 0 rfl ?_
                  refine j_iconst (v := 4) C dX10_shade_20 (by decide) ?_
                  refine j_ic_ge (tgt := 64) C dX10_shade_21 (by decide) (fun c_21 => absurd c_21 (nI_ge (b := 4) (by omega) (by omega))) (fun c_21 => ?_)
                  refine j_bipush (v := 100) C dX10_shade_24 (by decide) ?_
                  show J _ _ _ _ _ 26 _
                  refine j_gets C 6 rfl (Or.inl gsX10_46) dX10_shade_26 ?_
                  refine j_iconst (v := 4) C dX10_shade_29 (by decide) ?_
                  refine j_iload_n C dX10_shade_30 rfl 2 rfl ?_
                  refine j_imul (v := nI (3 * 4)) C dX10_shade_31 rfl ?_
                  refine j_iload C dX10_shade_32 0 rfl ?_
                  refine j_iadd (v := nI (3 * 4 + a9)) C dX10_shade_34 (nI_add _ _) ?_
                  refine j_stld (v := nI (shN (3 * 4 + a9))) C 6 rfl dX10_shade_35 (show vp_in (nI (3 * 4 + a9)) 16 from vp_in_nI (by omega) (by omega)) ((congrArg (fun z9 => st_SHADES.getD z9 0) (nI_clamp (by omega))).trans (sh_ok (3 * 4 + a9) (by omega))) ?_
                  refine j_imul (v := nI (100 * (shN (3 * 4 + a9)))) C dX10_shade_36 (pk_mul 100 (shN (3 * 4 + a9))) ?_
                  show J _ _ _ _ _ 37 _
                  refine j_bipush (v := 16) C dX10_shade_37 (by decide) ?_
                  refine j_iload_n C dX10_shade_39 rfl 4 rfl ?_
                  refine j_imul (v := nI (16 * n)) C dX10_shade_40 (pk_mul 16 n) ?_
                  refine j_ic_ge (tgt := 48) C dX10_shade_41 (by decide) (fun c_41 => ?_) (fun c_41 => ?_)
                  · skip
                    refine j_iconst (v := 0) C dX10_shade_48 (by decide) ?_
                    refine j_istore (lv' := [(5, .int 0), (4, .int (nI a9)), (3, .int (nI (nibP n 3 a9))), (2, .int 3), (0, .ref t), (1, .int (nI n))]) C dX10_shade_49 (by rw [hn9]; decide) rfl ?_
                    refine j_iload_n C dX10_shade_51 rfl 2 rfl ?_
                    refine j_iconst (v := 1) C dX10_shade_52 (by decide) ?_
                    refine j_ishl (v := nI (nibP n 3 a9 * 2)) C dX10_shade_53 (pk_shlN _ 1 (by decide) (by have := nib_lt n 3 a9; have : (2 : Nat) ^ a9 ≤ 2 ^ 4 := Nat.pow_le_pow_right (by decide) (by omega); omega)) ?_
                    show J _ _ _ _ _ 54 _
                    refine j_iload C dX10_shade_54 0 rfl ?_
                    refine j_ior (v := nI (nibP n 3 (a9 + 1))) C dX10_shade_56 (nib_n c_41 (by omega) (by omega)) ?_
                    refine j_istore_n (lv' := [(3, .int (nI (nibP n 3 (a9 + 1)))), (5, .int 0), (4, .int (nI a9)), (2, .int 3), (0, .ref t), (1, .int (nI n))]) C dX10_shade_57 rfl (by rw [hn9]; decide) rfl ?_
                    refine j_iinc (q := 2) (v := nI (a9 + 1)) (lv' := [(4, .int (nI (a9 + 1))), (3, .int (nI (nibP n 3 (a9 + 1)))), (5, .int 0), (2, .int 3), (0, .ref t), (1, .int (nI n))]) C dX10_shade_58 rfl (nI_add a9 1) (by rw [hn9]; decide) rfl ?_
                    refine j_goto (tgt := 18) C dX10_shade_61 (by decide) ?_
                    refine J.sub [0, 1, 3, 4, 5] (lv' := [(4, .int (nI (a9 + 1))), (3, .int (nI (nibP n 3 (a9 + 1)))), (2, .int 3), (0, .ref t), (1, .int (nI n))]) (by rfl) ?_
                    exact J.eq rfl rfl rfl (ih_37 (a9 + 1)  (by omega) )
                  · skip
                    refine j_iconst (v := 1) C dX10_shade_44 (by decide) ?_
                    refine j_goto (tgt := 49) C dX10_shade_45 (by decide) ?_
                    refine j_istore (lv' := [(5, .int 1), (4, .int (nI a9)), (3, .int (nI (nibP n 3 a9))), (2, .int 3), (0, .ref t), (1, .int (nI n))]) C dX10_shade_49 (by rw [hn9]; decide) rfl ?_
                    show J _ _ _ _ _ 51 _
                    refine j_iload_n C dX10_shade_51 rfl 2 rfl ?_
                    refine j_iconst (v := 1) C dX10_shade_52 (by decide) ?_
                    refine j_ishl (v := nI (nibP n 3 a9 * 2)) C dX10_shade_53 (pk_shlN _ 1 (by decide) (by have := nib_lt n 3 a9; have : (2 : Nat) ^ a9 ≤ 2 ^ 4 := Nat.pow_le_pow_right (by decide) (by omega); omega)) ?_
                    refine j_iload C dX10_shade_54 0 rfl ?_
                    refine j_ior (v := nI (nibP n 3 (a9 + 1))) C dX10_shade_56 (nib_y c_41 (by omega) (by omega)) ?_
                    refine j_istore_n (lv' := [(3, .int (nI (nibP n 3 (a9 + 1)))), (5, .int 1), (4, .int (nI a9)), (2, .int 3), (0, .ref t), (1, .int (nI n))]) C dX10_shade_57 rfl (by rw [hn9]; decide) rfl ?_
                    refine j_iinc (q := 2) (v := nI (a9 + 1)) (lv' := [(4, .int (nI (a9 + 1))), (3, .int (nI (nibP n 3 (a9 + 1)))), (5, .int 1), (2, .int 3), (0, .ref t), (1, .int (nI n))]) C dX10_shade_58 rfl (nI_add a9 1) (by rw [hn9]; decide) rfl ?_
                    refine j_goto (tgt := 18) C dX10_shade_61 (by decide) ?_
                    show J _ _ _ _ _ 18 _
                    refine J.sub [0, 1, 3, 4, 5] (lv' := [(4, .int (nI (a9 + 1))), (3, .int (nI (nibP n 3 (a9 + 1)))), (2, .int 3), (0, .ref t), (1, .int (nI n))]) (by rfl) ?_
                    exact J.eq rfl rfl rfl (ih_37 (a9 + 1)  (by omega) )
              refine J.sub [0, 1, 2, 3, 4] (lv' := [(4, .int (nI 0)), (3, .int (nI (nibP n 3 0))), (2, .int 3), (0, .ref t), (1, .int (nI n))]) (by rfl) ?_
              exact J.eq rfl rfl rfl (loop_38 (4 - 0) 0  (by omega) )
            | succ m9 ih_19 =>
              intro a9  hi_21 
              refine j_iload C dX10_shade_18 0 rfl ?_
              refine j_iconst (v := 4) C dX10_shade_20 (by decide) ?_
              refine j_ic_ge (tgt := 64) C dX10_shade_21 (by decide) (fun c_21 => absurd c_21 (nI_ge (b := 4) (by omega) (by omega))) (fun c_21 => ?_)
              refine j_bipush (v := 100) C dX10_shade_24 (by decide) ?_
              refine j_gets C 6 rfl (Or.inl gsX10_46) dX10_shade_26 ?_
              refine j_iconst (v := 4) C dX10_shade_29 (by decide) ?_
              refine j_iload_n C dX10_shade_30 rfl 2 rfl ?_
              refine j_imul (v := nI (2 * 4)) C dX10_shade_31 rfl ?_
              refine j_iload C dX10_shade_32 0 rfl ?_
              show J _ _ _ _ _ 34 _
              refine j_iadd (v := nI (2 * 4 + a9)) C dX10_shade_34 (nI_add _ _) ?_
              refine j_stld (v := nI (shN (2 * 4 + a9))) C 6 rfl dX10_shade_35 (show vp_in (nI (2 * 4 + a9)) 16 from vp_in_nI (by omega) (by omega)) ((congrArg (fun z9 => st_SHADES.getD z9 0) (nI_clamp (by omega))).trans (sh_ok (2 * 4 + a9) (by omega))) ?_
              refine j_imul (v := nI (100 * (shN (2 * 4 + a9)))) C dX10_shade_36 (pk_mul 100 (shN (2 * 4 + a9))) ?_
              refine j_bipush (v := 16) C dX10_shade_37 (by decide) ?_
              refine j_iload_n C dX10_shade_39 rfl 4 rfl ?_
              refine j_imul (v := nI (16 * n)) C dX10_shade_40 (pk_mul 16 n) ?_
              refine j_ic_ge (tgt := 48) C dX10_shade_41 (by decide) (fun c_41 => ?_) (fun c_41 => ?_)
              · skip
                refine j_iconst (v := 0) C dX10_shade_48 (by decide) ?_
                refine j_istore (lv' := [(5, .int 0), (4, .int (nI a9)), (3, .int (nI (nibP n 2 a9))), (2, .int 2), (0, .ref t), (1, .int (nI n))]) C dX10_shade_49 (by rw [hn9]; decide) rfl ?_
                show J _ _ _ _ _ 51 _
                refine j_iload_n C dX10_shade_51 rfl 2 rfl ?_
                refine j_iconst (v := 1) C dX10_shade_52 (by decide) ?_
                refine j_ishl (v := nI (nibP n 2 a9 * 2)) C dX10_shade_53 (pk_shlN _ 1 (by decide) (by have := nib_lt n 2 a9; have : (2 : Nat) ^ a9 ≤ 2 ^ 4 := Nat.pow_le_pow_right (by decide) (by omega); omega)) ?_
                refine j_iload C dX10_shade_54 0 rfl ?_
                refine j_ior (v := nI (nibP n 2 (a9 + 1))) C dX10_shade_56 (nib_n c_41 (by omega) (by omega)) ?_
                refine j_istore_n (lv' := [(3, .int (nI (nibP n 2 (a9 + 1)))), (5, .int 0), (4, .int (nI a9)), (2, .int 2), (0, .ref t), (1, .int (nI n))]) C dX10_shade_57 rfl (by rw [hn9]; decide) rfl ?_
                refine j_iinc (q := 2) (v := nI (a9 + 1)) (lv' := [(4, .int (nI (a9 + 1))), (3, .int (nI (nibP n 2 (a9 + 1)))), (5, .int 0), (2, .int 2), (0, .ref t), (1, .int (nI n))]) C dX10_shade_58 rfl (nI_add a9 1) (by rw [hn9]; decide) rfl ?_
                refine j_goto (tgt := 18) C dX10_shade_61 (by decide) ?_
                show J _ _ _ _ _ 18 _
                refine J.sub [0, 1, 3, 4, 5] (lv' := [(4, .int (nI (a9 + 1))), (3, .int (nI (nibP n 2 (a9 + 1)))), (2, .int 2), (0, .ref t), (1, .int (nI n))]) (by rfl) ?_
                exact J.eq rfl rfl rfl (ih_19 (a9 + 1)  (by omega) )
              · skip
                refine j_iconst (v := 1) C dX10_shade_44 (by decide) ?_
                refine j_goto (tgt := 49) C dX10_shade_45 (by decide) ?_
                refine j_istore (lv' := [(5, .int 1), (4, .int (nI a9)), (3, .int (nI (nibP n 2 a9))), (2, .int 2), (0, .ref t), (1, .int (nI n))]) C dX10_shade_49 (by rw [hn9]; decide) rfl ?_
                refine j_iload_n C dX10_shade_51 rfl 2 rfl ?_
                refine j_iconst (v := 1) C dX10_shade_52 (by decide) ?_
                refine j_ishl (v := nI (nibP n 2 a9 * 2)) C dX10_shade_53 (pk_shlN _ 1 (by decide) (by have := nib_lt n 2 a9; have : (2 : Nat) ^ a9 ≤ 2 ^ 4 := Nat.pow_le_pow_right (by decide) (by omega); omega)) ?_
                refine j_iload C dX10_shade_54 0 rfl ?_
                refine j_ior (v := nI (nibP n 2 (a9 + 1))) C dX10_shade_56 (nib_y c_41 (by omega) (by omega)) ?_
                show J _ _ _ _ _ 57 _
                refine j_istore_n (lv' := [(3, .int (nI (nibP n 2 (a9 + 1)))), (5, .int 1), (4, .int (nI a9)), (2, .int 2), (0, .ref t), (1, .int (nI n))]) C dX10_shade_57 rfl (by rw [hn9]; decide) rfl ?_
                refine j_iinc (q := 2) (v := nI (a9 + 1)) (lv' := [(4, .int (nI (a9 + 1))), (3, .int (nI (nibP n 2 (a9 + 1)))), (5, .int 1), (2, .int 2), (0, .ref t), (1, .int (nI n))]) C dX10_shade_58 rfl (nI_add a9 1) (by rw [hn9]; decide) rfl ?_
                refine j_goto (tgt := 18) C dX10_shade_61 (by decide) ?_
                refine J.sub [0, 1, 3, 4, 5] (lv' := [(4, .int (nI (a9 + 1))), (3, .int (nI (nibP n 2 (a9 + 1)))), (2, .int 2), (0, .ref t), (1, .int (nI n))]) (by rfl) ?_
                exact J.eq rfl rfl rfl (ih_19 (a9 + 1)  (by omega) )
          refine J.sub [0, 1, 2, 3, 4] (lv' := [(4, .int (nI 0)), (3, .int (nI (nibP n 2 0))), (2, .int 2), (0, .ref t), (1, .int (nI n))]) (by rfl) ?_
          exact J.eq rfl rfl rfl (loop_20 (4 - 0) 0  (by omega) )
        | succ m9 ih_12 =>
          intro a9  hi_14 
          refine j_iload C dX10_shade_18 0 rfl ?_
          refine j_iconst (v := 4) C dX10_shade_20 (by decide) ?_
          refine j_ic_ge (tgt := 64) C dX10_shade_21 (by decide) (fun c_21 => absurd c_21 (nI_ge (b := 4) (by omega) (by omega))) (fun c_21 => ?_)
          refine j_bipush (v := 100) C dX10_shade_24 (by decide) ?_
          refine j_gets C 6 rfl (Or.inl gsX10_46) dX10_shade_26 ?_
          refine j_iconst (v := 4) C dX10_shade_29 (by decide) ?_
          show J _ _ _ _ _ 30 _
          refine j_iload_n C dX10_shade_30 rfl 2 rfl ?_
          refine j_imul (v := nI (1 * 4)) C dX10_shade_31 rfl ?_
          refine j_iload C dX10_shade_32 0 rfl ?_
          refine j_iadd (v := nI (1 * 4 + a9)) C dX10_shade_34 (nI_add _ _) ?_
          refine j_stld (v := nI (shN (1 * 4 + a9))) C 6 rfl dX10_shade_35 (show vp_in (nI (1 * 4 + a9)) 16 from vp_in_nI (by omega) (by omega)) ((congrArg (fun z9 => st_SHADES.getD z9 0) (nI_clamp (by omega))).trans (sh_ok (1 * 4 + a9) (by omega))) ?_
          refine j_imul (v := nI (100 * (shN (1 * 4 + a9)))) C dX10_shade_36 (pk_mul 100 (shN (1 * 4 + a9))) ?_
          refine j_bipush (v := 16) C dX10_shade_37 (by decide) ?_
          refine j_iload_n C dX10_shade_39 rfl 4 rfl ?_
          show J _ _ _ _ _ 40 _
          refine j_imul (v := nI (16 * n)) C dX10_shade_40 (pk_mul 16 n) ?_
          refine j_ic_ge (tgt := 48) C dX10_shade_41 (by decide) (fun c_41 => ?_) (fun c_41 => ?_)
          · skip
            refine j_iconst (v := 0) C dX10_shade_48 (by decide) ?_
            refine j_istore (lv' := [(5, .int 0), (4, .int (nI a9)), (3, .int (nI (nibP n 1 a9))), (2, .int 1), (0, .ref t), (1, .int (nI n))]) C dX10_shade_49 (by rw [hn9]; decide) rfl ?_
            refine j_iload_n C dX10_shade_51 rfl 2 rfl ?_
            refine j_iconst (v := 1) C dX10_shade_52 (by decide) ?_
            refine j_ishl (v := nI (nibP n 1 a9 * 2)) C dX10_shade_53 (pk_shlN _ 1 (by decide) (by have := nib_lt n 1 a9; have : (2 : Nat) ^ a9 ≤ 2 ^ 4 := Nat.pow_le_pow_right (by decide) (by omega); omega)) ?_
            refine j_iload C dX10_shade_54 0 rfl ?_
            refine j_ior (v := nI (nibP n 1 (a9 + 1))) C dX10_shade_56 (nib_n c_41 (by omega) (by omega)) ?_
            show J _ _ _ _ _ 57 _
            refine j_istore_n (lv' := [(3, .int (nI (nibP n 1 (a9 + 1)))), (5, .int 0), (4, .int (nI a9)), (2, .int 1), (0, .ref t), (1, .int (nI n))]) C dX10_shade_57 rfl (by rw [hn9]; decide) rfl ?_
            refine j_iinc (q := 2) (v := nI (a9 + 1)) (lv' := [(4, .int (nI (a9 + 1))), (3, .int (nI (nibP n 1 (a9 + 1)))), (5, .int 0), (2, .int 1), (0, .ref t), (1, .int (nI n))]) C dX10_shade_58 rfl (nI_add a9 1) (by rw [hn9]; decide) rfl ?_
            refine j_goto (tgt := 18) C dX10_shade_61 (by decide) ?_
            refine J.sub [0, 1, 3, 4, 5] (lv' := [(4, .int (nI (a9 + 1))), (3, .int (nI (nibP n 1 (a9 + 1)))), (2, .int 1), (0, .ref t), (1, .int (nI n))]) (by rfl) ?_
            exact J.eq rfl rfl rfl (ih_12 (a9 + 1)  (by omega) )
          · skip
            refine j_iconst (v := 1) C dX10_shade_44 (by decide) ?_
            refine j_goto (tgt := 49) C dX10_shade_45 (by decide) ?_
            refine j_istore (lv' := [(5, .int 1), (4, .int (nI a9)), (3, .int (nI (nibP n 1 a9))), (2, .int 1), (0, .ref t), (1, .int (nI n))]) C dX10_shade_49 (by rw [hn9]; decide) rfl ?_
            refine j_iload_n C dX10_shade_51 rfl 2 rfl ?_
            refine j_iconst (v := 1) C dX10_shade_52 (by decide) ?_
            show J _ _ _ _ _ 53 _
            refine j_ishl (v := nI (nibP n 1 a9 * 2)) C dX10_shade_53 (pk_shlN _ 1 (by decide) (by have := nib_lt n 1 a9; have : (2 : Nat) ^ a9 ≤ 2 ^ 4 := Nat.pow_le_pow_right (by decide) (by omega); omega)) ?_
            refine j_iload C dX10_shade_54 0 rfl ?_
            refine j_ior (v := nI (nibP n 1 (a9 + 1))) C dX10_shade_56 (nib_y c_41 (by omega) (by omega)) ?_
            refine j_istore_n (lv' := [(3, .int (nI (nibP n 1 (a9 + 1)))), (5, .int 1), (4, .int (nI a9)), (2, .int 1), (0, .ref t), (1, .int (nI n))]) C dX10_shade_57 rfl (by rw [hn9]; decide) rfl ?_
            refine j_iinc (q := 2) (v := nI (a9 + 1)) (lv' := [(4, .int (nI (a9 + 1))), (3, .int (nI (nibP n 1 (a9 + 1)))), (5, .int 1), (2, .int 1), (0, .ref t), (1, .int (nI n))]) C dX10_shade_58 rfl (nI_add a9 1) (by rw [hn9]; decide) rfl ?_
            refine j_goto (tgt := 18) C dX10_shade_61 (by decide) ?_
            refine J.sub [0, 1, 3, 4, 5] (lv' := [(4, .int (nI (a9 + 1))), (3, .int (nI (nibP n 1 (a9 + 1)))), (2, .int 1), (0, .ref t), (1, .int (nI n))]) (by rfl) ?_
            exact J.eq rfl rfl rfl (ih_12 (a9 + 1)  (by omega) )
      refine J.sub [0, 1, 2, 3, 4] (lv' := [(4, .int (nI 0)), (3, .int (nI (nibP n 1 0))), (2, .int 1), (0, .ref t), (1, .int (nI n))]) (by rfl) ?_
      exact J.eq rfl rfl rfl (loop_13 (4 - 0) 0  (by omega) )
    | succ m9 ih_5 =>
      intro a9  hi_7 
      refine j_iload C dX10_shade_18 0 rfl ?_
      refine j_iconst (v := 4) C dX10_shade_20 (by decide) ?_
      refine j_ic_ge (tgt := 64) C dX10_shade_21 (by decide) (fun c_21 => absurd c_21 (nI_ge (b := 4) (by omega) (by omega))) (fun c_21 => ?_)
      show J _ _ _ _ _ 24 _
      refine j_bipush (v := 100) C dX10_shade_24 (by decide) ?_
      refine j_gets C 6 rfl (Or.inl gsX10_46) dX10_shade_26 ?_
      refine j_iconst (v := 4) C dX10_shade_29 (by decide) ?_
      refine j_iload_n C dX10_shade_30 rfl 2 rfl ?_
      refine j_imul (v := nI (0 * 4)) C dX10_shade_31 rfl ?_
      refine j_iload C dX10_shade_32 0 rfl ?_
      refine j_iadd (v := nI (0 * 4 + a9)) C dX10_shade_34 (nI_add _ _) ?_
      refine j_stld (v := nI (shN (0 * 4 + a9))) C 6 rfl dX10_shade_35 (show vp_in (nI (0 * 4 + a9)) 16 from vp_in_nI (by omega) (by omega)) ((congrArg (fun z9 => st_SHADES.getD z9 0) (nI_clamp (by omega))).trans (sh_ok (0 * 4 + a9) (by omega))) ?_
      show J _ _ _ _ _ 36 _
      refine j_imul (v := nI (100 * (shN (0 * 4 + a9)))) C dX10_shade_36 (pk_mul 100 (shN (0 * 4 + a9))) ?_
      refine j_bipush (v := 16) C dX10_shade_37 (by decide) ?_
      refine j_iload_n C dX10_shade_39 rfl 4 rfl ?_
      refine j_imul (v := nI (16 * n)) C dX10_shade_40 (pk_mul 16 n) ?_
      refine j_ic_ge (tgt := 48) C dX10_shade_41 (by decide) (fun c_41 => ?_) (fun c_41 => ?_)
      · skip
        refine j_iconst (v := 0) C dX10_shade_48 (by decide) ?_
        refine j_istore (lv' := [(5, .int 0), (4, .int (nI a9)), (3, .int (nI (nibP n 0 a9))), (2, .int 0), (0, .ref t), (1, .int (nI n))]) C dX10_shade_49 (by rw [hn9]; decide) rfl ?_
        refine j_iload_n C dX10_shade_51 rfl 2 rfl ?_
        refine j_iconst (v := 1) C dX10_shade_52 (by decide) ?_
        show J _ _ _ _ _ 53 _
        refine j_ishl (v := nI (nibP n 0 a9 * 2)) C dX10_shade_53 (pk_shlN _ 1 (by decide) (by have := nib_lt n 0 a9; have : (2 : Nat) ^ a9 ≤ 2 ^ 4 := Nat.pow_le_pow_right (by decide) (by omega); omega)) ?_
        refine j_iload C dX10_shade_54 0 rfl ?_
        refine j_ior (v := nI (nibP n 0 (a9 + 1))) C dX10_shade_56 (nib_n c_41 (by omega) (by omega)) ?_
        refine j_istore_n (lv' := [(3, .int (nI (nibP n 0 (a9 + 1)))), (5, .int 0), (4, .int (nI a9)), (2, .int 0), (0, .ref t), (1, .int (nI n))]) C dX10_shade_57 rfl (by rw [hn9]; decide) rfl ?_
        refine j_iinc (q := 2) (v := nI (a9 + 1)) (lv' := [(4, .int (nI (a9 + 1))), (3, .int (nI (nibP n 0 (a9 + 1)))), (5, .int 0), (2, .int 0), (0, .ref t), (1, .int (nI n))]) C dX10_shade_58 rfl (nI_add a9 1) (by rw [hn9]; decide) rfl ?_
        refine j_goto (tgt := 18) C dX10_shade_61 (by decide) ?_
        refine J.sub [0, 1, 3, 4, 5] (lv' := [(4, .int (nI (a9 + 1))), (3, .int (nI (nibP n 0 (a9 + 1)))), (2, .int 0), (0, .ref t), (1, .int (nI n))]) (by rfl) ?_
        exact J.eq rfl rfl rfl (ih_5 (a9 + 1)  (by omega) )
      · skip
        refine j_iconst (v := 1) C dX10_shade_44 (by decide) ?_
        refine j_goto (tgt := 49) C dX10_shade_45 (by decide) ?_
        show J _ _ _ _ _ 49 _
        refine j_istore (lv' := [(5, .int 1), (4, .int (nI a9)), (3, .int (nI (nibP n 0 a9))), (2, .int 0), (0, .ref t), (1, .int (nI n))]) C dX10_shade_49 (by rw [hn9]; decide) rfl ?_
        refine j_iload_n C dX10_shade_51 rfl 2 rfl ?_
        refine j_iconst (v := 1) C dX10_shade_52 (by decide) ?_
        refine j_ishl (v := nI (nibP n 0 a9 * 2)) C dX10_shade_53 (pk_shlN _ 1 (by decide) (by have := nib_lt n 0 a9; have : (2 : Nat) ^ a9 ≤ 2 ^ 4 := Nat.pow_le_pow_right (by decide) (by omega); omega)) ?_
        refine j_iload C dX10_shade_54 0 rfl ?_
        refine j_ior (v := nI (nibP n 0 (a9 + 1))) C dX10_shade_56 (nib_y c_41 (by omega) (by omega)) ?_
        refine j_istore_n (lv' := [(3, .int (nI (nibP n 0 (a9 + 1)))), (5, .int 1), (4, .int (nI a9)), (2, .int 0), (0, .ref t), (1, .int (nI n))]) C dX10_shade_57 rfl (by rw [hn9]; decide) rfl ?_
        refine j_iinc (q := 2) (v := nI (a9 + 1)) (lv' := [(4, .int (nI (a9 + 1))), (3, .int (nI (nibP n 0 (a9 + 1)))), (5, .int 1), (2, .int 0), (0, .ref t), (1, .int (nI n))]) C dX10_shade_58 rfl (nI_add a9 1) (by rw [hn9]; decide) rfl ?_
        show J _ _ _ _ _ 61 _
        refine j_goto (tgt := 18) C dX10_shade_61 (by decide) ?_
        refine J.sub [0, 1, 3, 4, 5] (lv' := [(4, .int (nI (a9 + 1))), (3, .int (nI (nibP n 0 (a9 + 1)))), (2, .int 0), (0, .ref t), (1, .int (nI n))]) (by rfl) ?_
        exact J.eq rfl rfl rfl (ih_5 (a9 + 1)  (by omega) )
  refine J.sub [0, 1, 2, 3, 4] (lv' := [(4, .int (nI 0)), (3, .int (nI (nibP n 0 0))), (2, .int 0), (0, .ref t), (1, .int (nI n))]) (by rfl) ?_
  exact J.eq rfl rfl rfl (loop_6 (4 - 0) 0  (by omega) )
