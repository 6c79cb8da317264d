section JRS
variable {x : JX} {own : String} {cc : ByteArray} {k n pc tgt : Nat} {S : Hp} {lv : List (Nat × Value)} {st : List Value}
theorem tx_ok (C : CB x own cc) : GXs (x_v x) (x_A x) (x_s x) (x_s x).heap := C.2.2.2.2.2.2.2.2.2
theorem j_getsZ (C : CB x own cc) {idx : Nat} (F : Cond.fieldLink own idx "java/lang/String" "COMPACT_STRINGS" "Z" ∈ TBL) (d : decode cc pc = .ok (.getstatic idx, 3)) (K : J x k n S lv (pc + 3) (.int 1 :: st)) : J x k n S lv pc st := fun H locs ls hP hD hS hl =>
  va_gets C.1 C.2.1 (tx_ok C).1 hS C.2.2.2.1 (C.2.2.2.2.1 _ F) (fun _ h => h) d (K H locs ls hP hD hS hl)
theorem j_getsF (C : CB x own cc) {idx : Nat} (F : Cond.fieldLink own idx "jdk/internal/util/Preconditions" "SIOOBE_FORMATTER" "Ljava/util/function/BiFunction;" ∈ TBL) (d : decode cc pc = .ok (.getstatic idx, 3)) (K : ∀ z : Value, z = .null ∨ (∃ t, z = .ref t) → J x k n S lv (pc + 3) (z :: st)) : J x k n S lv pc st := fun H locs ls hP hD hS hl => by
  rcases (tx_ok C).2.2.2.2.2.2.2.2 with h | ⟨t, h⟩
  · exact va_gets C.1 C.2.1 h hS C.2.2.2.1 (C.2.2.2.2.1 _ F) (fun _ h => h) d (K .null (Or.inl rfl) H locs ls hP hD hS hl)
  · exact va_gets C.1 C.2.1 h hS C.2.2.2.1 (C.2.2.2.2.1 _ F) (fun _ h => h) d (K (.ref t) (Or.inr ⟨t, rfl⟩) H locs ls hP hD hS hl)
theorem j_strval (C : CB x own cc) {idx i : Nat} (hi : i < 2) (F : Cond.fieldLink own idx "java/lang/String" "value" "[B" ∈ TBL) (d : decode cc pc = .ok (.getfield idx, 3)) (K : J x k n S lv (pc + 3) (.ref ((x_v x).2.2 (30 + i)) :: st)) : J x k n S lv pc (.ref ((x_v x).2.2 (20 + i)) :: st) := fun H locs ls hP hD hS hl =>
  vk_getf C.1 C.2.1 ((tx_ok C).2.1.1 i hi).2.2.1 hS C.2.2.2.1 (C.2.2.2.2.1 _ F) (fun _ h => h) d (K H locs ls hP hD hS hl)
theorem j_strcod (C : CB x own cc) {idx i : Nat} (hi : i < 2) (F : Cond.fieldLink own idx "java/lang/String" "coder" "B" ∈ TBL) (d : decode cc pc = .ok (.getfield idx, 3)) (K : J x k n S lv (pc + 3) (.int 0 :: st)) : J x k n S lv pc (.ref ((x_v x).2.2 (20 + i)) :: st) := fun H locs ls hP hD hS hl =>
  vk_getf C.1 C.2.1 ((tx_ok C).2.1.1 i hi).2.1 hS C.2.2.2.1 (C.2.2.2.2.1 _ F) (fun _ h => h) d (K H locs ls hP hD hS hl)
theorem j_strlen (C : CB x own cc) {i : Nat} {v : Int32} (hi : i < 2) (hv : Int32.ofNat (txLen.getD i 0) = v) (d : decode cc pc = .ok (.arraylength, 1)) (K : J x k n S lv (pc + 1) (.int v :: st)) : J x k n S lv pc (.ref ((x_v x).2.2 (30 + i)) :: st) := fun H locs ls hP hD hS hl =>
  va_tlen C.1 C.2.1 ((tx_ok C).2.1.1 i hi).2.2.2 hS hv d (K H locs ls hP hD hS hl)
theorem j_strld (C : CB x own cc) {i : Nat} {j v : Int32} (hi : i < 2) (hj : vp_in j (txLen.getD i 0)) (hv : (txB.getD i []).getD j.toNatClampNeg 0 = v) (d : decode cc pc = .ok (.baload, 1)) (K : J x k n S lv (pc + 1) (.int v :: st)) : J x k n S lv pc (.int j :: .ref ((x_v x).2.2 (30 + i)) :: st) := fun H locs ls hP hD hS hl =>
  va_tb C.1 C.2.1 ((tx_ok C).2.1.1 i hi).2.2.2 hS hj (by rw [hv]) d (K H locs ls hP hD hS hl)
theorem j_ldcwS (C : CB x own cc) {idx q : Nat} {tx : String} (hZ : vk_R own idx tx q (x_s x)) (d : decode cc pc = .ok (.ldc_w idx, 3)) (K : J x k n S lv (pc + 3) (.ref q :: st)) : J x k n S lv pc st := fun H locs ls hP hD hS hl => by
  intro T hT X
  obtain ⟨t, a1, b1⟩ := K H locs ls hP hD hS hl T hT X
  exact ⟨t, X.ldcStringW C.1 C.2.2.2.1 (text := tx) (a := q) hZ.1 hZ.2 (g := F0 (x_m x) pc ls st) rfl (by rw [C.2.1]; exact d) t a1, b1⟩
theorem j_i2c (C : CB x own cc) {a v : Int32} (d : decode cc pc = .ok (.i2c, 1)) (hv : (a.toUInt32 % 65536).toInt32 = v) (K : J x k n S lv (pc + 1) (.int v :: st)) : J x k n S lv pc (.int a :: st) := fun H locs ls hP hD hS hl => lv_i2c C.1 C.2.1 d hv (K H locs ls hP hD hS hl)
theorem st_recv (C : CB x own cc) {i : Nat} (hi : i < 2) : ∀ (H : Heap) (locs : List Loc), va_S (x_A x) (x_s x).heap H locs → ∃ cell : Cell, H[(x_v x).2.2 (20 + i)]? = some cell ∧ cell.vm.isStatics = false ∧ (x_s x).vm.findClass "java/lang/String" = some cell.cls := fun H locs hS => vk_recv (i := i) (tx_ok C).2.1 hi hS
end JRS

theorem dJ0_coder_7d493_0 : decode cJ0_coder_7d493 0 = .ok (.getstatic 38, 3) := by decide +kernel
theorem dJ0_coder_7d493_3 : decode cJ0_coder_7d493 3 = .ok (.ifCond .eq 10, 3) := by decide +kernel
theorem dJ0_coder_7d493_6 : decode cJ0_coder_7d493 6 = .ok (.aload_n 0, 1) := by decide +kernel
theorem dJ0_coder_7d493_7 : decode cJ0_coder_7d493 7 = .ok (.getfield 15, 3) := by decide +kernel
theorem dJ0_coder_7d493_10 : decode cJ0_coder_7d493 10 = .ok (.goto 4, 3) := by decide +kernel
theorem dJ0_coder_7d493_13 : decode cJ0_coder_7d493 13 = .ok (.iconst 1, 1) := by decide +kernel
theorem dJ0_coder_7d493_14 : decode cJ0_coder_7d493 14 = .ok (.ireturn, 1) := by decide +kernel

theorem dJ0_length_8abf5_0 : decode cJ0_length_8abf5 0 = .ok (.aload_n 0, 1) := by decide +kernel
theorem dJ0_length_8abf5_1 : decode cJ0_length_8abf5 1 = .ok (.getfield 9, 3) := by decide +kernel
theorem dJ0_length_8abf5_4 : decode cJ0_length_8abf5 4 = .ok (.arraylength, 1) := by decide +kernel
theorem dJ0_length_8abf5_5 : decode cJ0_length_8abf5 5 = .ok (.aload_n 0, 1) := by decide +kernel
theorem dJ0_length_8abf5_6 : decode cJ0_length_8abf5 6 = .ok (.invokevirtual 335, 3) := by decide +kernel
theorem dJ0_length_8abf5_9 : decode cJ0_length_8abf5 9 = .ok (.ishr, 1) := by decide +kernel
theorem dJ0_length_8abf5_10 : decode cJ0_length_8abf5 10 = .ok (.ireturn, 1) := by decide +kernel

theorem dJ0_isLatin1_aae02_0 : decode cJ0_isLatin1_aae02 0 = .ok (.getstatic 38, 3) := by decide +kernel
theorem dJ0_isLatin1_aae02_3 : decode cJ0_isLatin1_aae02 3 = .ok (.ifCond .eq 14, 3) := by decide +kernel
theorem dJ0_isLatin1_aae02_6 : decode cJ0_isLatin1_aae02 6 = .ok (.aload_n 0, 1) := by decide +kernel
theorem dJ0_isLatin1_aae02_7 : decode cJ0_isLatin1_aae02 7 = .ok (.getfield 15, 3) := by decide +kernel
theorem dJ0_isLatin1_aae02_10 : decode cJ0_isLatin1_aae02 10 = .ok (.ifCond .ne 7, 3) := by decide +kernel
theorem dJ0_isLatin1_aae02_13 : decode cJ0_isLatin1_aae02 13 = .ok (.iconst 1, 1) := by decide +kernel
theorem dJ0_isLatin1_aae02_14 : decode cJ0_isLatin1_aae02 14 = .ok (.goto 4, 3) := by decide +kernel
theorem dJ0_isLatin1_aae02_17 : decode cJ0_isLatin1_aae02 17 = .ok (.iconst 0, 1) := by decide +kernel
theorem dJ0_isLatin1_aae02_18 : decode cJ0_isLatin1_aae02 18 = .ok (.ireturn, 1) := by decide +kernel

theorem dJ0_charAt_5068e_0 : decode cJ0_charAt_5068e 0 = .ok (.aload_n 0, 1) := by decide +kernel
theorem dJ0_charAt_5068e_1 : decode cJ0_charAt_5068e 1 = .ok (.invokevirtual 492, 3) := by decide +kernel
theorem dJ0_charAt_5068e_4 : decode cJ0_charAt_5068e 4 = .ok (.ifCond .eq 12, 3) := by decide +kernel
theorem dJ0_charAt_5068e_7 : decode cJ0_charAt_5068e 7 = .ok (.aload_n 0, 1) := by decide +kernel
theorem dJ0_charAt_5068e_8 : decode cJ0_charAt_5068e 8 = .ok (.getfield 9, 3) := by decide +kernel
theorem dJ0_charAt_5068e_11 : decode cJ0_charAt_5068e 11 = .ok (.iload_n 1, 1) := by decide +kernel
theorem dJ0_charAt_5068e_12 : decode cJ0_charAt_5068e 12 = .ok (.invokestatic 495, 3) := by decide +kernel
theorem dJ0_charAt_5068e_15 : decode cJ0_charAt_5068e 15 = .ok (.ireturn, 1) := by decide +kernel
theorem dJ0_charAt_5068e_16 : decode cJ0_charAt_5068e 16 = .ok (.aload_n 0, 1) := by decide +kernel
theorem dJ0_charAt_5068e_17 : decode cJ0_charAt_5068e 17 = .ok (.getfield 9, 3) := by decide +kernel
theorem dJ0_charAt_5068e_20 : decode cJ0_charAt_5068e 20 = .ok (.iload_n 1, 1) := by decide +kernel
theorem dJ0_charAt_5068e_21 : decode cJ0_charAt_5068e 21 = .ok (.invokestatic 498, 3) := by decide +kernel
theorem dJ0_charAt_5068e_24 : decode cJ0_charAt_5068e 24 = .ok (.ireturn, 1) := by decide +kernel

theorem dJ1_charAt_3b067_0 : decode cJ1_charAt_3b067 0 = .ok (.iload_n 1, 1) := by decide +kernel
theorem dJ1_charAt_3b067_1 : decode cJ1_charAt_3b067 1 = .ok (.aload_n 0, 1) := by decide +kernel
theorem dJ1_charAt_3b067_2 : decode cJ1_charAt_3b067 2 = .ok (.arraylength, 1) := by decide +kernel
theorem dJ1_charAt_3b067_3 : decode cJ1_charAt_3b067 3 = .ok (.invokestatic 9, 3) := by decide +kernel
theorem dJ1_charAt_3b067_6 : decode cJ1_charAt_3b067 6 = .ok (.aload_n 0, 1) := by decide +kernel
theorem dJ1_charAt_3b067_7 : decode cJ1_charAt_3b067 7 = .ok (.iload_n 1, 1) := by decide +kernel
theorem dJ1_charAt_3b067_8 : decode cJ1_charAt_3b067 8 = .ok (.baload, 1) := by decide +kernel
theorem dJ1_charAt_3b067_9 : decode cJ1_charAt_3b067 9 = .ok (.sipush 255, 3) := by decide +kernel
theorem dJ1_charAt_3b067_12 : decode cJ1_charAt_3b067 12 = .ok (.iand, 1) := by decide +kernel
theorem dJ1_charAt_3b067_13 : decode cJ1_charAt_3b067 13 = .ok (.i2c, 1) := by decide +kernel
theorem dJ1_charAt_3b067_14 : decode cJ1_charAt_3b067 14 = .ok (.ireturn, 1) := by decide +kernel

theorem dJ0_checkIndex_df160_0 : decode cJ0_checkIndex_df160 0 = .ok (.iload_n 0, 1) := by decide +kernel
theorem dJ0_checkIndex_df160_1 : decode cJ0_checkIndex_df160 1 = .ok (.iload_n 1, 1) := by decide +kernel
theorem dJ0_checkIndex_df160_2 : decode cJ0_checkIndex_df160 2 = .ok (.getstatic 1053, 3) := by decide +kernel
theorem dJ0_checkIndex_df160_5 : decode cJ0_checkIndex_df160 5 = .ok (.invokestatic 1059, 3) := by decide +kernel
theorem dJ0_checkIndex_df160_8 : decode cJ0_checkIndex_df160 8 = .ok (.pop, 1) := by decide +kernel
theorem dJ0_checkIndex_df160_9 : decode cJ0_checkIndex_df160 9 = .ok (.return_, 1) := by decide +kernel

theorem dJ3_checkIndex_8e157_0 : decode cJ3_checkIndex_8e157 0 = .ok (.iload_n 0, 1) := by decide +kernel
theorem dJ3_checkIndex_8e157_1 : decode cJ3_checkIndex_8e157 1 = .ok (.ifCond .lt 8, 3) := by decide +kernel
theorem dJ3_checkIndex_8e157_4 : decode cJ3_checkIndex_8e157 4 = .ok (.iload_n 0, 1) := by decide +kernel
theorem dJ3_checkIndex_8e157_5 : decode cJ3_checkIndex_8e157 5 = .ok (.iload_n 1, 1) := by decide +kernel
theorem dJ3_checkIndex_8e157_6 : decode cJ3_checkIndex_8e157 6 = .ok (.if_icmp .lt 10, 3) := by decide +kernel
theorem dJ3_checkIndex_8e157_9 : decode cJ3_checkIndex_8e157 9 = .ok (.aload_n 2, 1) := by decide +kernel
theorem dJ3_checkIndex_8e157_10 : decode cJ3_checkIndex_8e157 10 = .ok (.iload_n 0, 1) := by decide +kernel
theorem dJ3_checkIndex_8e157_11 : decode cJ3_checkIndex_8e157 11 = .ok (.iload_n 1, 1) := by decide +kernel
theorem dJ3_checkIndex_8e157_12 : decode cJ3_checkIndex_8e157 12 = .ok (.invokestatic 95, 3) := by decide +kernel
theorem dJ3_checkIndex_8e157_15 : decode cJ3_checkIndex_8e157 15 = .ok (.athrow, 1) := by decide +kernel
theorem dJ3_checkIndex_8e157_16 : decode cJ3_checkIndex_8e157 16 = .ok (.iload_n 0, 1) := by decide +kernel
theorem dJ3_checkIndex_8e157_17 : decode cJ3_checkIndex_8e157 17 = .ok (.ireturn, 1) := by decide +kernel

theorem sc_nar' (z : Int32) : narrow .char (.int (z.toUInt32 % 65536).toInt32) = .int (z.toUInt32 % 65536).toInt32 := pk_nc z
set_option maxRecDepth 100000 in
set_option maxHeartbeats 4000000 in
theorem c_coder (v : EV) (S : Hp) (i : Nat) (hi : i < 2) : CtA v 1 yJ0_coder_7d493 cJ0_coder_7d493 1 (some .byte) 0 0 [.ref (v.2.2 (20 + i))] S (fun r S' => r = some (.int 0) ∧ S' = S) := by
  refine ct_ofA (by decide) (Nat.le_of_ble_eq_true rfl) fun x hv9 hn9 C M hm9 => ?_
  subst hv9
  have C : CB x RJ0 cJ0_coder_7d493 := C

  refine J.eq (lv' := [(0, .ref ((x_v x).2.2 (20 + i)))]) rfl rfl rfl ?_
  refine j_getsZ C gsJ0_38 dJ0_coder_7d493_0 ?_
  refine j_if_eq (tgt := 13) C dJ0_coder_7d493_3 (by decide) (fun c9 => absurd c9 (by decide)) (fun c9 => ?_)
  refine j_aload_n C dJ0_coder_7d493_6 rfl 0 rfl ?_
  refine j_strcod C hi gsJ0_15 dJ0_coder_7d493_7 ?_
  refine j_goto (tgt := 14) C dJ0_coder_7d493_10 (by decide) ?_
  exact j_zret C M rfl dJ0_coder_7d493_14 (by decide) (by decide) ⟨rfl, rfl⟩

set_option maxRecDepth 100000 in
set_option maxHeartbeats 4000000 in
theorem c_isLatin1 (v : EV) (S : Hp) (i : Nat) (hi : i < 2) : CtA v 1 yJ0_isLatin1_aae02 cJ0_isLatin1_aae02 1 (some .boolean) 0 0 [.ref (v.2.2 (20 + i))] S (fun r S' => r = some (.int 1) ∧ S' = S) := by
  refine ct_ofA (by decide) (Nat.le_of_ble_eq_true rfl) fun x hv9 hn9 C M hm9 => ?_
  subst hv9
  have C : CB x RJ0 cJ0_isLatin1_aae02 := C

  refine J.eq (lv' := [(0, .ref ((x_v x).2.2 (20 + i)))]) rfl rfl rfl ?_
  refine j_getsZ C gsJ0_38 dJ0_isLatin1_aae02_0 ?_
  refine j_if_eq (tgt := 17) C dJ0_isLatin1_aae02_3 (by decide) (fun c9 => absurd c9 (by decide)) (fun c9 => ?_)
  refine j_aload_n C dJ0_isLatin1_aae02_6 rfl 0 rfl ?_
  refine j_strcod C hi gsJ0_15 dJ0_isLatin1_aae02_7 ?_
  refine j_if_ne (tgt := 17) C dJ0_isLatin1_aae02_10 (by decide) (fun c9 => absurd rfl c9) (fun c9 => ?_)
  refine j_iconst (v := 1) C dJ0_isLatin1_aae02_13 (by decide) ?_
  refine j_goto (tgt := 18) C dJ0_isLatin1_aae02_14 (by decide) ?_
  exact j_zret C M rfl dJ0_isLatin1_aae02_18 (by decide) (by decide) ⟨rfl, rfl⟩

set_option maxRecDepth 100000 in
set_option maxHeartbeats 4000000 in
theorem c_length (v : EV) (S : Hp) (i : Nat) (hi : i < 2) (hz : nI (txLen.getD i 0) >>> ((0 : Int32) &&& 31) = nI (txLen.getD i 0)) : CtA v 2 yJ0_length_8abf5 cJ0_length_8abf5 1 (some .int) 0 0 [.ref (v.2.2 (20 + i))] S (fun r S' => r = some (.int (nI (txLen.getD i 0))) ∧ S' = S) := by
  refine ct_ofA (by decide) (Nat.le_of_ble_eq_true rfl) fun x hv9 hn9 C M hm9 => ?_
  subst hv9
  have C : CB x RJ0 cJ0_length_8abf5 := C

  refine J.eq (lv' := [(0, .ref ((x_v x).2.2 (20 + i)))]) rfl rfl rfl ?_
  refine j_aload_n C dJ0_length_8abf5_0 rfl 0 rfl ?_
  refine j_strval C hi gsJ0_9 dJ0_length_8abf5_1 ?_
  refine j_strlen (v := nI (txLen.getD i 0)) C hi rfl dJ0_length_8abf5_4 ?_
  refine j_aload_n C dJ0_length_8abf5_5 rfl 0 rfl ?_
  refine j_callVX C [] [.int (nI (txLen.getD i 0))] mlJ0_335 mcJ0_coder_7d493 (c_coder (x_v x) S i hi) (st_recv C hi) (M.rm (by decide) (by decide) (Nat.le_of_ble_eq_true rfl) (Nat.le_of_ble_eq_true rfl)) rfl rfl (Nat.le_of_ble_eq_true rfl) dJ0_length_8abf5_6 (fun r1 S1 h1 => ?_)
  obtain ⟨rfl, rfl⟩ := h1
  refine J.eq (st' := [.int 0, .int (nI (txLen.getD i 0))]) rfl rfl rfl ?_
  refine j_ishr (v := nI (txLen.getD i 0)) C dJ0_length_8abf5_9 hz ?_
  exact j_iret C M dJ0_length_8abf5_10 (by decide) (by decide) ⟨rfl, rfl⟩

set_option maxRecDepth 100000 in
set_option maxHeartbeats 4000000 in
theorem c_pck_n (v : EV) (S : Hp) (a b : Int32) (h0 : ¬ a < 0) (h1 : a < b) : CtA v 1 yJ3_checkIndex_8e157 cJ3_checkIndex_8e157 3 (some .int) 0 0 [.int a, .int b, .null] S (fun r S' => r = some (.int a) ∧ S' = S) := by
  refine ct_ofA (by decide) (Nat.le_of_ble_eq_true rfl) fun x hv9 hn9 C M hm9 => ?_
  subst hv9
  have C : CB x RJ3 cJ3_checkIndex_8e157 := C

  refine J.eq (lv' := [(0, .int a), (1, .int b), (2, .null)]) rfl rfl rfl ?_
  refine j_iload_n C dJ3_checkIndex_8e157_0 rfl 0 rfl ?_
  refine j_if_lt (tgt := 9) C dJ3_checkIndex_8e157_1 (by decide) (fun c9 => absurd c9 h0) (fun c9 => ?_)
  refine j_iload_n C dJ3_checkIndex_8e157_4 rfl 0 rfl ?_
  refine j_iload_n C dJ3_checkIndex_8e157_5 rfl 1 rfl ?_
  refine j_ic_lt (tgt := 16) C dJ3_checkIndex_8e157_6 (by decide) (fun c9 => ?_) (fun c9 => absurd h1 c9)
  refine j_iload_n C dJ3_checkIndex_8e157_16 rfl 0 rfl ?_
  exact j_iret C M dJ3_checkIndex_8e157_17 (by decide) (by decide) ⟨rfl, rfl⟩

set_option maxRecDepth 100000 in
set_option maxHeartbeats 4000000 in
theorem c_pck_r (v : EV) (S : Hp) (a b : Int32) (t : Nat) (h0 : ¬ a < 0) (h1 : a < b) : CtA v 1 yJ3_checkIndex_8e157 cJ3_checkIndex_8e157 3 (some .int) 0 0 [.int a, .int b, .ref t] S (fun r S' => r = some (.int a) ∧ S' = S) := by
  refine ct_ofA (by decide) (Nat.le_of_ble_eq_true rfl) fun x hv9 hn9 C M hm9 => ?_
  subst hv9
  have C : CB x RJ3 cJ3_checkIndex_8e157 := C

  refine J.eq (lv' := [(0, .int a), (1, .int b), (2, .ref t)]) rfl rfl rfl ?_
  refine j_iload_n C dJ3_checkIndex_8e157_0 rfl 0 rfl ?_
  refine j_if_lt (tgt := 9) C dJ3_checkIndex_8e157_1 (by decide) (fun c9 => absurd c9 h0) (fun c9 => ?_)
  refine j_iload_n C dJ3_checkIndex_8e157_4 rfl 0 rfl ?_
  refine j_iload_n C dJ3_checkIndex_8e157_5 rfl 1 rfl ?_
  refine j_ic_lt (tgt := 16) C dJ3_checkIndex_8e157_6 (by decide) (fun c9 => ?_) (fun c9 => absurd h1 c9)
  refine j_iload_n C dJ3_checkIndex_8e157_16 rfl 0 rfl ?_
  exact j_iret C M dJ3_checkIndex_8e157_17 (by decide) (by decide) ⟨rfl, rfl⟩

set_option maxRecDepth 100000 in
set_option maxHeartbeats 4000000 in
theorem c_ck (v : EV) (S : Hp) (a b : Int32) (h0 : ¬ a < 0) (h1 : a < b) : CtA v 2 yJ0_checkIndex_df160 cJ0_checkIndex_df160 2 none 0 0 [.int a, .int b] S (fun r S' => r = none ∧ S' = S) := by
  refine ct_ofA (by decide) (Nat.le_of_ble_eq_true rfl) fun x hv9 hn9 C M hm9 => ?_
  subst hv9
  have C : CB x RJ0 cJ0_checkIndex_df160 := C

  refine J.eq (lv' := [(0, .int a), (1, .int b)]) rfl rfl rfl ?_
  refine j_iload_n C dJ0_checkIndex_df160_0 rfl 0 rfl ?_
  refine j_iload_n C dJ0_checkIndex_df160_1 rfl 1 rfl ?_
  refine j_getsF C gsJ0_1053 dJ0_checkIndex_df160_2 (fun z hz => ?_)
  rcases hz with rfl | ⟨t, rfl⟩

  · refine j_callSA C [.int a, .int b, .null] [] mlJ0_1059 mcJ3_checkIndex_8e157 (c_pck_n (x_v x) S a b h0 h1) (M.rm (by decide) (by decide) (Nat.le_of_ble_eq_true rfl) (Nat.le_of_ble_eq_true rfl)) rfl rfl (Nat.le_of_ble_eq_true rfl) dJ0_checkIndex_df160_5 (fun r1 S1 h1 => ?_)
    obtain ⟨rfl, rfl⟩ := h1
    refine J.eq (st' := [.int a]) rfl rfl rfl ?_
    refine j_pop C dJ0_checkIndex_df160_8 rfl ?_
    exact j_vret C M dJ0_checkIndex_df160_9 (by decide) (by decide) ⟨rfl, rfl⟩

  · refine j_callSA C [.int a, .int b, .ref t] [] mlJ0_1059 mcJ3_checkIndex_8e157 (c_pck_r (x_v x) S a b t h0 h1) (M.rm (by decide) (by decide) (Nat.le_of_ble_eq_true rfl) (Nat.le_of_ble_eq_true rfl)) rfl rfl (Nat.le_of_ble_eq_true rfl) dJ0_checkIndex_df160_5 (fun r1 S1 h1 => ?_)
    obtain ⟨rfl, rfl⟩ := h1
    refine J.eq (st' := [.int a]) rfl rfl rfl ?_
    refine j_pop C dJ0_checkIndex_df160_8 rfl ?_
    exact j_vret C M dJ0_checkIndex_df160_9 (by decide) (by decide) ⟨rfl, rfl⟩

/-- the char at place k of text i -/
def chv (i k : Nat) : Int32 := (((txB.getD i []).getD k 0 &&& 255).toUInt32 % 65536).toInt32

set_option maxRecDepth 100000 in
set_option maxHeartbeats 4000000 in
theorem c_charAt1 (v : EV) (S : Hp) (i k0 : Nat) (hi : i < 2) (hk : k0 < txLen.getD i 0) (hl : txLen.getD i 0 < 2 ^ 31) : CtA v 3 yJ1_charAt_3b067 cJ1_charAt_3b067 2 (some .char) 0 0 [.ref (v.2.2 (30 + i)), .int (nI k0)] S (fun r S' => r = some (.int (chv i k0)) ∧ S' = S) := by
  refine ct_ofA (by decide) (Nat.le_of_ble_eq_true rfl) fun x hv9 hn9 C M hm9 => ?_
  subst hv9
  have C : CB x RJ1 cJ1_charAt_3b067 := C

  refine J.eq (lv' := [(0, .ref ((x_v x).2.2 (30 + i))), (1, .int (nI k0))]) rfl rfl rfl ?_
  refine j_iload_n C dJ1_charAt_3b067_0 rfl 1 rfl ?_
  refine j_aload_n C dJ1_charAt_3b067_1 rfl 0 rfl ?_
  refine j_strlen (v := nI (txLen.getD i 0)) C hi rfl dJ1_charAt_3b067_2 ?_
  refine j_callSA C [.int (nI k0), .int (nI (txLen.getD i 0))] [] mlJ1_9 mcJ0_checkIndex_df160 (c_ck (x_v x) S _ _ (nI_pos (by omega)) (nI_lt hk hl)) (M.rm (by decide) (by decide) (Nat.le_of_ble_eq_true rfl) (Nat.le_of_ble_eq_true rfl)) rfl rfl (Nat.le_of_ble_eq_true rfl) dJ1_charAt_3b067_3 (fun r1 S1 h1 => ?_)
  obtain ⟨rfl, rfl⟩ := h1
  refine J.eq (st' := []) rfl rfl rfl ?_
  refine j_aload_n C dJ1_charAt_3b067_6 rfl 0 rfl ?_
  refine j_iload_n C dJ1_charAt_3b067_7 rfl 1 rfl ?_
  refine j_strld (v := (txB.getD i []).getD k0 0) C hi (vp_in_nI hk hl) (by rw [nI_clamp (by omega)]) dJ1_charAt_3b067_8 ?_
  refine j_sipush (v := 255) C dJ1_charAt_3b067_9 (by decide) ?_
  refine j_iand C dJ1_charAt_3b067_12 rfl ?_
  refine j_i2c (v := chv i k0) C dJ1_charAt_3b067_13 rfl ?_
  exact j_zret C M (sc_nar' _) dJ1_charAt_3b067_14 (by decide) (by decide) ⟨rfl, rfl⟩

set_option maxRecDepth 100000 in
set_option maxHeartbeats 4000000 in
theorem c_charAt (v : EV) (S : Hp) (i k0 : Nat) (hi : i < 2) (hk : k0 < txLen.getD i 0) (hl : txLen.getD i 0 < 2 ^ 31) : CtA v 4 yJ0_charAt_5068e cJ0_charAt_5068e 2 (some .char) 0 0 [.ref (v.2.2 (20 + i)), .int (nI k0)] S (fun r S' => r = some (.int (chv i k0)) ∧ S' = S) := by
  refine ct_ofA (by decide) (Nat.le_of_ble_eq_true rfl) fun x hv9 hn9 C M hm9 => ?_
  subst hv9
  have C : CB x RJ0 cJ0_charAt_5068e := C

  refine J.eq (lv' := [(0, .ref ((x_v x).2.2 (20 + i))), (1, .int (nI k0))]) rfl rfl rfl ?_
  refine j_aload_n C dJ0_charAt_5068e_0 rfl 0 rfl ?_
  refine j_callVX C [] [] mlJ0_492 mcJ0_isLatin1_aae02 (c_isLatin1 (x_v x) S i hi) (st_recv C hi) (M.rm (by decide) (by decide) (Nat.le_of_ble_eq_true rfl) (Nat.le_of_ble_eq_true rfl)) rfl rfl (Nat.le_of_ble_eq_true rfl) dJ0_charAt_5068e_1 (fun r1 S1 h1 => ?_)
  obtain ⟨rfl, rfl⟩ := h1
  refine J.eq (st' := [.int 1]) rfl rfl rfl ?_
  refine j_if_eq (tgt := 16) C dJ0_charAt_5068e_4 (by decide) (fun c9 => absurd c9 (by decide)) (fun c9 => ?_)
  refine j_aload_n C dJ0_charAt_5068e_7 rfl 0 rfl ?_
  refine j_strval C hi gsJ0_9 dJ0_charAt_5068e_8 ?_
  refine j_iload_n C dJ0_charAt_5068e_11 rfl 1 rfl ?_
  refine j_callSA C [.ref ((x_v x).2.2 (30 + i)), .int (nI k0)] [] mlJ0_495 mcJ1_charAt_3b067 (c_charAt1 (x_v x) S1 i k0 hi hk hl) (M.rm (by decide) (by decide) (Nat.le_of_ble_eq_true rfl) (Nat.le_of_ble_eq_true rfl)) rfl rfl (Nat.le_of_ble_eq_true rfl) dJ0_charAt_5068e_12 (fun r1 S1 h1 => ?_)
  obtain ⟨rfl, rfl⟩ := h1
  refine J.eq (st' := [.int (chv i k0)]) rfl rfl rfl ?_
  exact j_zret C M (sc_nar' _) dJ0_charAt_5068e_15 (by decide) (by decide) ⟨rfl, rfl⟩
