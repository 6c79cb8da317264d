set_option maxRecDepth 100000 in
set_option maxHeartbeats 4000000 in
theorem c_maxl0 (S : Hp) (b9 : Nat) (hb : b9 < 2 ^ 31) : Ct 1 yJ9_max_f86c9 cJ9_max_f86c9 4 (some .long) 0 0 [.long 0, .long (lN b9)] S (fun r S' => r = some (.long (lN b9)) ∧ S' = S) := by
  refine ct_ofF (by decide +kernel) (Nat.le_of_ble_eq_true rfl) fun x hn9 C M hm9 => ?_
  have C : CB x RJ9 cJ9_max_f86c9 := C
  refine J.eq (lv' := [(0, .long 0), (2, .long (lN b9))]) rfl rfl rfl ?_
  refine j_lload_n C dJ9_max_f86c9_0 rfl 0 rfl ?_
  refine j_lload_n C dJ9_max_f86c9_1 rfl 1 rfl ?_
  refine j_lcmp C dJ9_max_f86c9_2 ?_
  refine j_if_lt (tgt := 10) C dJ9_max_f86c9_3 (by decide) (fun c_3 => ?_) (fun c_3 => ?_)
  · skip
    refine j_lload_n C dJ9_max_f86c9_10 rfl 1 rfl ?_
    exact j_lret C M dJ9_max_f86c9_11 (by decide) (by decide) ⟨congrArg (fun z9 => some (Value.long z9)) (by first | rfl | (have h9 : b9 = 0 := Nat.le_zero.mp (Nat.not_lt.mp (fun q => c_3 ((lg_cmp_lt _ _).mpr ((lN_lt (a := 0) (by omega) (by omega)).mpr q)))); rw [h9]; rfl)), rfl⟩
  · skip
    refine j_lload_n C dJ9_max_f86c9_6 rfl 0 rfl ?_
    refine j_goto (tgt := 11) C dJ9_max_f86c9_7 (by decide) ?_
    exact j_lret C M dJ9_max_f86c9_11 (by decide) (by decide) ⟨congrArg (fun z9 => some (Value.long z9)) (by first | rfl | (have h9 : b9 = 0 := Nat.le_zero.mp (Nat.not_lt.mp (fun q => c_3 ((lg_cmp_lt _ _).mpr ((lN_lt (a := 0) (by omega) (by omega)).mpr q)))); rw [h9]; rfl)), rfl⟩
