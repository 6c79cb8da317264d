/-! A picture file, on both sides. -/
theorem byte_nat (x : Int32) : ∃ f, f < 256 ∧ x &&& 255 = nI f := by
  refine ⟨(x.toBitVec &&& 255#32).toNat, ?_, ?_⟩
  · rw [BitVec.toNat_and]
    exact Nat.lt_of_le_of_lt Nat.and_le_right (by decide)
  · refine Int32.toBitVec_inj.mp ?_
    rw [Int32.toBitVec_and]
    show _ = BitVec.ofNat 32 _
    rw [BitVec.ofNat_toNat, BitVec.setWidth_eq]
    rfl
theorem pic_F (A : Nat → Int32) (st sz : Nat) : ∃ F : Nat → Nat, (∀ i, i < sz → A (st + i) &&& 255 = nI (F i)) ∧ (∀ i, F i < 256) ∧ ∀ i, sz ≤ i → F i = 0 := by
  refine ⟨fun i => if i < sz then (byte_nat (A (st + i))).choose else 0, fun i hi => ?_, fun i => ?_, fun i hi => ?_⟩
  · show _ = nI (if i < sz then (byte_nat (A (st + i))).choose else 0)
    rw [if_pos hi]; exact (byte_nat (A (st + i))).choose_spec.2
  · show (if i < sz then (byte_nat (A (st + i))).choose else 0) < 256
    split
    · exact (byte_nat (A (st + i))).choose_spec.1
    · omega
  · show (if i < sz then (byte_nat (A (st + i))).choose else 0) = 0
    rw [if_neg (by omega)]
