theorem dX6_clear_0 : decode cX6_clear 0 = .ok (.aload_n 0, 1) := by decide +kernel
theorem dX6_clear_1 : decode cX6_clear 1 = .ok (.iconst 0, 1) := by decide +kernel
theorem dX6_clear_2 : decode cX6_clear 2 = .ok (.putfield 28, 3) := by decide +kernel
theorem dX6_clear_5 : decode cX6_clear 5 = .ok (.aload_n 0, 1) := by decide +kernel
theorem dX6_clear_6 : decode cX6_clear 6 = .ok (.iconst 0, 1) := by decide +kernel
theorem dX6_clear_7 : decode cX6_clear 7 = .ok (.putfield 32, 3) := by decide +kernel
theorem dX6_clear_10 : decode cX6_clear 10 = .ok (.aload_n 0, 1) := by decide +kernel
theorem dX6_clear_11 : decode cX6_clear 11 = .ok (.iconst 0, 1) := by decide +kernel
theorem dX6_clear_12 : decode cX6_clear 12 = .ok (.putfield 35, 3) := by decide +kernel
theorem dX6_clear_15 : decode cX6_clear 15 = .ok (.return_, 1) := by decide +kernel
set_option maxRecDepth 100000 in
set_option maxHeartbeats 4000000 in
theorem c_X6_clear (S : Hp) (h : Nat) (hm : h ∈ hL S) (hk : hK S h = 6) : Ct 1 yX6_clear cX6_clear 1 none 0 0 [.ref h] S (fun r S' => r = none ∧ Fm (fun f a => (f = 601 ∧ a = h) ∨ (f = 602 ∧ a = h) ∨ (f = 603 ∧ a = h)) (fun _ _ => False) (fun _ => False) S S' ∧ hI S' 601 h = 0 ∧ hI S' 602 h = 0 ∧ hI S' 603 h = 0) := by
  refine ct_of (by decide) (Nat.le_of_ble_eq_true rfl) fun x hn9 C M hm9 => ?_
  have C : CB x RX6 cX6_clear := C
  refine J.eq (lv' := [(0, .ref h)]) rfl rfl rfl ?_
  refine j_aload_n C dX6_clear_0 rfl 0 rfl ?_
  refine j_iconst (v := 0) C dX6_clear_1 (by decide) ?_
  refine j_puti (f := 601) C flX6_28 (by decide) rfl rfl dX6_clear_2 hm hk rfl ?_
  refine j_aload_n C dX6_clear_5 rfl 0 rfl ?_
  refine j_iconst (v := 0) C dX6_clear_6 (by decide) ?_
  refine j_puti (f := 602) C flX6_32 (by decide) rfl rfl dX6_clear_7 hm hk rfl ?_
  refine j_aload_n C dX6_clear_10 rfl 0 rfl ?_
  refine j_iconst (v := 0) C dX6_clear_11 (by decide) ?_
  refine j_putz (f := 603) C flX6_35 (by decide) rfl rfl (by decide) dX6_clear_12 hm hk rfl ?_
  exact j_vret C M dX6_clear_15 (by decide) (by decide) ⟨rfl, (((Fm.refl.sI _ (fun _ => (Or.inl ⟨rfl, rfl⟩))).sI _ (fun _ => (Or.inr (Or.inl ⟨rfl, rfl⟩)))).sI _ (fun _ => (Or.inr (Or.inr ⟨rfl, rfl⟩)))), (rd_sIf (by decide) (rd_sIf (by decide) rd_sI)), (rd_sIf (by decide) rd_sI), rd_sI⟩
