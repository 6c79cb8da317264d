def fillN (f : Nat → Int32) (n : Nat) (v : Int32) : Nat → Int32 := fun j => if j < n then v else f j
theorem fill_0 (S : Hp) (a : Nat) (v : Int32) : S = rI S a (fillN (aI S a) 0 v) := by
  have e : va_up (aI S) a (fillN (aI S a) 0 v) = aI S := funext fun x => funext fun j => by
    unfold va_up fillN
    by_cases h : x = a
    · subst h; simp
    · simp [h]
  unfold rI
  rw [e]
  rfl
theorem fill_s (S : Hp) (a i : Nat) (v : Int32) : tI (rI S a (fillN (aI S a) i v)) a i v = rI S a (fillN (aI S a) (i + 1) v) := by
  have e : up2 (va_up (aI S) a (fillN (aI S a) i v)) a i v = va_up (aI S) a (fillN (aI S a) (i + 1) v) := funext fun x => funext fun j => by
    unfold up2 va_up fillN
    by_cases h : x = a
    · subst h
      by_cases hj : j = i
      · subst hj; simp
      · by_cases h2 : j < i
        · simp [hj, h2, show j < i + 1 by omega]
        · simp [hj, h2, show ¬ j < i + 1 by omega]
    · simp [h]
  show (hL S, hK S, hI S, hJ S, hR S, hN S, up2 (va_up (aI S) a (fillN (aI S a) i v)) a i v, aJ S, aR S) = _
  rw [e]
  rfl
theorem rd_fill {S : Hp} {a n j : Nat} {v : Int32} (h : j < n) : aI (rI S a (fillN (aI S a) n v)) a j = v := by
  rw [aI_rI, if_pos rfl]
  exact if_pos h

theorem dJ7_fill_53178_0 : decode cJ7_fill_53178 0 = .ok (.iconst 0, 1) := by decide +kernel
theorem dJ7_fill_53178_1 : decode cJ7_fill_53178 1 = .ok (.istore_n 2, 1) := by decide +kernel
theorem dJ7_fill_53178_2 : decode cJ7_fill_53178 2 = .ok (.aload_n 0, 1) := by decide +kernel
theorem dJ7_fill_53178_3 : decode cJ7_fill_53178 3 = .ok (.arraylength, 1) := by decide +kernel
theorem dJ7_fill_53178_4 : decode cJ7_fill_53178 4 = .ok (.istore_n 3, 1) := by decide +kernel
theorem dJ7_fill_53178_5 : decode cJ7_fill_53178 5 = .ok (.iload_n 2, 1) := by decide +kernel
theorem dJ7_fill_53178_6 : decode cJ7_fill_53178 6 = .ok (.iload_n 3, 1) := by decide +kernel
theorem dJ7_fill_53178_7 : decode cJ7_fill_53178 7 = .ok (.if_icmp .ge 13, 3) := by decide +kernel
theorem dJ7_fill_53178_10 : decode cJ7_fill_53178 10 = .ok (.aload_n 0, 1) := by decide +kernel
theorem dJ7_fill_53178_11 : decode cJ7_fill_53178 11 = .ok (.iload_n 2, 1) := by decide +kernel
theorem dJ7_fill_53178_12 : decode cJ7_fill_53178 12 = .ok (.iload_n 1, 1) := by decide +kernel
theorem dJ7_fill_53178_13 : decode cJ7_fill_53178 13 = .ok (.iastore, 1) := by decide +kernel
theorem dJ7_fill_53178_14 : decode cJ7_fill_53178 14 = .ok (.iinc 2 1, 3) := by decide +kernel
theorem dJ7_fill_53178_17 : decode cJ7_fill_53178 17 = .ok (.goto (-12), 3) := by decide +kernel
theorem dJ7_fill_53178_20 : decode cJ7_fill_53178 20 = .ok (.return_, 1) := by decide +kernel

set_option maxRecDepth 100000 in
set_option maxHeartbeats 4000000 in
theorem c_J7_fill_53178 (S : Hp) (a : Nat) (N : Nat) (v0 : Int32) (m_a : a ∈ hL S) (k_a : Kd S a 14) (l_a : Ln S a N) (hN : N < 2 ^ 31) : Ct 1 yJ7_fill_53178 cJ7_fill_53178 4 none 0 0 [.ref a, .int v0] S (fun r S' => r = none ∧ S' = (rI S a (fillN (aI S a) N v0))) := by
  refine ct_of (by decide) (Nat.le_of_ble_eq_true rfl) fun x hn9 C M hm9 => ?_
  have C : CB x RJ7 cJ7_fill_53178 := C
  refine J.eq (lv' := [(0, .ref a), (1, .int v0)]) rfl rfl rfl ?_
  refine j_iconst (v := 0) C dJ7_fill_53178_0 (by decide) ?_
  refine j_istore_n (lv' := [(2, .int 0), (0, .ref a), (1, .int v0)]) C dJ7_fill_53178_1 rfl (by rw [hn9]; decide) rfl ?_
  refine j_aload_n C dJ7_fill_53178_2 rfl 1 rfl ?_
  refine j_alen (v := nI N) C dJ7_fill_53178_3 m_a k_a (by decide) (by decide) (len_of (n := N) l_a rfl) ?_
  refine j_istore_n (lv' := [(3, .int (nI N)), (2, .int 0), (0, .ref a), (1, .int v0)]) C dJ7_fill_53178_4 rfl (by rw [hn9]; decide) rfl ?_
  have loop_2 : ∀ (m9 i9 : Nat), i9 + m9 = N → J x (0) (0) (rI S a (fillN (aI S a) i9 v0)) [(3, .int (nI N)), (2, .int (nI i9)), (0, .ref a), (1, .int v0)] 5 [] := by
    intro m9
    induction m9 with
    | zero =>
      intro i9  hi_3 
      refine j_iload_n C dJ7_fill_53178_5 rfl 1 rfl ?_
      refine j_iload_n C dJ7_fill_53178_6 rfl 0 rfl ?_
      refine j_ic_ge (tgt := 20) C dJ7_fill_53178_7 (by decide) (fun c_7 => ?_) (fun c_7 => absurd (nI_le (by omega) (by omega)) c_7)
      exact j_vret C M dJ7_fill_53178_20 (by decide) (by decide) ⟨rfl, by rw [show i9 = N by omega]⟩
    | succ m9 ih_1 =>
      intro i9  hi_3 
      refine j_iload_n C dJ7_fill_53178_5 rfl 1 rfl ?_
      refine j_iload_n C dJ7_fill_53178_6 rfl 0 rfl ?_
      show J _ _ _ _ _ 7 _
      refine j_ic_ge (tgt := 20) C dJ7_fill_53178_7 (by decide) (fun c_7 => absurd c_7 (nI_ge (by omega) (by omega))) (fun c_7 => ?_)
      refine j_aload_n C dJ7_fill_53178_10 rfl 2 rfl ?_
      refine j_iload_n C dJ7_fill_53178_11 rfl 1 rfl ?_
      refine j_iload_n C dJ7_fill_53178_12 rfl 3 rfl ?_
      refine j_iast (j := i9) C dJ7_fill_53178_13 m_a k_a (inr_of (n := N) l_a (vp_in_nI (by omega) (by omega))) (nI_clamp (by omega)) ?_
      refine j_iinc (q := 1) (v := nI (i9 + 1)) (lv' := [(2, .int (nI (i9 + 1))), (3, .int (nI N)), (0, .ref a), (1, .int v0)]) C dJ7_fill_53178_14 rfl (nI_add i9 1) (by rw [hn9]; decide) rfl ?_
      refine j_goto (tgt := 5) C dJ7_fill_53178_17 (by decide) ?_
      refine J.sub [1, 0, 2, 3] (lv' := [(3, .int (nI N)), (2, .int (nI (i9 + 1))), (0, .ref a), (1, .int v0)]) (by rfl) ?_
      refine J.eq (S' := (rI S a (fillN (aI S a) (i9 + 1) v0))) (fill_s S a i9 v0) rfl rfl ?_
      exact J.eq rfl rfl rfl (ih_1 (i9 + 1)  (by omega) )
  refine J.eq (S' := (rI S a (fillN (aI S a) 0 v0))) (fill_0 S a v0) rfl rfl ?_
  refine J.sub [0, 1, 2, 3] (lv' := [(3, .int (nI N)), (2, .int (nI 0)), (0, .ref a), (1, .int v0)]) (by rfl) ?_
  exact J.eq rfl rfl rfl (loop_2 (N - 0) 0  (by omega) )
