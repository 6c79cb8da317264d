theorem rI_step {S : Hp} {a i : Nat} {f g : Nat → Int32} {v : Int32} (h : ∀ j, (if j = i then v else f j) = g j) : tI (rI S a f) a i v = rI S a g := by
  have e : up2 (va_up (aI S) a f) a i v = va_up (aI S) a g := funext fun x => funext fun j => by
    unfold up2 va_up
    by_cases hx : x = a
    · subst hx
      by_cases hj : j = i
      · have h1 := h j
        rw [if_pos hj] at h1
        simp [hj]
        rw [← hj]; exact h1
      · have := h j
        rw [if_neg hj] at this
        simp [hj, this]
    · simp [hx]
  show (hL S, hK S, hI S, hJ S, hR S, hN S, up2 (va_up (aI S) a f) a i v, aJ S, aR S) = _
  rw [e]
  rfl
theorem rI_id {S : Hp} {a : Nat} {f : Nat → Int32} (h : ∀ j, f j = aI S a j) : S = rI S a f := by
  have e : va_up (aI S) a f = aI S := funext fun x => funext fun j => by
    unfold va_up
    by_cases hx : x = a
    · subst hx; simp [h j]
    · simp [hx]
  unfold rI
  rw [e]
  rfl
theorem rI_rI {S : Hp} {a : Nat} {f g : Nat → Int32} : rI (rI S a f) a g = rI S a g := by
  have e : va_up (va_up (aI S) a f) a g = va_up (aI S) a g := funext fun x => funext fun j => by
    unfold va_up
    by_cases hx : x = a <;> simp [hx]
  show (hL S, hK S, hI S, hJ S, hR S, hN S, va_up (va_up (aI S) a f) a g, aJ S, aR S) = _
  rw [e]
  rfl
theorem rd_rIs {S : Hp} {a j : Nat} {f : Nat → Int32} : aI (rI S a f) a j = f j := by rw [aI_rI, if_pos rfl]
/-- a word of the page under a MARK's row that is all black -/
def pwd (d m T : Int32) (wo : Bool) : Int32 := (d &&& (((((-1 : Int32) &&& (T ^^^ -1)) &&& fI wo ||| 0) &&& m) ^^^ -1)) ||| (((-1 : Int32) &&& T) &&& m)
theorem pwd_bt (d m T : Int32) (wo : Bool) {i : Nat} (hi : i < 32) : bt (pwd d m T wo) i = if bt m i = true then (if bt T i = true then true else if wo = true then false else bt d i) else bt d i := by
  unfold pwd
  rw [b_or, b_and, b_xor, b_and, b_or, b_and, b_and, b_xor, b_and, b_and, b_0, b_m1 _ hi, fI_bt wo hi]
  cases bt m i <;> cases bt T i <;> cases wo <;> cases bt d i <;> rfl
/-- a row of the page painted, up to word q -/
def pnt (D : Nat → Int32) (b0 fx tx : Nat) (T : Int32) (wo : Bool) (q : Nat) : Nat → Int32 := fun j => if b0 + fx / 32 ≤ j ∧ j < b0 + q then pwd (D j) (mskW (j - b0) fx tx) T wo else D j
theorem pnt_0 (D : Nat → Int32) (b0 fx tx : Nat) (T : Int32) (wo : Bool) (j : Nat) : pnt D b0 fx tx T wo (fx / 32) j = D j := if_neg (by omega)
theorem pnt_at (D : Nat → Int32) (b0 fx tx : Nat) (T : Int32) (wo : Bool) (q : Nat) : pnt D b0 fx tx T wo q (b0 + q) = D (b0 + q) := if_neg (by omega)
theorem pnt_s (D : Nat → Int32) (b0 fx tx : Nat) (T : Int32) (wo : Bool) (q : Nat) (hq : fx / 32 ≤ q) (j : Nat) : (if j = b0 + q then pwd (D (b0 + q)) (mskW q fx tx) T wo else pnt D b0 fx tx T wo q j) = pnt D b0 fx tx T wo (q + 1) j := by
  unfold pnt
  by_cases h : j = b0 + q
  · subst h
    rw [if_pos rfl, if_pos ⟨by omega, by omega⟩, show b0 + q - b0 = q by omega]
  · rw [if_neg h]
    by_cases h2 : b0 + fx / 32 ≤ j ∧ j < b0 + q
    · rw [if_pos h2, if_pos ⟨h2.1, by omega⟩]
    · rw [if_neg h2, if_neg (fun h3 => h2 ⟨h3.1, by omega⟩)]
/-- dots of a painted row -/
theorem pnt_dot (D : Nat → Int32) {y fx tx : Nat} (T : Int32) (wo : Bool) (hf : fx < tx) (ht : tx ≤ 800) (Y : Nat) {X : Nat} (hX : X < 800) : dotW (pnt D (y * 25) fx tx T wo ((tx - 1) / 32 + 1)) (Y * 25) X = if Y = y ∧ fx ≤ X ∧ X < tx then (if bt T (31 - X % 32) = true then true else if wo = true then false else dotW D (Y * 25) X) else dotW D (Y * 25) X := by
  unfold dotW pnt
  by_cases h : y * 25 + fx / 32 ≤ Y * 25 + X / 32 ∧ Y * 25 + X / 32 < y * 25 + ((tx - 1) / 32 + 1)
  · have hy : Y = y := by omega
    subst hy
    rw [if_pos h, pwd_bt _ _ _ _ (by omega), show Y * 25 + X / 32 - Y * 25 = X / 32 by omega, mskW_bt (by omega) (by omega) (by omega), show X / 32 * 32 + X % 32 = X by omega]
    by_cases h1 : fx ≤ X <;> by_cases h2 : X < tx <;> simp [h1, h2]
  · rw [if_neg h]
    have : ¬ (Y = y ∧ fx ≤ X ∧ X < tx) := by
      rintro ⟨rfl, h1, h2⟩
      exact h ⟨by omega, by omega⟩
    rw [if_neg this]
/-- rows painted one below the other -/
def pnts (D : Nat → Int32) (y fx tx : Nat) (T : Nat → Int32) (wo : Bool) : Nat → Nat → Int32
  | 0 => D
  | k + 1 => pnt (pnts D y fx tx T wo k) ((y + k) * 25) fx tx (T (y + k)) wo ((tx - 1) / 32 + 1)
theorem pnts_dot (D : Nat → Int32) {y fx tx : Nat} (T : Nat → Int32) (wo : Bool) (hf : fx < tx) (ht : tx ≤ 800) (Y : Nat) {X : Nat} (hX : X < 800) : ∀ k : Nat, dotW (pnts D y fx tx T wo k) (Y * 25) X = if (y ≤ Y ∧ Y < y + k) ∧ fx ≤ X ∧ X < tx then (if bt (T Y) (31 - X % 32) = true then true else if wo = true then false else dotW D (Y * 25) X) else dotW D (Y * 25) X
  | 0 => by
    rw [if_neg (by omega)]
    rfl
  | k + 1 => by
    show dotW (pnt (pnts D y fx tx T wo k) ((y + k) * 25) fx tx (T (y + k)) wo ((tx - 1) / 32 + 1)) (Y * 25) X = _
    rw [pnt_dot _ _ _ hf ht Y hX, pnts_dot D T wo hf ht Y hX k]
    by_cases h2 : fx ≤ X ∧ X < tx
    · simp only [h2.1, h2.2, and_self, and_true]
      by_cases h1 : Y = y + k
      · subst h1
        rw [if_pos rfl, if_neg (show ¬ (y ≤ y + k ∧ y + k < y + k) by omega), if_pos (show y ≤ y + k ∧ y + k < y + (k + 1) by omega)]
      · rw [if_neg h1]
        by_cases h3 : y ≤ Y ∧ Y < y + k
        · rw [if_pos h3, if_pos (show y ≤ Y ∧ Y < y + (k + 1) by omega)]
        · rw [if_neg h3, if_neg (show ¬ (y ≤ Y ∧ Y < y + (k + 1)) by omega)]
    · rw [if_neg (fun h3 : Y = y + k ∧ fx ≤ X ∧ X < tx => h2 h3.2), if_neg (fun h3 : (y ≤ Y ∧ Y < y + k) ∧ fx ≤ X ∧ X < tx => h2 h3.2), if_neg (fun h3 : (y ≤ Y ∧ Y < y + (k + 1)) ∧ fx ≤ X ∧ X < tx => h2 h3.2)]
theorem mod32 {tw q : Nat} (h : tw = 1 ∨ tw = 4) : (32 * q - 0) % tw = 0 := by rcases h with rfl | rfl <;> omega

theorem dX0_clear_0 : decode cX0_clear 0 = .ok (.aload_n 0, 1) := by decide +kernel
theorem dX0_clear_1 : decode cX0_clear 1 = .ok (.iconst 0, 1) := by decide +kernel
theorem dX0_clear_2 : decode cX0_clear 2 = .ok (.putfield 39, 3) := by decide +kernel
theorem dX0_clear_5 : decode cX0_clear 5 = .ok (.aload_n 0, 1) := by decide +kernel
theorem dX0_clear_6 : decode cX0_clear 6 = .ok (.getfield 11, 3) := by decide +kernel
theorem dX0_clear_9 : decode cX0_clear 9 = .ok (.iconst 0, 1) := by decide +kernel
theorem dX0_clear_10 : decode cX0_clear 10 = .ok (.invokestatic 42, 3) := by decide +kernel
theorem dX0_clear_13 : decode cX0_clear 13 = .ok (.return_, 1) := by decide +kernel

set_option maxRecDepth 100000 in
set_option maxHeartbeats 4000000 in
theorem c_X0_clear (S : Hp) (ad : Nat → Nat) (hW : Wd ad S) : Ct 2 yX0_clear cX0_clear 1 none 0 0 [.ref (ad 12)] S (fun r S' => r = none ∧ S' = (rI (sI S 2 (ad 12) 0) (ad 13) (fillN (aI (sI S 2 (ad 12) 0) (ad 13)) 20000 0))) := by
  refine ct_of (by decide) (Nat.le_of_ble_eq_true rfl) fun x hn9 C M hm9 => ?_
  have C : CB x RX0 cX0_clear := C
  refine J.eq (lv' := [(0, .ref (ad 12))]) rfl rfl rfl ?_
  refine j_aload_n C dX0_clear_0 rfl 0 rfl ?_
  refine j_iconst (v := 0) C dX0_clear_1 (by decide) ?_
  refine j_puti (f := 2) C flX0_39 (by decide) rfl rfl dX0_clear_2 (wm_12 (S := S) hW) (wk_12 (S := S) hW) rfl ?_
  refine j_aload_n C dX0_clear_5 rfl 0 rfl ?_
  refine j_getr (f := 0) (v := (ad 13)) C flX0_11 dX0_clear_6 (wm_12 (S := S) hW) (wk_12 (S := S) hW) (by decide) rfl (wr_0_12 (S := S) hW) ?_
  refine j_iconst (v := 0) C dX0_clear_9 (by decide) ?_
  refine j_callS C [.ref (ad 13), .int 0] [] mlX0_42 mcJ7_fill_53178 (c_J7_fill_53178 (sI S 2 (ad 12) 0) (ad 13) 20000 0 (wm_13 (S := S) hW) (wk_13 (S := S) hW) (wl_13 (S := S) hW) (by omega)) (M.rm (by decide) (by decide) (Nat.le_of_ble_eq_true rfl) (Nat.le_of_ble_eq_true rfl)) rfl rfl (Nat.le_of_ble_eq_true rfl) dX0_clear_10 (fun r_1 S_2 hp_3 => ?_)
  obtain ⟨rfl, e_4⟩ := hp_3
  refine J.eq (S' := (rI (sI S 2 (ad 12) 0) (ad 13) (fillN (aI (sI S 2 (ad 12) 0) (ad 13)) 20000 0))) (st' := []) (lv' := [(0, .ref (ad 12))]) e_4 rfl rfl ?_
  exact j_vret C M dX0_clear_13 (Nat.le_of_ble_eq_true rfl) (Nat.le_of_ble_eq_true rfl) ⟨rfl, rfl⟩

theorem dX0_startJob_0 : decode cX0_startJob 0 = .ok (.aload_n 0, 1) := by decide +kernel
theorem dX0_startJob_1 : decode cX0_startJob 1 = .ok (.iconst 0, 1) := by decide +kernel
theorem dX0_startJob_2 : decode cX0_startJob 2 = .ok (.putfield 25, 3) := by decide +kernel
theorem dX0_startJob_5 : decode cX0_startJob 5 = .ok (.aload_n 0, 1) := by decide +kernel
theorem dX0_startJob_6 : decode cX0_startJob 6 = .ok (.iconst 0, 1) := by decide +kernel
theorem dX0_startJob_7 : decode cX0_startJob 7 = .ok (.putfield 29, 3) := by decide +kernel
theorem dX0_startJob_10 : decode cX0_startJob 10 = .ok (.aload_n 0, 1) := by decide +kernel
theorem dX0_startJob_11 : decode cX0_startJob 11 = .ok (.iconst 0, 1) := by decide +kernel
theorem dX0_startJob_12 : decode cX0_startJob 12 = .ok (.putfield 32, 3) := by decide +kernel
theorem dX0_startJob_15 : decode cX0_startJob 15 = .ok (.aload_n 0, 1) := by decide +kernel
theorem dX0_startJob_16 : decode cX0_startJob 16 = .ok (.invokevirtual 36, 3) := by decide +kernel
theorem dX0_startJob_19 : decode cX0_startJob 19 = .ok (.return_, 1) := by decide +kernel

set_option maxRecDepth 100000 in
set_option maxHeartbeats 4000000 in
theorem c_X0_startJob (S : Hp) (ad : Nat → Nat) (hW : Wd ad S) : Ct 3 yX0_startJob cX0_startJob 1 none 0 0 [.ref (ad 12)] S (fun r S' => r = none ∧ S' = (rI (sI (sI (sI (sI S 3 (ad 12) 0) 4 (ad 12) 0) 5 (ad 12) 0) 2 (ad 12) 0) (ad 13) (fillN (aI (sI (sI (sI (sI S 3 (ad 12) 0) 4 (ad 12) 0) 5 (ad 12) 0) 2 (ad 12) 0) (ad 13)) 20000 0))) := by
  refine ct_of (by decide) (Nat.le_of_ble_eq_true rfl) fun x hn9 C M hm9 => ?_
  have C : CB x RX0 cX0_startJob := C
  refine J.eq (lv' := [(0, .ref (ad 12))]) rfl rfl rfl ?_
  refine j_aload_n C dX0_startJob_0 rfl 0 rfl ?_
  refine j_iconst (v := 0) C dX0_startJob_1 (by decide) ?_
  refine j_puti (f := 3) C flX0_25 (by decide) rfl rfl dX0_startJob_2 (wm_12 (S := S) hW) (wk_12 (S := S) hW) rfl ?_
  refine j_aload_n C dX0_startJob_5 rfl 0 rfl ?_
  refine j_iconst (v := 0) C dX0_startJob_6 (by decide) ?_
  refine j_puti (f := 4) C flX0_29 (by decide) rfl rfl dX0_startJob_7 (wm_12 (S := S) hW) (wk_12 (S := S) hW) rfl ?_
  refine j_aload_n C dX0_startJob_10 rfl 0 rfl ?_
  refine j_iconst (v := 0) C dX0_startJob_11 (by decide) ?_
  show J _ _ _ _ _ 12 _
  refine j_putz (f := 5) C flX0_32 (by decide) rfl rfl (by decide) dX0_startJob_12 (wm_12 (S := S) hW) (wk_12 (S := S) hW) rfl ?_
  refine j_aload_n C dX0_startJob_15 rfl 0 rfl ?_
  refine j_callV (ci := 0) C [] [] mlX0_36 mcX0_clear (c_X0_clear (sI (sI (sI S 3 (ad 12) 0) 4 (ad 12) 0) 5 (ad 12) 0) ad hW) (wm_12 (S := S) hW) (wk_12 (S := S) hW) rfl (M.rm (by decide) (by decide) (Nat.le_of_ble_eq_true rfl) (Nat.le_of_ble_eq_true rfl)) rfl rfl (Nat.le_of_ble_eq_true rfl) dX0_startJob_16 (fun r_1 S_2 hp_3 => ?_)
  obtain ⟨rfl, e_4⟩ := hp_3
  refine J.eq (S' := (rI (sI (sI (sI (sI S 3 (ad 12) 0) 4 (ad 12) 0) 5 (ad 12) 0) 2 (ad 12) 0) (ad 13) (fillN (aI (sI (sI (sI (sI S 3 (ad 12) 0) 4 (ad 12) 0) 5 (ad 12) 0) 2 (ad 12) 0) (ad 13)) 20000 0))) (st' := []) (lv' := [(0, .ref (ad 12))]) e_4 rfl rfl ?_
  exact j_vret C M dX0_startJob_19 (Nat.le_of_ble_eq_true rfl) (Nat.le_of_ble_eq_true rfl) ⟨rfl, rfl⟩

theorem dX0_layBlack_0 : decode cX0_layBlack 0 = .ok (.aload_n 0, 1) := by decide +kernel
theorem dX0_layBlack_1 : decode cX0_layBlack 1 = .ok (.getfield 15, 3) := by decide +kernel
theorem dX0_layBlack_4 : decode cX0_layBlack 4 = .ok (.iconst (-1), 1) := by decide +kernel
theorem dX0_layBlack_5 : decode cX0_layBlack 5 = .ok (.invokestatic 42, 3) := by decide +kernel
theorem dX0_layBlack_8 : decode cX0_layBlack 8 = .ok (.return_, 1) := by decide +kernel

set_option maxRecDepth 100000 in
set_option maxHeartbeats 4000000 in
theorem c_X0_layBlack (S : Hp) (ad : Nat → Nat) (hW : Wd ad S) : Ct 2 yX0_layBlack cX0_layBlack 1 none 0 0 [.ref (ad 12)] S (fun r S' => r = none ∧ S' = (rI S (ad 14) (fillN (aI S (ad 14)) 25 (-1)))) := by
  refine ct_of (by decide) (Nat.le_of_ble_eq_true rfl) fun x hn9 C M hm9 => ?_
  have C : CB x RX0 cX0_layBlack := C
  refine J.eq (lv' := [(0, .ref (ad 12))]) rfl rfl rfl ?_
  refine j_aload_n C dX0_layBlack_0 rfl 0 rfl ?_
  refine j_getr (f := 1) (v := (ad 14)) C flX0_15 dX0_layBlack_1 (wm_12 (S := S) hW) (wk_12 (S := S) hW) (by decide) rfl (wr_1_12 (S := S) hW) ?_
  refine j_iconst (v := (-1)) C dX0_layBlack_4 (by decide) ?_
  refine j_callS C [.ref (ad 14), .int (-1)] [] mlX0_42 mcJ7_fill_53178 (c_J7_fill_53178 S (ad 14) 25 (-1) (wm_14 (S := S) hW) (wk_14 (S := S) hW) (wl_14 (S := S) hW) (by omega)) (M.rm (by decide) (by decide) (Nat.le_of_ble_eq_true rfl) (Nat.le_of_ble_eq_true rfl)) rfl rfl (Nat.le_of_ble_eq_true rfl) dX0_layBlack_5 (fun r_1 S_2 hp_3 => ?_)
  obtain ⟨rfl, e_4⟩ := hp_3
  refine J.eq (S' := (rI S (ad 14) (fillN (aI S (ad 14)) 25 (-1)))) (st' := []) (lv' := [(0, .ref (ad 12))]) e_4 rfl rfl ?_
  exact j_vret C M dX0_layBlack_8 (Nat.le_of_ble_eq_true rfl) (Nat.le_of_ble_eq_true rfl) ⟨rfl, rfl⟩

theorem dX0_ink_0 : decode cX0_ink 0 = .ok (.aload_n 0, 1) := by decide +kernel
theorem dX0_ink_1 : decode cX0_ink 1 = .ok (.aload_n 1, 1) := by decide +kernel
theorem dX0_ink_2 : decode cX0_ink 2 = .ok (.putfield 21, 3) := by decide +kernel
theorem dX0_ink_5 : decode cX0_ink 5 = .ok (.aload_n 0, 1) := by decide +kernel
theorem dX0_ink_6 : decode cX0_ink 6 = .ok (.aload_n 2, 1) := by decide +kernel
theorem dX0_ink_7 : decode cX0_ink 7 = .ok (.getfield 48, 3) := by decide +kernel
theorem dX0_ink_10 : decode cX0_ink 10 = .ok (.putfield 53, 3) := by decide +kernel
theorem dX0_ink_13 : decode cX0_ink 13 = .ok (.aload_n 0, 1) := by decide +kernel
theorem dX0_ink_14 : decode cX0_ink 14 = .ok (.aload_n 2, 1) := by decide +kernel
theorem dX0_ink_15 : decode cX0_ink 15 = .ok (.getfield 56, 3) := by decide +kernel
theorem dX0_ink_18 : decode cX0_ink 18 = .ok (.putfield 59, 3) := by decide +kernel
theorem dX0_ink_21 : decode cX0_ink 21 = .ok (.aload_n 0, 1) := by decide +kernel
theorem dX0_ink_22 : decode cX0_ink 22 = .ok (.aload_n 2, 1) := by decide +kernel
theorem dX0_ink_23 : decode cX0_ink 23 = .ok (.getfield 62, 3) := by decide +kernel
theorem dX0_ink_26 : decode cX0_ink 26 = .ok (.ifCond .eq 7, 3) := by decide +kernel
theorem dX0_ink_29 : decode cX0_ink 29 = .ok (.iconst (-1), 1) := by decide +kernel
theorem dX0_ink_30 : decode cX0_ink 30 = .ok (.goto 4, 3) := by decide +kernel
theorem dX0_ink_33 : decode cX0_ink 33 = .ok (.iconst 0, 1) := by decide +kernel
theorem dX0_ink_34 : decode cX0_ink 34 = .ok (.putfield 65, 3) := by decide +kernel
theorem dX0_ink_37 : decode cX0_ink 37 = .ok (.aload_n 0, 1) := by decide +kernel
theorem dX0_ink_38 : decode cX0_ink 38 = .ok (.aload_n 2, 1) := by decide +kernel
theorem dX0_ink_39 : decode cX0_ink 39 = .ok (.getfield 68, 3) := by decide +kernel
theorem dX0_ink_42 : decode cX0_ink 42 = .ok (.ifCond .ne 10, 3) := by decide +kernel
theorem dX0_ink_45 : decode cX0_ink 45 = .ok (.aload_n 1, 1) := by decide +kernel
theorem dX0_ink_46 : decode cX0_ink 46 = .ok (.getfield 71, 3) := by decide +kernel
theorem dX0_ink_49 : decode cX0_ink 49 = .ok (.ifCond .eq 7, 3) := by decide +kernel
theorem dX0_ink_52 : decode cX0_ink 52 = .ok (.iconst (-1), 1) := by decide +kernel
theorem dX0_ink_53 : decode cX0_ink 53 = .ok (.goto 4, 3) := by decide +kernel
theorem dX0_ink_56 : decode cX0_ink 56 = .ok (.iconst 0, 1) := by decide +kernel
theorem dX0_ink_57 : decode cX0_ink 57 = .ok (.putfield 74, 3) := by decide +kernel
theorem dX0_ink_60 : decode cX0_ink 60 = .ok (.return_, 1) := by decide +kernel

set_option maxRecDepth 100000 in
set_option maxHeartbeats 4000000 in
theorem c_ink00 (S : Hp) (ad : Nat → Nat) (hW : Wd ad S) (hI_110_ad26 : hI S 110 (ad 26) = 0) (hI_111_ad26 : hI S 111 (ad 26) = 0) (hI_112_ad26 : hI S 112 (ad 26) = 0) (hI_113_ad26 : hI S 113 (ad 26) = 0) (hI_1002_ad24 : hI S 1002 (ad 24) = 0) : Ct 1 yX0_ink cX0_ink 3 none 0 0 [.ref (ad 12), .ref (ad 24), .ref (ad 26)] S (fun r S' => r = none ∧ S' = (sI (sI (sI (sI (sR S 10 (ad 12) (some (ad 24))) 11 (ad 12) 0) 12 (ad 12) 0) 13 (ad 12) 0) 14 (ad 12) 0)) := by
  refine ct_of (by decide) (Nat.le_of_ble_eq_true rfl) fun x hn9 C M hm9 => ?_
  have C : CB x RX0 cX0_ink := C
  refine J.eq (lv' := [(0, .ref (ad 12)), (1, .ref (ad 24)), (2, .ref (ad 26))]) rfl rfl rfl ?_
  refine j_aload_n C dX0_ink_0 rfl 0 rfl ?_
  refine j_aload_n C dX0_ink_1 rfl 1 rfl ?_
  refine j_putr (f := 10) C flX0_21 (by decide) rfl rfl dX0_ink_2 (wm_12 (S := S) hW) (wk_12 (S := S) hW) rfl ?_
  refine j_aload_n C dX0_ink_5 rfl 0 rfl ?_
  refine j_aload_n C dX0_ink_6 rfl 2 rfl ?_
  refine j_geti (f := 112) (v := 0) C flX0_48 dX0_ink_7 (wm_26 (S := S) hW) (wk_26 (S := S) hW) (by decide) (by decide) rfl hI_112_ad26 ?_
  refine j_puti (f := 11) C flX0_53 (by decide) rfl rfl dX0_ink_10 (wm_12 (S := S) hW) (wk_12 (S := S) hW) rfl ?_
  refine j_aload_n C dX0_ink_13 rfl 0 rfl ?_
  show J _ _ _ _ _ 14 _
  refine j_aload_n C dX0_ink_14 rfl 2 rfl ?_
  refine j_geti (f := 113) (v := 0) C flX0_56 dX0_ink_15 (wm_26 (S := S) hW) (wk_26 (S := S) hW) (by decide) (by decide) rfl (rd_sIf (S := (sR S 10 (ad 12) (some (ad 24)))) (g := 11) (a := (ad 12)) (v := 0) (by decide) hI_113_ad26) ?_
  refine j_puti (f := 12) C flX0_59 (by decide) rfl rfl dX0_ink_18 (wm_12 (S := S) hW) (wk_12 (S := S) hW) rfl ?_
  refine j_aload_n C dX0_ink_21 rfl 0 rfl ?_
  refine j_aload_n C dX0_ink_22 rfl 2 rfl ?_
  refine j_geti (f := 110) (v := 0) C flX0_62 dX0_ink_23 (wm_26 (S := S) hW) (wk_26 (S := S) hW) (by decide) (by decide) rfl (rd_sIf (S := (sI (sR S 10 (ad 12) (some (ad 24))) 11 (ad 12) 0)) (g := 12) (a := (ad 12)) (v := 0) (by decide) (rd_sIf (S := (sR S 10 (ad 12) (some (ad 24)))) (g := 11) (a := (ad 12)) (v := 0) (by decide) hI_110_ad26)) ?_
  refine j_if_eq (tgt := 33) C dX0_ink_26 (by decide) (fun c9 => ?_) (fun c9 => absurd (by decide) c9)
  refine j_iconst (v := 0) C dX0_ink_33 (by decide) ?_
  show J _ _ _ _ _ 34 _
  refine j_puti (f := 13) C flX0_65 (by decide) rfl rfl dX0_ink_34 (wm_12 (S := S) hW) (wk_12 (S := S) hW) rfl ?_
  refine j_aload_n C dX0_ink_37 rfl 0 rfl ?_
  refine j_aload_n C dX0_ink_38 rfl 2 rfl ?_
  refine j_geti (f := 111) (v := 0) C flX0_68 dX0_ink_39 (wm_26 (S := S) hW) (wk_26 (S := S) hW) (by decide) (by decide) rfl (rd_sIf (S := (sI (sI (sR S 10 (ad 12) (some (ad 24))) 11 (ad 12) 0) 12 (ad 12) 0)) (g := 13) (a := (ad 12)) (v := 0) (by decide) (rd_sIf (S := (sI (sR S 10 (ad 12) (some (ad 24))) 11 (ad 12) 0)) (g := 12) (a := (ad 12)) (v := 0) (by decide) (rd_sIf (S := (sR S 10 (ad 12) (some (ad 24)))) (g := 11) (a := (ad 12)) (v := 0) (by decide) hI_111_ad26))) ?_
  refine j_if_ne (tgt := 52) C dX0_ink_42 (by decide) (fun c9 => absurd c9 (by decide)) (fun c9 => ?_)
  refine j_aload_n C dX0_ink_45 rfl 1 rfl ?_
  refine j_geti (f := 1002) (v := 0) C flX0_71 dX0_ink_46 (wm_24 (S := S) hW) (wk_24 (S := S) hW) (by decide) (by decide) rfl (rd_sIf (S := (sI (sI (sR S 10 (ad 12) (some (ad 24))) 11 (ad 12) 0) 12 (ad 12) 0)) (g := 13) (a := (ad 12)) (v := 0) (by decide) (rd_sIf (S := (sI (sR S 10 (ad 12) (some (ad 24))) 11 (ad 12) 0)) (g := 12) (a := (ad 12)) (v := 0) (by decide) (rd_sIf (S := (sR S 10 (ad 12) (some (ad 24)))) (g := 11) (a := (ad 12)) (v := 0) (by decide) hI_1002_ad24))) ?_
  refine j_if_eq (tgt := 56) C dX0_ink_49 (by decide) (fun c9 => ?_) (fun c9 => absurd (by decide) c9)
  show J _ _ _ _ _ 56 _
  refine j_iconst (v := 0) C dX0_ink_56 (by decide) ?_
  refine j_puti (f := 14) C flX0_74 (by decide) rfl rfl dX0_ink_57 (wm_12 (S := S) hW) (wk_12 (S := S) hW) rfl ?_
  exact j_vret C M dX0_ink_60 (by decide) (by decide) ⟨rfl, rfl⟩

set_option maxRecDepth 100000 in
set_option maxHeartbeats 4000000 in
theorem c_ink01 (S : Hp) (ad : Nat → Nat) (hW : Wd ad S) (hI_110_ad26 : hI S 110 (ad 26) = 0) (hI_111_ad26 : hI S 111 (ad 26) = 0) (hI_112_ad26 : hI S 112 (ad 26) = 0) (hI_113_ad26 : hI S 113 (ad 26) = 0) (hI_1002_ad24 : hI S 1002 (ad 24) = 1) : Ct 1 yX0_ink cX0_ink 3 none 0 0 [.ref (ad 12), .ref (ad 24), .ref (ad 26)] S (fun r S' => r = none ∧ S' = (sI (sI (sI (sI (sR S 10 (ad 12) (some (ad 24))) 11 (ad 12) 0) 12 (ad 12) 0) 13 (ad 12) 0) 14 (ad 12) (-1))) := by
  refine ct_of (by decide) (Nat.le_of_ble_eq_true rfl) fun x hn9 C M hm9 => ?_
  have C : CB x RX0 cX0_ink := C
  refine J.eq (lv' := [(0, .ref (ad 12)), (1, .ref (ad 24)), (2, .ref (ad 26))]) rfl rfl rfl ?_
  refine j_aload_n C dX0_ink_0 rfl 0 rfl ?_
  refine j_aload_n C dX0_ink_1 rfl 1 rfl ?_
  refine j_putr (f := 10) C flX0_21 (by decide) rfl rfl dX0_ink_2 (wm_12 (S := S) hW) (wk_12 (S := S) hW) rfl ?_
  refine j_aload_n C dX0_ink_5 rfl 0 rfl ?_
  refine j_aload_n C dX0_ink_6 rfl 2 rfl ?_
  refine j_geti (f := 112) (v := 0) C flX0_48 dX0_ink_7 (wm_26 (S := S) hW) (wk_26 (S := S) hW) (by decide) (by decide) rfl hI_112_ad26 ?_
  refine j_puti (f := 11) C flX0_53 (by decide) rfl rfl dX0_ink_10 (wm_12 (S := S) hW) (wk_12 (S := S) hW) rfl ?_
  refine j_aload_n C dX0_ink_13 rfl 0 rfl ?_
  show J _ _ _ _ _ 14 _
  refine j_aload_n C dX0_ink_14 rfl 2 rfl ?_
  refine j_geti (f := 113) (v := 0) C flX0_56 dX0_ink_15 (wm_26 (S := S) hW) (wk_26 (S := S) hW) (by decide) (by decide) rfl (rd_sIf (S := (sR S 10 (ad 12) (some (ad 24)))) (g := 11) (a := (ad 12)) (v := 0) (by decide) hI_113_ad26) ?_
  refine j_puti (f := 12) C flX0_59 (by decide) rfl rfl dX0_ink_18 (wm_12 (S := S) hW) (wk_12 (S := S) hW) rfl ?_
  refine j_aload_n C dX0_ink_21 rfl 0 rfl ?_
  refine j_aload_n C dX0_ink_22 rfl 2 rfl ?_
  refine j_geti (f := 110) (v := 0) C flX0_62 dX0_ink_23 (wm_26 (S := S) hW) (wk_26 (S := S) hW) (by decide) (by decide) rfl (rd_sIf (S := (sI (sR S 10 (ad 12) (some (ad 24))) 11 (ad 12) 0)) (g := 12) (a := (ad 12)) (v := 0) (by decide) (rd_sIf (S := (sR S 10 (ad 12) (some (ad 24)))) (g := 11) (a := (ad 12)) (v := 0) (by decide) hI_110_ad26)) ?_
  refine j_if_eq (tgt := 33) C dX0_ink_26 (by decide) (fun c9 => ?_) (fun c9 => absurd (by decide) c9)
  refine j_iconst (v := 0) C dX0_ink_33 (by decide) ?_
  show J _ _ _ _ _ 34 _
  refine j_puti (f := 13) C flX0_65 (by decide) rfl rfl dX0_ink_34 (wm_12 (S := S) hW) (wk_12 (S := S) hW) rfl ?_
  refine j_aload_n C dX0_ink_37 rfl 0 rfl ?_
  refine j_aload_n C dX0_ink_38 rfl 2 rfl ?_
  refine j_geti (f := 111) (v := 0) C flX0_68 dX0_ink_39 (wm_26 (S := S) hW) (wk_26 (S := S) hW) (by decide) (by decide) rfl (rd_sIf (S := (sI (sI (sR S 10 (ad 12) (some (ad 24))) 11 (ad 12) 0) 12 (ad 12) 0)) (g := 13) (a := (ad 12)) (v := 0) (by decide) (rd_sIf (S := (sI (sR S 10 (ad 12) (some (ad 24))) 11 (ad 12) 0)) (g := 12) (a := (ad 12)) (v := 0) (by decide) (rd_sIf (S := (sR S 10 (ad 12) (some (ad 24)))) (g := 11) (a := (ad 12)) (v := 0) (by decide) hI_111_ad26))) ?_
  refine j_if_ne (tgt := 52) C dX0_ink_42 (by decide) (fun c9 => absurd c9 (by decide)) (fun c9 => ?_)
  refine j_aload_n C dX0_ink_45 rfl 1 rfl ?_
  refine j_geti (f := 1002) (v := 1) C flX0_71 dX0_ink_46 (wm_24 (S := S) hW) (wk_24 (S := S) hW) (by decide) (by decide) rfl (rd_sIf (S := (sI (sI (sR S 10 (ad 12) (some (ad 24))) 11 (ad 12) 0) 12 (ad 12) 0)) (g := 13) (a := (ad 12)) (v := 0) (by decide) (rd_sIf (S := (sI (sR S 10 (ad 12) (some (ad 24))) 11 (ad 12) 0)) (g := 12) (a := (ad 12)) (v := 0) (by decide) (rd_sIf (S := (sR S 10 (ad 12) (some (ad 24)))) (g := 11) (a := (ad 12)) (v := 0) (by decide) hI_1002_ad24))) ?_
  refine j_if_eq (tgt := 56) C dX0_ink_49 (by decide) (fun c9 => absurd c9 (by decide)) (fun c9 => ?_)
  show J _ _ _ _ _ 52 _
  refine j_iconst (v := (-1)) C dX0_ink_52 (by decide) ?_
  refine j_goto (tgt := 57) C dX0_ink_53 (by decide) ?_
  refine j_puti (f := 14) C flX0_74 (by decide) rfl rfl dX0_ink_57 (wm_12 (S := S) hW) (wk_12 (S := S) hW) rfl ?_
  exact j_vret C M dX0_ink_60 (by decide) (by decide) ⟨rfl, rfl⟩

set_option maxRecDepth 100000 in
set_option maxHeartbeats 4000000 in
theorem c_ink10 (S : Hp) (ad : Nat → Nat) (hW : Wd ad S) (hI_110_ad26 : hI S 110 (ad 26) = 0) (hI_111_ad26 : hI S 111 (ad 26) = 1) (hI_112_ad26 : hI S 112 (ad 26) = 0) (hI_113_ad26 : hI S 113 (ad 26) = 0) (hI_1002_ad24 : hI S 1002 (ad 24) = 0) : Ct 1 yX0_ink cX0_ink 3 none 0 0 [.ref (ad 12), .ref (ad 24), .ref (ad 26)] S (fun r S' => r = none ∧ S' = (sI (sI (sI (sI (sR S 10 (ad 12) (some (ad 24))) 11 (ad 12) 0) 12 (ad 12) 0) 13 (ad 12) 0) 14 (ad 12) (-1))) := by
  refine ct_of (by decide) (Nat.le_of_ble_eq_true rfl) fun x hn9 C M hm9 => ?_
  have C : CB x RX0 cX0_ink := C
  refine J.eq (lv' := [(0, .ref (ad 12)), (1, .ref (ad 24)), (2, .ref (ad 26))]) rfl rfl rfl ?_
  refine j_aload_n C dX0_ink_0 rfl 0 rfl ?_
  refine j_aload_n C dX0_ink_1 rfl 1 rfl ?_
  refine j_putr (f := 10) C flX0_21 (by decide) rfl rfl dX0_ink_2 (wm_12 (S := S) hW) (wk_12 (S := S) hW) rfl ?_
  refine j_aload_n C dX0_ink_5 rfl 0 rfl ?_
  refine j_aload_n C dX0_ink_6 rfl 2 rfl ?_
  refine j_geti (f := 112) (v := 0) C flX0_48 dX0_ink_7 (wm_26 (S := S) hW) (wk_26 (S := S) hW) (by decide) (by decide) rfl hI_112_ad26 ?_
  refine j_puti (f := 11) C flX0_53 (by decide) rfl rfl dX0_ink_10 (wm_12 (S := S) hW) (wk_12 (S := S) hW) rfl ?_
  refine j_aload_n C dX0_ink_13 rfl 0 rfl ?_
  show J _ _ _ _ _ 14 _
  refine j_aload_n C dX0_ink_14 rfl 2 rfl ?_
  refine j_geti (f := 113) (v := 0) C flX0_56 dX0_ink_15 (wm_26 (S := S) hW) (wk_26 (S := S) hW) (by decide) (by decide) rfl (rd_sIf (S := (sR S 10 (ad 12) (some (ad 24)))) (g := 11) (a := (ad 12)) (v := 0) (by decide) hI_113_ad26) ?_
  refine j_puti (f := 12) C flX0_59 (by decide) rfl rfl dX0_ink_18 (wm_12 (S := S) hW) (wk_12 (S := S) hW) rfl ?_
  refine j_aload_n C dX0_ink_21 rfl 0 rfl ?_
  refine j_aload_n C dX0_ink_22 rfl 2 rfl ?_
  refine j_geti (f := 110) (v := 0) C flX0_62 dX0_ink_23 (wm_26 (S := S) hW) (wk_26 (S := S) hW) (by decide) (by decide) rfl (rd_sIf (S := (sI (sR S 10 (ad 12) (some (ad 24))) 11 (ad 12) 0)) (g := 12) (a := (ad 12)) (v := 0) (by decide) (rd_sIf (S := (sR S 10 (ad 12) (some (ad 24)))) (g := 11) (a := (ad 12)) (v := 0) (by decide) hI_110_ad26)) ?_
  refine j_if_eq (tgt := 33) C dX0_ink_26 (by decide) (fun c9 => ?_) (fun c9 => absurd (by decide) c9)
  refine j_iconst (v := 0) C dX0_ink_33 (by decide) ?_
  show J _ _ _ _ _ 34 _
  refine j_puti (f := 13) C flX0_65 (by decide) rfl rfl dX0_ink_34 (wm_12 (S := S) hW) (wk_12 (S := S) hW) rfl ?_
  refine j_aload_n C dX0_ink_37 rfl 0 rfl ?_
  refine j_aload_n C dX0_ink_38 rfl 2 rfl ?_
  refine j_geti (f := 111) (v := 1) C flX0_68 dX0_ink_39 (wm_26 (S := S) hW) (wk_26 (S := S) hW) (by decide) (by decide) rfl (rd_sIf (S := (sI (sI (sR S 10 (ad 12) (some (ad 24))) 11 (ad 12) 0) 12 (ad 12) 0)) (g := 13) (a := (ad 12)) (v := 0) (by decide) (rd_sIf (S := (sI (sR S 10 (ad 12) (some (ad 24))) 11 (ad 12) 0)) (g := 12) (a := (ad 12)) (v := 0) (by decide) (rd_sIf (S := (sR S 10 (ad 12) (some (ad 24)))) (g := 11) (a := (ad 12)) (v := 0) (by decide) hI_111_ad26))) ?_
  refine j_if_ne (tgt := 52) C dX0_ink_42 (by decide) (fun c9 => ?_) (fun c9 => absurd c9 (by decide))
  refine j_iconst (v := (-1)) C dX0_ink_52 (by decide) ?_
  refine j_goto (tgt := 57) C dX0_ink_53 (by decide) ?_
  refine j_puti (f := 14) C flX0_74 (by decide) rfl rfl dX0_ink_57 (wm_12 (S := S) hW) (wk_12 (S := S) hW) rfl ?_
  show J _ _ _ _ _ 60 _
  exact j_vret C M dX0_ink_60 (by decide) (by decide) ⟨rfl, rfl⟩

set_option maxRecDepth 100000 in
set_option maxHeartbeats 4000000 in
theorem c_ink11 (S : Hp) (ad : Nat → Nat) (hW : Wd ad S) (hI_110_ad26 : hI S 110 (ad 26) = 0) (hI_111_ad26 : hI S 111 (ad 26) = 1) (hI_112_ad26 : hI S 112 (ad 26) = 0) (hI_113_ad26 : hI S 113 (ad 26) = 0) (hI_1002_ad24 : hI S 1002 (ad 24) = 1) : Ct 1 yX0_ink cX0_ink 3 none 0 0 [.ref (ad 12), .ref (ad 24), .ref (ad 26)] S (fun r S' => r = none ∧ S' = (sI (sI (sI (sI (sR S 10 (ad 12) (some (ad 24))) 11 (ad 12) 0) 12 (ad 12) 0) 13 (ad 12) 0) 14 (ad 12) (-1))) := by
  refine ct_of (by decide) (Nat.le_of_ble_eq_true rfl) fun x hn9 C M hm9 => ?_
  have C : CB x RX0 cX0_ink := C
  refine J.eq (lv' := [(0, .ref (ad 12)), (1, .ref (ad 24)), (2, .ref (ad 26))]) rfl rfl rfl ?_
  refine j_aload_n C dX0_ink_0 rfl 0 rfl ?_
  refine j_aload_n C dX0_ink_1 rfl 1 rfl ?_
  refine j_putr (f := 10) C flX0_21 (by decide) rfl rfl dX0_ink_2 (wm_12 (S := S) hW) (wk_12 (S := S) hW) rfl ?_
  refine j_aload_n C dX0_ink_5 rfl 0 rfl ?_
  refine j_aload_n C dX0_ink_6 rfl 2 rfl ?_
  refine j_geti (f := 112) (v := 0) C flX0_48 dX0_ink_7 (wm_26 (S := S) hW) (wk_26 (S := S) hW) (by decide) (by decide) rfl hI_112_ad26 ?_
  refine j_puti (f := 11) C flX0_53 (by decide) rfl rfl dX0_ink_10 (wm_12 (S := S) hW) (wk_12 (S := S) hW) rfl ?_
  refine j_aload_n C dX0_ink_13 rfl 0 rfl ?_
  show J _ _ _ _ _ 14 _
  refine j_aload_n C dX0_ink_14 rfl 2 rfl ?_
  refine j_geti (f := 113) (v := 0) C flX0_56 dX0_ink_15 (wm_26 (S := S) hW) (wk_26 (S := S) hW) (by decide) (by decide) rfl (rd_sIf (S := (sR S 10 (ad 12) (some (ad 24)))) (g := 11) (a := (ad 12)) (v := 0) (by decide) hI_113_ad26) ?_
  refine j_puti (f := 12) C flX0_59 (by decide) rfl rfl dX0_ink_18 (wm_12 (S := S) hW) (wk_12 (S := S) hW) rfl ?_
  refine j_aload_n C dX0_ink_21 rfl 0 rfl ?_
  refine j_aload_n C dX0_ink_22 rfl 2 rfl ?_
  refine j_geti (f := 110) (v := 0) C flX0_62 dX0_ink_23 (wm_26 (S := S) hW) (wk_26 (S := S) hW) (by decide) (by decide) rfl (rd_sIf (S := (sI (sR S 10 (ad 12) (some (ad 24))) 11 (ad 12) 0)) (g := 12) (a := (ad 12)) (v := 0) (by decide) (rd_sIf (S := (sR S 10 (ad 12) (some (ad 24)))) (g := 11) (a := (ad 12)) (v := 0) (by decide) hI_110_ad26)) ?_
  refine j_if_eq (tgt := 33) C dX0_ink_26 (by decide) (fun c9 => ?_) (fun c9 => absurd (by decide) c9)
  refine j_iconst (v := 0) C dX0_ink_33 (by decide) ?_
  show J _ _ _ _ _ 34 _
  refine j_puti (f := 13) C flX0_65 (by decide) rfl rfl dX0_ink_34 (wm_12 (S := S) hW) (wk_12 (S := S) hW) rfl ?_
  refine j_aload_n C dX0_ink_37 rfl 0 rfl ?_
  refine j_aload_n C dX0_ink_38 rfl 2 rfl ?_
  refine j_geti (f := 111) (v := 1) C flX0_68 dX0_ink_39 (wm_26 (S := S) hW) (wk_26 (S := S) hW) (by decide) (by decide) rfl (rd_sIf (S := (sI (sI (sR S 10 (ad 12) (some (ad 24))) 11 (ad 12) 0) 12 (ad 12) 0)) (g := 13) (a := (ad 12)) (v := 0) (by decide) (rd_sIf (S := (sI (sR S 10 (ad 12) (some (ad 24))) 11 (ad 12) 0)) (g := 12) (a := (ad 12)) (v := 0) (by decide) (rd_sIf (S := (sR S 10 (ad 12) (some (ad 24)))) (g := 11) (a := (ad 12)) (v := 0) (by decide) hI_111_ad26))) ?_
  refine j_if_ne (tgt := 52) C dX0_ink_42 (by decide) (fun c9 => ?_) (fun c9 => absurd c9 (by decide))
  refine j_iconst (v := (-1)) C dX0_ink_52 (by decide) ?_
  refine j_goto (tgt := 57) C dX0_ink_53 (by decide) ?_
  refine j_puti (f := 14) C flX0_74 (by decide) rfl rfl dX0_ink_57 (wm_12 (S := S) hW) (wk_12 (S := S) hW) rfl ?_
  show J _ _ _ _ _ 60 _
  exact j_vret C M dX0_ink_60 (by decide) (by decide) ⟨rfl, rfl⟩

theorem c_ink (S : Hp) (ad : Nat → Nat) (hW : Wd ad S) (po wh : Bool) (h1 : hI S 110 (ad 26) = 0) (h2 : hI S 111 (ad 26) = cI po) (h3 : hI S 112 (ad 26) = 0) (h4 : hI S 113 (ad 26) = 0) (h5 : hI S 1002 (ad 24) = cI wh) : Ct 1 yX0_ink cX0_ink 3 none 0 0 [.ref (ad 12), .ref (ad 24), .ref (ad 26)] S (fun r S' => r = none ∧ S' = sI (sI (sI (sI (sR S 10 (ad 12) (some (ad 24))) 11 (ad 12) 0) 12 (ad 12) 0) 13 (ad 12) 0) 14 (ad 12) (fI (po || wh))) := by
  cases po <;> cases wh
  · exact c_ink00 S ad hW h1 h2 h3 h4 h5
  · exact c_ink01 S ad hW h1 h2 h3 h4 h5
  · exact c_ink10 S ad hW h1 h2 h3 h4 h5
  · exact c_ink11 S ad hW h1 h2 h3 h4 h5

theorem dX0_mark_0 : decode cX0_mark 0 = .ok (.aload_n 0, 1) := by decide +kernel
theorem dX0_mark_1 : decode cX0_mark 1 = .ok (.iload_n 2, 1) := by decide +kernel
theorem dX0_mark_2 : decode cX0_mark 2 = .ok (.iconst 0, 1) := by decide +kernel
theorem dX0_mark_3 : decode cX0_mark 3 = .ok (.invokestatic 77, 3) := by decide +kernel
theorem dX0_mark_6 : decode cX0_mark 6 = .ok (.putfield 83, 3) := by decide +kernel
theorem dX0_mark_9 : decode cX0_mark 9 = .ok (.aload_n 0, 1) := by decide +kernel
theorem dX0_mark_10 : decode cX0_mark 10 = .ok (.iload_n 2, 1) := by decide +kernel
theorem dX0_mark_11 : decode cX0_mark 11 = .ok (.iload 4, 2) := by decide +kernel
theorem dX0_mark_13 : decode cX0_mark 13 = .ok (.iadd, 1) := by decide +kernel
theorem dX0_mark_14 : decode cX0_mark 14 = .ok (.aload_n 1, 1) := by decide +kernel
theorem dX0_mark_15 : decode cX0_mark 15 = .ok (.invokevirtual 86, 3) := by decide +kernel
theorem dX0_mark_18 : decode cX0_mark 18 = .ok (.invokestatic 92, 3) := by decide +kernel
theorem dX0_mark_21 : decode cX0_mark 21 = .ok (.putfield 95, 3) := by decide +kernel
theorem dX0_mark_24 : decode cX0_mark 24 = .ok (.aload_n 0, 1) := by decide +kernel
theorem dX0_mark_25 : decode cX0_mark 25 = .ok (.iload_n 3, 1) := by decide +kernel
theorem dX0_mark_26 : decode cX0_mark 26 = .ok (.iconst 0, 1) := by decide +kernel
theorem dX0_mark_27 : decode cX0_mark 27 = .ok (.invokestatic 77, 3) := by decide +kernel
theorem dX0_mark_30 : decode cX0_mark 30 = .ok (.putfield 98, 3) := by decide +kernel
theorem dX0_mark_33 : decode cX0_mark 33 = .ok (.aload_n 0, 1) := by decide +kernel
theorem dX0_mark_34 : decode cX0_mark 34 = .ok (.iload_n 3, 1) := by decide +kernel
theorem dX0_mark_35 : decode cX0_mark 35 = .ok (.iload 5, 2) := by decide +kernel
theorem dX0_mark_37 : decode cX0_mark 37 = .ok (.iadd, 1) := by decide +kernel
theorem dX0_mark_38 : decode cX0_mark 38 = .ok (.aload_n 1, 1) := by decide +kernel
theorem dX0_mark_39 : decode cX0_mark 39 = .ok (.invokevirtual 101, 3) := by decide +kernel
theorem dX0_mark_42 : decode cX0_mark 42 = .ok (.invokestatic 92, 3) := by decide +kernel
theorem dX0_mark_45 : decode cX0_mark 45 = .ok (.putfield 104, 3) := by decide +kernel
theorem dX0_mark_48 : decode cX0_mark 48 = .ok (.aload_n 0, 1) := by decide +kernel
theorem dX0_mark_49 : decode cX0_mark 49 = .ok (.getfield 95, 3) := by decide +kernel
theorem dX0_mark_52 : decode cX0_mark 52 = .ok (.aload_n 0, 1) := by decide +kernel
theorem dX0_mark_53 : decode cX0_mark 53 = .ok (.getfield 83, 3) := by decide +kernel
theorem dX0_mark_56 : decode cX0_mark 56 = .ok (.isub, 1) := by decide +kernel
theorem dX0_mark_57 : decode cX0_mark 57 = .ok (.iconst 0, 1) := by decide +kernel
theorem dX0_mark_58 : decode cX0_mark 58 = .ok (.invokestatic 77, 3) := by decide +kernel
theorem dX0_mark_61 : decode cX0_mark 61 = .ok (.aload_n 0, 1) := by decide +kernel
theorem dX0_mark_62 : decode cX0_mark 62 = .ok (.getfield 104, 3) := by decide +kernel
theorem dX0_mark_65 : decode cX0_mark 65 = .ok (.aload_n 0, 1) := by decide +kernel
theorem dX0_mark_66 : decode cX0_mark 66 = .ok (.getfield 98, 3) := by decide +kernel
theorem dX0_mark_69 : decode cX0_mark 69 = .ok (.isub, 1) := by decide +kernel
theorem dX0_mark_70 : decode cX0_mark 70 = .ok (.iconst 0, 1) := by decide +kernel
theorem dX0_mark_71 : decode cX0_mark 71 = .ok (.invokestatic 77, 3) := by decide +kernel
theorem dX0_mark_74 : decode cX0_mark 74 = .ok (.imul, 1) := by decide +kernel
theorem dX0_mark_75 : decode cX0_mark 75 = .ok (.istore 6, 2) := by decide +kernel
theorem dX0_mark_77 : decode cX0_mark 77 = .ok (.aload_n 0, 1) := by decide +kernel
theorem dX0_mark_78 : decode cX0_mark 78 = .ok (.getfield 29, 3) := by decide +kernel
theorem dX0_mark_81 : decode cX0_mark 81 = .ok (.iload 6, 2) := by decide +kernel
theorem dX0_mark_83 : decode cX0_mark 83 = .ok (.iadd, 1) := by decide +kernel
theorem dX0_mark_84 : decode cX0_mark 84 = .ok (.ldc 107, 2) := by decide +kernel
theorem dX0_mark_86 : decode cX0_mark 86 = .ok (.if_icmp .le 10, 3) := by decide +kernel
theorem dX0_mark_89 : decode cX0_mark 89 = .ok (.aload_n 0, 1) := by decide +kernel
theorem dX0_mark_90 : decode cX0_mark 90 = .ok (.iconst 1, 1) := by decide +kernel
theorem dX0_mark_91 : decode cX0_mark 91 = .ok (.putfield 32, 3) := by decide +kernel
theorem dX0_mark_94 : decode cX0_mark 94 = .ok (.iconst 0, 1) := by decide +kernel
theorem dX0_mark_95 : decode cX0_mark 95 = .ok (.ireturn, 1) := by decide +kernel
theorem dX0_mark_96 : decode cX0_mark 96 = .ok (.aload_n 0, 1) := by decide +kernel
theorem dX0_mark_97 : decode cX0_mark 97 = .ok (.dup, 1) := by decide +kernel
theorem dX0_mark_98 : decode cX0_mark 98 = .ok (.getfield 29, 3) := by decide +kernel
theorem dX0_mark_101 : decode cX0_mark 101 = .ok (.iload 6, 2) := by decide +kernel
theorem dX0_mark_103 : decode cX0_mark 103 = .ok (.iadd, 1) := by decide +kernel
theorem dX0_mark_104 : decode cX0_mark 104 = .ok (.putfield 29, 3) := by decide +kernel
theorem dX0_mark_107 : decode cX0_mark 107 = .ok (.aload_n 0, 1) := by decide +kernel
theorem dX0_mark_108 : decode cX0_mark 108 = .ok (.dup, 1) := by decide +kernel
theorem dX0_mark_109 : decode cX0_mark 109 = .ok (.getfield 25, 3) := by decide +kernel
theorem dX0_mark_112 : decode cX0_mark 112 = .ok (.iconst 1, 1) := by decide +kernel
theorem dX0_mark_113 : decode cX0_mark 113 = .ok (.iadd, 1) := by decide +kernel
theorem dX0_mark_114 : decode cX0_mark 114 = .ok (.putfield 25, 3) := by decide +kernel
theorem dX0_mark_117 : decode cX0_mark 117 = .ok (.aload_n 0, 1) := by decide +kernel
theorem dX0_mark_118 : decode cX0_mark 118 = .ok (.dup, 1) := by decide +kernel
theorem dX0_mark_119 : decode cX0_mark 119 = .ok (.getfield 39, 3) := by decide +kernel
theorem dX0_mark_122 : decode cX0_mark 122 = .ok (.iconst 1, 1) := by decide +kernel
theorem dX0_mark_123 : decode cX0_mark 123 = .ok (.iadd, 1) := by decide +kernel
theorem dX0_mark_124 : decode cX0_mark 124 = .ok (.putfield 39, 3) := by decide +kernel
theorem dX0_mark_127 : decode cX0_mark 127 = .ok (.aload_n 0, 1) := by decide +kernel
theorem dX0_mark_128 : decode cX0_mark 128 = .ok (.getfield 39, 3) := by decide +kernel
theorem dX0_mark_131 : decode cX0_mark 131 = .ok (.sipush 2000, 3) := by decide +kernel
theorem dX0_mark_134 : decode cX0_mark 134 = .ok (.if_icmp .le 10, 3) := by decide +kernel
theorem dX0_mark_137 : decode cX0_mark 137 = .ok (.aload_n 0, 1) := by decide +kernel
theorem dX0_mark_138 : decode cX0_mark 138 = .ok (.iconst 1, 1) := by decide +kernel
theorem dX0_mark_139 : decode cX0_mark 139 = .ok (.putfield 32, 3) := by decide +kernel
theorem dX0_mark_142 : decode cX0_mark 142 = .ok (.iconst 0, 1) := by decide +kernel
theorem dX0_mark_143 : decode cX0_mark 143 = .ok (.ireturn, 1) := by decide +kernel
theorem dX0_mark_144 : decode cX0_mark 144 = .ok (.iload 6, 2) := by decide +kernel
theorem dX0_mark_146 : decode cX0_mark 146 = .ok (.ifCond .le 7, 3) := by decide +kernel
theorem dX0_mark_149 : decode cX0_mark 149 = .ok (.iconst 1, 1) := by decide +kernel
theorem dX0_mark_150 : decode cX0_mark 150 = .ok (.goto 4, 3) := by decide +kernel
theorem dX0_mark_153 : decode cX0_mark 153 = .ok (.iconst 0, 1) := by decide +kernel
theorem dX0_mark_154 : decode cX0_mark 154 = .ok (.ireturn, 1) := by decide +kernel

set_option maxRecDepth 100000 in
set_option maxHeartbeats 4000000 in
theorem c_X0_mark (S : Hp) (ad : Nat → Nat) (hW : Wd ad S) (bx : Nat) (bY : Nat) (bw : Nat) (bh : Nat) (cv : Nat) (mk : Nat) (hI_700_ad27 : hI S 700 (ad 27) = 0) (hI_701_ad27 : hI S 701 (ad 27) = 0) (hI_2_ad12 : hI S 2 (ad 12) = nI mk) (hI_3_ad12 : hI S 3 (ad 12) = nI mk) (hI_4_ad12 : hI S 4 (ad 12) = nI cv) (hx : bx + bw ≤ 200) (hy : bY + bh ≤ 240) (hw : 0 < bw) (hh : 0 < bh) (hc : cv + bw * bh ≤ 5000000) (hm : mk < 2000) : Ct 2 yX0_mark cX0_mark 7 (some .boolean) 0 0 [.ref (ad 12), .ref (ad 27), .int (nI bx), .int (nI bY), .int (nI bw), .int (nI bh)] S (fun r S' => r = some (.int 1) ∧ S' = (sI (sI (sI (sI (sI (sI (sI S 6 (ad 12) (nI bx)) 7 (ad 12) (nI (bx + bw))) 8 (ad 12) (nI bY)) 9 (ad 12) (nI (bY + bh))) 4 (ad 12) (nI (cv + (bw * bh)))) 3 (ad 12) (nI (mk + 1))) 2 (ad 12) (nI (mk + 1)))) := by
  refine ct_of (by decide) (Nat.le_of_ble_eq_true rfl) fun x hn9 C M hm9 => ?_
  have C : CB x RX0 cX0_mark := C
  refine J.eq (lv' := [(0, .ref (ad 12)), (1, .ref (ad 27)), (2, .int (nI bx)), (3, .int (nI bY)), (4, .int (nI bw)), (5, .int (nI bh))]) rfl rfl rfl ?_
  refine j_aload_n C dX0_mark_0 rfl 0 rfl ?_
  refine j_iload_n C dX0_mark_1 rfl 2 rfl ?_
  refine j_iconst (v := 0) C dX0_mark_2 (by decide) ?_
  refine j_callS C [.int (nI bx), .int 0] [.ref (ad 12)] mlX0_77 mcJ9_max_7cf53 (c_maxn_1 S bx 0 (by omega) (by omega) (by omega)) (M.rm (by decide) (by decide) (Nat.le_of_ble_eq_true rfl) (Nat.le_of_ble_eq_true rfl)) rfl rfl (Nat.le_of_ble_eq_true rfl) dX0_mark_3 (fun r_1 S_2 hp_3 => ?_)
  obtain ⟨rfl, e_4⟩ := hp_3
  refine J.eq (S' := S) (st' := [.int (nI bx), .ref (ad 12)]) (lv' := [(0, .ref (ad 12)), (1, .ref (ad 27)), (2, .int (nI bx)), (3, .int (nI bY)), (4, .int (nI bw)), (5, .int (nI bh))]) e_4 rfl rfl ?_
  refine j_puti (f := 6) C flX0_83 (by decide) rfl rfl dX0_mark_6 (wm_12 (S := S) hW) (wk_12 (S := S) hW) rfl ?_
  refine j_aload_n C dX0_mark_9 rfl 0 rfl ?_
  refine j_iload_n C dX0_mark_10 rfl 2 rfl ?_
  refine j_iload C dX0_mark_11 4 rfl ?_
  show J _ _ _ _ _ 13 _
  refine j_iadd (v := nI (bx + bw)) C dX0_mark_13 (nI_add bx bw) ?_
  refine j_aload_n C dX0_mark_14 rfl 1 rfl ?_
  refine j_callV (ci := 7) C [] [.int (nI (bx + bw)), .ref (ad 12)] mlX0_86 mcX7_dotsAcross (c_across0 (sI S 6 (ad 12) (nI bx)) (ad 27) (wm_27 (S := S) hW) (wk_27 (S := S) hW) (rd_sIf (S := S) (g := 6) (a := (ad 12)) (v := nI bx) (by decide) hI_700_ad27) (rd_sIf (S := S) (g := 6) (a := (ad 12)) (v := nI bx) (by decide) hI_701_ad27)) (wm_27 (S := S) hW) (wk_27 (S := S) hW) rfl (M.rm (by decide) (by decide) (Nat.le_of_ble_eq_true rfl) (Nat.le_of_ble_eq_true rfl)) rfl rfl (Nat.le_of_ble_eq_true rfl) dX0_mark_15 (fun r_5 S_6 hp_7 => ?_)
  obtain ⟨rfl, e_8⟩ := hp_7
  refine J.eq (S' := (sI S 6 (ad 12) (nI bx))) (st' := [.int 200, .int (nI (bx + bw)), .ref (ad 12)]) (lv' := [(0, .ref (ad 12)), (1, .ref (ad 27)), (2, .int (nI bx)), (3, .int (nI bY)), (4, .int (nI bw)), (5, .int (nI bh))]) e_8 rfl rfl ?_
  refine j_callS C [.int (nI (bx + bw)), .int 200] [.ref (ad 12)] mlX0_92 mcJ9_min_7cf53 (c_minn_1 (sI S 6 (ad 12) (nI bx)) (bx + bw) 200 (by omega) (by omega) (by omega)) (M.rm (by decide) (by decide) (Nat.le_of_ble_eq_true rfl) (Nat.le_of_ble_eq_true rfl)) rfl rfl (Nat.le_of_ble_eq_true rfl) dX0_mark_18 (fun r_9 S_10 hp_11 => ?_)
  obtain ⟨rfl, e_12⟩ := hp_11
  refine J.eq (S' := (sI S 6 (ad 12) (nI bx))) (st' := [.int (nI (bx + bw)), .ref (ad 12)]) (lv' := [(0, .ref (ad 12)), (1, .ref (ad 27)), (2, .int (nI bx)), (3, .int (nI bY)), (4, .int (nI bw)), (5, .int (nI bh))]) e_12 rfl rfl ?_
  refine j_puti (f := 7) C flX0_95 (by decide) rfl rfl dX0_mark_21 (wm_12 (S := S) hW) (wk_12 (S := S) hW) rfl ?_
  refine j_aload_n C dX0_mark_24 rfl 0 rfl ?_
  refine j_iload_n C dX0_mark_25 rfl 3 rfl ?_
  refine j_iconst (v := 0) C dX0_mark_26 (by decide) ?_
  show J _ _ _ _ _ 27 _
  refine j_callS C [.int (nI bY), .int 0] [.ref (ad 12)] mlX0_77 mcJ9_max_7cf53 (c_maxn_1 (sI (sI S 6 (ad 12) (nI bx)) 7 (ad 12) (nI (bx + bw))) bY 0 (by omega) (by omega) (by omega)) (M.rm (by decide) (by decide) (Nat.le_of_ble_eq_true rfl) (Nat.le_of_ble_eq_true rfl)) rfl rfl (Nat.le_of_ble_eq_true rfl) dX0_mark_27 (fun r_13 S_14 hp_15 => ?_)
  obtain ⟨rfl, e_16⟩ := hp_15
  refine J.eq (S' := (sI (sI S 6 (ad 12) (nI bx)) 7 (ad 12) (nI (bx + bw)))) (st' := [.int (nI bY), .ref (ad 12)]) (lv' := [(0, .ref (ad 12)), (1, .ref (ad 27)), (2, .int (nI bx)), (3, .int (nI bY)), (4, .int (nI bw)), (5, .int (nI bh))]) e_16 rfl rfl ?_
  refine j_puti (f := 8) C flX0_98 (by decide) rfl rfl dX0_mark_30 (wm_12 (S := S) hW) (wk_12 (S := S) hW) rfl ?_
  refine j_aload_n C dX0_mark_33 rfl 0 rfl ?_
  refine j_iload_n C dX0_mark_34 rfl 3 rfl ?_
  refine j_iload C dX0_mark_35 5 rfl ?_
  refine j_iadd (v := nI (bY + bh)) C dX0_mark_37 (nI_add bY bh) ?_
  refine j_aload_n C dX0_mark_38 rfl 1 rfl ?_
  refine j_callV (ci := 7) C [] [.int (nI (bY + bh)), .ref (ad 12)] mlX0_101 mcX7_dotsDown (c_down0 (sI (sI (sI S 6 (ad 12) (nI bx)) 7 (ad 12) (nI (bx + bw))) 8 (ad 12) (nI bY)) (ad 27) (wm_27 (S := S) hW) (wk_27 (S := S) hW) (rd_sIf (S := (sI (sI S 6 (ad 12) (nI bx)) 7 (ad 12) (nI (bx + bw)))) (g := 8) (a := (ad 12)) (v := nI bY) (by decide) (rd_sIf (S := (sI S 6 (ad 12) (nI bx))) (g := 7) (a := (ad 12)) (v := nI (bx + bw)) (by decide) (rd_sIf (S := S) (g := 6) (a := (ad 12)) (v := nI bx) (by decide) hI_700_ad27))) (rd_sIf (S := (sI (sI S 6 (ad 12) (nI bx)) 7 (ad 12) (nI (bx + bw)))) (g := 8) (a := (ad 12)) (v := nI bY) (by decide) (rd_sIf (S := (sI S 6 (ad 12) (nI bx))) (g := 7) (a := (ad 12)) (v := nI (bx + bw)) (by decide) (rd_sIf (S := S) (g := 6) (a := (ad 12)) (v := nI bx) (by decide) hI_701_ad27)))) (wm_27 (S := S) hW) (wk_27 (S := S) hW) rfl (M.rm (by decide) (by decide) (Nat.le_of_ble_eq_true rfl) (Nat.le_of_ble_eq_true rfl)) rfl rfl (Nat.le_of_ble_eq_true rfl) dX0_mark_39 (fun r_17 S_18 hp_19 => ?_)
  obtain ⟨rfl, e_20⟩ := hp_19
  refine J.eq (S' := (sI (sI (sI S 6 (ad 12) (nI bx)) 7 (ad 12) (nI (bx + bw))) 8 (ad 12) (nI bY))) (st' := [.int 240, .int (nI (bY + bh)), .ref (ad 12)]) (lv' := [(0, .ref (ad 12)), (1, .ref (ad 27)), (2, .int (nI bx)), (3, .int (nI bY)), (4, .int (nI bw)), (5, .int (nI bh))]) e_20 rfl rfl ?_
  show J _ _ _ _ _ 42 _
  refine j_callS C [.int (nI (bY + bh)), .int 240] [.ref (ad 12)] mlX0_92 mcJ9_min_7cf53 (c_minn_1 (sI (sI (sI S 6 (ad 12) (nI bx)) 7 (ad 12) (nI (bx + bw))) 8 (ad 12) (nI bY)) (bY + bh) 240 (by omega) (by omega) (by omega)) (M.rm (by decide) (by decide) (Nat.le_of_ble_eq_true rfl) (Nat.le_of_ble_eq_true rfl)) rfl rfl (Nat.le_of_ble_eq_true rfl) dX0_mark_42 (fun r_21 S_22 hp_23 => ?_)
  obtain ⟨rfl, e_24⟩ := hp_23
  refine J.eq (S' := (sI (sI (sI S 6 (ad 12) (nI bx)) 7 (ad 12) (nI (bx + bw))) 8 (ad 12) (nI bY))) (st' := [.int (nI (bY + bh)), .ref (ad 12)]) (lv' := [(0, .ref (ad 12)), (1, .ref (ad 27)), (2, .int (nI bx)), (3, .int (nI bY)), (4, .int (nI bw)), (5, .int (nI bh))]) e_24 rfl rfl ?_
  refine j_puti (f := 9) C flX0_104 (by decide) rfl rfl dX0_mark_45 (wm_12 (S := S) hW) (wk_12 (S := S) hW) rfl ?_
  refine j_aload_n C dX0_mark_48 rfl 0 rfl ?_
  refine j_geti (f := 7) (v := nI (bx + bw)) C flX0_95 dX0_mark_49 (wm_12 (S := S) hW) (wk_12 (S := S) hW) (by decide) (by decide) rfl (rd_sIf (S := (sI (sI (sI S 6 (ad 12) (nI bx)) 7 (ad 12) (nI (bx + bw))) 8 (ad 12) (nI bY))) (g := 9) (a := (ad 12)) (v := nI (bY + bh)) (by decide) (rd_sIf (S := (sI (sI S 6 (ad 12) (nI bx)) 7 (ad 12) (nI (bx + bw)))) (g := 8) (a := (ad 12)) (v := nI bY) (by decide) (rd_sI (S := (sI S 6 (ad 12) (nI bx))) (g := 7) (a := (ad 12)) (v := nI (bx + bw))))) ?_
  refine j_aload_n C dX0_mark_52 rfl 0 rfl ?_
  refine j_geti (f := 6) (v := nI bx) C flX0_83 dX0_mark_53 (wm_12 (S := S) hW) (wk_12 (S := S) hW) (by decide) (by decide) rfl (rd_sIf (S := (sI (sI (sI S 6 (ad 12) (nI bx)) 7 (ad 12) (nI (bx + bw))) 8 (ad 12) (nI bY))) (g := 9) (a := (ad 12)) (v := nI (bY + bh)) (by decide) (rd_sIf (S := (sI (sI S 6 (ad 12) (nI bx)) 7 (ad 12) (nI (bx + bw)))) (g := 8) (a := (ad 12)) (v := nI bY) (by decide) (rd_sIf (S := (sI S 6 (ad 12) (nI bx))) (g := 7) (a := (ad 12)) (v := nI (bx + bw)) (by decide) (rd_sI (S := S) (g := 6) (a := (ad 12)) (v := nI bx))))) ?_
  refine j_isub (v := nI ((bx + bw) - bx)) C dX0_mark_56 (pk_sub (a := (bx + bw)) (b := bx) (by omega)) ?_
  refine j_iconst (v := 0) C dX0_mark_57 (by decide) ?_
  show J _ _ _ _ _ 58 _
  refine j_callS C [.int (nI ((bx + bw) - bx)), .int 0] [] mlX0_77 mcJ9_max_7cf53 (c_maxn_1 (sI (sI (sI (sI S 6 (ad 12) (nI bx)) 7 (ad 12) (nI (bx + bw))) 8 (ad 12) (nI bY)) 9 (ad 12) (nI (bY + bh))) ((bx + bw) - bx) 0 (by omega) (by omega) (by omega)) (M.rm (by decide) (by decide) (Nat.le_of_ble_eq_true rfl) (Nat.le_of_ble_eq_true rfl)) rfl rfl (Nat.le_of_ble_eq_true rfl) dX0_mark_58 (fun r_25 S_26 hp_27 => ?_)
  obtain ⟨rfl, e_28⟩ := hp_27
  refine J.eq (S' := (sI (sI (sI (sI S 6 (ad 12) (nI bx)) 7 (ad 12) (nI (bx + bw))) 8 (ad 12) (nI bY)) 9 (ad 12) (nI (bY + bh)))) (st' := [.int (nI ((bx + bw) - bx))]) (lv' := [(0, .ref (ad 12)), (1, .ref (ad 27)), (2, .int (nI bx)), (3, .int (nI bY)), (4, .int (nI bw)), (5, .int (nI bh))]) e_28 rfl rfl ?_
  refine J.eq (st' := .int (nI bw) :: []) rfl rfl (congrArg (fun z9 => Value.int z9 :: []) (congrArg nI (by omega))) ?_
  refine j_aload_n C dX0_mark_61 rfl 0 rfl ?_
  refine j_geti (f := 9) (v := nI (bY + bh)) C flX0_104 dX0_mark_62 (wm_12 (S := S) hW) (wk_12 (S := S) hW) (by decide) (by decide) rfl (rd_sI (S := (sI (sI (sI S 6 (ad 12) (nI bx)) 7 (ad 12) (nI (bx + bw))) 8 (ad 12) (nI bY))) (g := 9) (a := (ad 12)) (v := nI (bY + bh))) ?_
  refine j_aload_n C dX0_mark_65 rfl 0 rfl ?_
  refine j_geti (f := 8) (v := nI bY) C flX0_98 dX0_mark_66 (wm_12 (S := S) hW) (wk_12 (S := S) hW) (by decide) (by decide) rfl (rd_sIf (S := (sI (sI (sI S 6 (ad 12) (nI bx)) 7 (ad 12) (nI (bx + bw))) 8 (ad 12) (nI bY))) (g := 9) (a := (ad 12)) (v := nI (bY + bh)) (by decide) (rd_sI (S := (sI (sI S 6 (ad 12) (nI bx)) 7 (ad 12) (nI (bx + bw)))) (g := 8) (a := (ad 12)) (v := nI bY))) ?_
  refine j_isub (v := nI ((bY + bh) - bY)) C dX0_mark_69 (pk_sub (a := (bY + bh)) (b := bY) (by omega)) ?_
  refine j_iconst (v := 0) C dX0_mark_70 (by decide) ?_
  refine j_callS C [.int (nI ((bY + bh) - bY)), .int 0] [.int (nI bw)] mlX0_77 mcJ9_max_7cf53 (c_maxn_1 (sI (sI (sI (sI S 6 (ad 12) (nI bx)) 7 (ad 12) (nI (bx + bw))) 8 (ad 12) (nI bY)) 9 (ad 12) (nI (bY + bh))) ((bY + bh) - bY) 0 (by omega) (by omega) (by omega)) (M.rm (by decide) (by decide) (Nat.le_of_ble_eq_true rfl) (Nat.le_of_ble_eq_true rfl)) rfl rfl (Nat.le_of_ble_eq_true rfl) dX0_mark_71 (fun r_29 S_30 hp_31 => ?_)
  obtain ⟨rfl, e_32⟩ := hp_31
  refine J.eq (S' := (sI (sI (sI (sI S 6 (ad 12) (nI bx)) 7 (ad 12) (nI (bx + bw))) 8 (ad 12) (nI bY)) 9 (ad 12) (nI (bY + bh)))) (st' := [.int (nI ((bY + bh) - bY)), .int (nI bw)]) (lv' := [(0, .ref (ad 12)), (1, .ref (ad 27)), (2, .int (nI bx)), (3, .int (nI bY)), (4, .int (nI bw)), (5, .int (nI bh))]) e_32 rfl rfl ?_
  show J _ _ _ _ _ 74 _
  refine J.eq (st' := .int (nI bh) :: [.int (nI bw)]) rfl rfl (congrArg (fun z9 => Value.int z9 :: [.int (nI bw)]) (congrArg nI (by omega))) ?_
  refine j_imul (v := nI (bw * bh)) C dX0_mark_74 (pk_mul bw bh) ?_
  refine j_istore (lv' := [(6, .int (nI (bw * bh))), (0, .ref (ad 12)), (1, .ref (ad 27)), (2, .int (nI bx)), (3, .int (nI bY)), (4, .int (nI bw)), (5, .int (nI bh))]) C dX0_mark_75 (by rw [hn9]; decide) rfl ?_
  refine j_aload_n C dX0_mark_77 rfl 1 rfl ?_
  refine j_geti (f := 4) (v := nI cv) C flX0_29 dX0_mark_78 (wm_12 (S := S) hW) (wk_12 (S := S) hW) (by decide) (by decide) rfl (rd_sIf (S := (sI (sI (sI S 6 (ad 12) (nI bx)) 7 (ad 12) (nI (bx + bw))) 8 (ad 12) (nI bY))) (g := 9) (a := (ad 12)) (v := nI (bY + bh)) (by decide) (rd_sIf (S := (sI (sI S 6 (ad 12) (nI bx)) 7 (ad 12) (nI (bx + bw)))) (g := 8) (a := (ad 12)) (v := nI bY) (by decide) (rd_sIf (S := (sI S 6 (ad 12) (nI bx))) (g := 7) (a := (ad 12)) (v := nI (bx + bw)) (by decide) (rd_sIf (S := S) (g := 6) (a := (ad 12)) (v := nI bx) (by decide) hI_4_ad12)))) ?_
  refine j_iload C dX0_mark_81 0 rfl ?_
  refine j_iadd (v := nI (cv + (bw * bh))) C dX0_mark_83 (nI_add cv (bw * bh)) ?_
  refine j_ldc (v := 5000000) C dX0_mark_84 kcX0_107 ?_
  refine j_ic_le (tgt := 96) C dX0_mark_86 (by decide) (fun c_86 => ?_) (fun c_86 => absurd (nI_le (b := 5000000) hc (by decide)) c_86)
  show J _ _ _ _ _ 96 _
  refine j_aload_n C dX0_mark_96 rfl 1 rfl ?_
  refine j_dup C dX0_mark_97 rfl ?_
  refine j_geti (f := 4) (v := nI cv) C flX0_29 dX0_mark_98 (wm_12 (S := S) hW) (wk_12 (S := S) hW) (by decide) (by decide) rfl (rd_sIf (S := (sI (sI (sI S 6 (ad 12) (nI bx)) 7 (ad 12) (nI (bx + bw))) 8 (ad 12) (nI bY))) (g := 9) (a := (ad 12)) (v := nI (bY + bh)) (by decide) (rd_sIf (S := (sI (sI S 6 (ad 12) (nI bx)) 7 (ad 12) (nI (bx + bw)))) (g := 8) (a := (ad 12)) (v := nI bY) (by decide) (rd_sIf (S := (sI S 6 (ad 12) (nI bx))) (g := 7) (a := (ad 12)) (v := nI (bx + bw)) (by decide) (rd_sIf (S := S) (g := 6) (a := (ad 12)) (v := nI bx) (by decide) hI_4_ad12)))) ?_
  refine j_iload C dX0_mark_101 0 rfl ?_
  refine j_iadd (v := nI (cv + (bw * bh))) C dX0_mark_103 (nI_add cv (bw * bh)) ?_
  refine j_puti (f := 4) C flX0_29 (by decide) rfl rfl dX0_mark_104 (wm_12 (S := S) hW) (wk_12 (S := S) hW) rfl ?_
  refine j_aload_n C dX0_mark_107 rfl 1 rfl ?_
  refine j_dup C dX0_mark_108 rfl ?_
  show J _ _ _ _ _ 109 _
  refine j_geti (f := 3) (v := nI mk) C flX0_25 dX0_mark_109 (wm_12 (S := S) hW) (wk_12 (S := S) hW) (by decide) (by decide) rfl (rd_sIf (S := (sI (sI (sI (sI S 6 (ad 12) (nI bx)) 7 (ad 12) (nI (bx + bw))) 8 (ad 12) (nI bY)) 9 (ad 12) (nI (bY + bh)))) (g := 4) (a := (ad 12)) (v := nI (cv + (bw * bh))) (by decide) (rd_sIf (S := (sI (sI (sI S 6 (ad 12) (nI bx)) 7 (ad 12) (nI (bx + bw))) 8 (ad 12) (nI bY))) (g := 9) (a := (ad 12)) (v := nI (bY + bh)) (by decide) (rd_sIf (S := (sI (sI S 6 (ad 12) (nI bx)) 7 (ad 12) (nI (bx + bw)))) (g := 8) (a := (ad 12)) (v := nI bY) (by decide) (rd_sIf (S := (sI S 6 (ad 12) (nI bx))) (g := 7) (a := (ad 12)) (v := nI (bx + bw)) (by decide) (rd_sIf (S := S) (g := 6) (a := (ad 12)) (v := nI bx) (by decide) hI_3_ad12))))) ?_
  refine j_iconst (v := 1) C dX0_mark_112 (by decide) ?_
  refine j_iadd (v := nI (mk + 1)) C dX0_mark_113 (nI_add mk 1) ?_
  refine j_puti (f := 3) C flX0_25 (by decide) rfl rfl dX0_mark_114 (wm_12 (S := S) hW) (wk_12 (S := S) hW) rfl ?_
  refine j_aload_n C dX0_mark_117 rfl 1 rfl ?_
  refine j_dup C dX0_mark_118 rfl ?_
  refine j_geti (f := 2) (v := nI mk) C flX0_39 dX0_mark_119 (wm_12 (S := S) hW) (wk_12 (S := S) hW) (by decide) (by decide) rfl (rd_sIf (S := (sI (sI (sI (sI (sI S 6 (ad 12) (nI bx)) 7 (ad 12) (nI (bx + bw))) 8 (ad 12) (nI bY)) 9 (ad 12) (nI (bY + bh))) 4 (ad 12) (nI (cv + (bw * bh))))) (g := 3) (a := (ad 12)) (v := nI (mk + 1)) (by decide) (rd_sIf (S := (sI (sI (sI (sI S 6 (ad 12) (nI bx)) 7 (ad 12) (nI (bx + bw))) 8 (ad 12) (nI bY)) 9 (ad 12) (nI (bY + bh)))) (g := 4) (a := (ad 12)) (v := nI (cv + (bw * bh))) (by decide) (rd_sIf (S := (sI (sI (sI S 6 (ad 12) (nI bx)) 7 (ad 12) (nI (bx + bw))) 8 (ad 12) (nI bY))) (g := 9) (a := (ad 12)) (v := nI (bY + bh)) (by decide) (rd_sIf (S := (sI (sI S 6 (ad 12) (nI bx)) 7 (ad 12) (nI (bx + bw)))) (g := 8) (a := (ad 12)) (v := nI bY) (by decide) (rd_sIf (S := (sI S 6 (ad 12) (nI bx))) (g := 7) (a := (ad 12)) (v := nI (bx + bw)) (by decide) (rd_sIf (S := S) (g := 6) (a := (ad 12)) (v := nI bx) (by decide) hI_2_ad12)))))) ?_
  refine j_iconst (v := 1) C dX0_mark_122 (by decide) ?_
  show J _ _ _ _ _ 123 _
  refine j_iadd (v := nI (mk + 1)) C dX0_mark_123 (nI_add mk 1) ?_
  refine j_puti (f := 2) C flX0_39 (by decide) rfl rfl dX0_mark_124 (wm_12 (S := S) hW) (wk_12 (S := S) hW) rfl ?_
  obtain ⟨S_33, eS_34⟩ : ∃ S9 : Hp, S9 = (sI (sI (sI (sI (sI (sI (sI S 6 (ad 12) (nI bx)) 7 (ad 12) (nI (bx + bw))) 8 (ad 12) (nI bY)) 9 (ad 12) (nI (bY + bh))) 4 (ad 12) (nI (cv + (bw * bh)))) 3 (ad 12) (nI (mk + 1))) 2 (ad 12) (nI (mk + 1))) := ⟨_, rfl⟩
  refine J.eq (S' := S_33) eS_34.symm rfl rfl ?_
  have hv_35 : hI S_33 2 (ad 12) = nI (mk + 1) := by rw [eS_34]; exact (rd_sI (S := (sI (sI (sI (sI (sI (sI S 6 (ad 12) (nI bx)) 7 (ad 12) (nI (bx + bw))) 8 (ad 12) (nI bY)) 9 (ad 12) (nI (bY + bh))) 4 (ad 12) (nI (cv + (bw * bh)))) 3 (ad 12) (nI (mk + 1)))) (g := 2) (a := (ad 12)) (v := nI (mk + 1)))
  have hv_36 : hI S_33 3 (ad 12) = nI (mk + 1) := by rw [eS_34]; exact (rd_sIf (S := (sI (sI (sI (sI (sI (sI S 6 (ad 12) (nI bx)) 7 (ad 12) (nI (bx + bw))) 8 (ad 12) (nI bY)) 9 (ad 12) (nI (bY + bh))) 4 (ad 12) (nI (cv + (bw * bh)))) 3 (ad 12) (nI (mk + 1)))) (g := 2) (a := (ad 12)) (v := nI (mk + 1)) (by decide) (rd_sI (S := (sI (sI (sI (sI (sI S 6 (ad 12) (nI bx)) 7 (ad 12) (nI (bx + bw))) 8 (ad 12) (nI bY)) 9 (ad 12) (nI (bY + bh))) 4 (ad 12) (nI (cv + (bw * bh))))) (g := 3) (a := (ad 12)) (v := nI (mk + 1))))
  have hv_37 : hI S_33 4 (ad 12) = nI (cv + (bw * bh)) := by rw [eS_34]; exact (rd_sIf (S := (sI (sI (sI (sI (sI (sI S 6 (ad 12) (nI bx)) 7 (ad 12) (nI (bx + bw))) 8 (ad 12) (nI bY)) 9 (ad 12) (nI (bY + bh))) 4 (ad 12) (nI (cv + (bw * bh)))) 3 (ad 12) (nI (mk + 1)))) (g := 2) (a := (ad 12)) (v := nI (mk + 1)) (by decide) (rd_sIf (S := (sI (sI (sI (sI (sI S 6 (ad 12) (nI bx)) 7 (ad 12) (nI (bx + bw))) 8 (ad 12) (nI bY)) 9 (ad 12) (nI (bY + bh))) 4 (ad 12) (nI (cv + (bw * bh))))) (g := 3) (a := (ad 12)) (v := nI (mk + 1)) (by decide) (rd_sI (S := (sI (sI (sI (sI S 6 (ad 12) (nI bx)) 7 (ad 12) (nI (bx + bw))) 8 (ad 12) (nI bY)) 9 (ad 12) (nI (bY + bh)))) (g := 4) (a := (ad 12)) (v := nI (cv + (bw * bh))))))
  have hv_38 : hI S_33 6 (ad 12) = nI bx := by rw [eS_34]; exact (rd_sIf (S := (sI (sI (sI (sI (sI (sI S 6 (ad 12) (nI bx)) 7 (ad 12) (nI (bx + bw))) 8 (ad 12) (nI bY)) 9 (ad 12) (nI (bY + bh))) 4 (ad 12) (nI (cv + (bw * bh)))) 3 (ad 12) (nI (mk + 1)))) (g := 2) (a := (ad 12)) (v := nI (mk + 1)) (by decide) (rd_sIf (S := (sI (sI (sI (sI (sI S 6 (ad 12) (nI bx)) 7 (ad 12) (nI (bx + bw))) 8 (ad 12) (nI bY)) 9 (ad 12) (nI (bY + bh))) 4 (ad 12) (nI (cv + (bw * bh))))) (g := 3) (a := (ad 12)) (v := nI (mk + 1)) (by decide) (rd_sIf (S := (sI (sI (sI (sI S 6 (ad 12) (nI bx)) 7 (ad 12) (nI (bx + bw))) 8 (ad 12) (nI bY)) 9 (ad 12) (nI (bY + bh)))) (g := 4) (a := (ad 12)) (v := nI (cv + (bw * bh))) (by decide) (rd_sIf (S := (sI (sI (sI S 6 (ad 12) (nI bx)) 7 (ad 12) (nI (bx + bw))) 8 (ad 12) (nI bY))) (g := 9) (a := (ad 12)) (v := nI (bY + bh)) (by decide) (rd_sIf (S := (sI (sI S 6 (ad 12) (nI bx)) 7 (ad 12) (nI (bx + bw)))) (g := 8) (a := (ad 12)) (v := nI bY) (by decide) (rd_sIf (S := (sI S 6 (ad 12) (nI bx))) (g := 7) (a := (ad 12)) (v := nI (bx + bw)) (by decide) (rd_sI (S := S) (g := 6) (a := (ad 12)) (v := nI bx))))))))
  have hv_39 : hI S_33 7 (ad 12) = nI (bx + bw) := by rw [eS_34]; exact (rd_sIf (S := (sI (sI (sI (sI (sI (sI S 6 (ad 12) (nI bx)) 7 (ad 12) (nI (bx + bw))) 8 (ad 12) (nI bY)) 9 (ad 12) (nI (bY + bh))) 4 (ad 12) (nI (cv + (bw * bh)))) 3 (ad 12) (nI (mk + 1)))) (g := 2) (a := (ad 12)) (v := nI (mk + 1)) (by decide) (rd_sIf (S := (sI (sI (sI (sI (sI S 6 (ad 12) (nI bx)) 7 (ad 12) (nI (bx + bw))) 8 (ad 12) (nI bY)) 9 (ad 12) (nI (bY + bh))) 4 (ad 12) (nI (cv + (bw * bh))))) (g := 3) (a := (ad 12)) (v := nI (mk + 1)) (by decide) (rd_sIf (S := (sI (sI (sI (sI S 6 (ad 12) (nI bx)) 7 (ad 12) (nI (bx + bw))) 8 (ad 12) (nI bY)) 9 (ad 12) (nI (bY + bh)))) (g := 4) (a := (ad 12)) (v := nI (cv + (bw * bh))) (by decide) (rd_sIf (S := (sI (sI (sI S 6 (ad 12) (nI bx)) 7 (ad 12) (nI (bx + bw))) 8 (ad 12) (nI bY))) (g := 9) (a := (ad 12)) (v := nI (bY + bh)) (by decide) (rd_sIf (S := (sI (sI S 6 (ad 12) (nI bx)) 7 (ad 12) (nI (bx + bw)))) (g := 8) (a := (ad 12)) (v := nI bY) (by decide) (rd_sI (S := (sI S 6 (ad 12) (nI bx))) (g := 7) (a := (ad 12)) (v := nI (bx + bw))))))))
  have hv_40 : hI S_33 700 (ad 27) = 0 := by rw [eS_34]; exact (rd_sIf (S := (sI (sI (sI (sI (sI (sI S 6 (ad 12) (nI bx)) 7 (ad 12) (nI (bx + bw))) 8 (ad 12) (nI bY)) 9 (ad 12) (nI (bY + bh))) 4 (ad 12) (nI (cv + (bw * bh)))) 3 (ad 12) (nI (mk + 1)))) (g := 2) (a := (ad 12)) (v := nI (mk + 1)) (by decide) (rd_sIf (S := (sI (sI (sI (sI (sI S 6 (ad 12) (nI bx)) 7 (ad 12) (nI (bx + bw))) 8 (ad 12) (nI bY)) 9 (ad 12) (nI (bY + bh))) 4 (ad 12) (nI (cv + (bw * bh))))) (g := 3) (a := (ad 12)) (v := nI (mk + 1)) (by decide) (rd_sIf (S := (sI (sI (sI (sI S 6 (ad 12) (nI bx)) 7 (ad 12) (nI (bx + bw))) 8 (ad 12) (nI bY)) 9 (ad 12) (nI (bY + bh)))) (g := 4) (a := (ad 12)) (v := nI (cv + (bw * bh))) (by decide) (rd_sIf (S := (sI (sI (sI S 6 (ad 12) (nI bx)) 7 (ad 12) (nI (bx + bw))) 8 (ad 12) (nI bY))) (g := 9) (a := (ad 12)) (v := nI (bY + bh)) (by decide) (rd_sIf (S := (sI (sI S 6 (ad 12) (nI bx)) 7 (ad 12) (nI (bx + bw)))) (g := 8) (a := (ad 12)) (v := nI bY) (by decide) (rd_sIf (S := (sI S 6 (ad 12) (nI bx))) (g := 7) (a := (ad 12)) (v := nI (bx + bw)) (by decide) (rd_sIf (S := S) (g := 6) (a := (ad 12)) (v := nI bx) (by decide) hI_700_ad27)))))))
  have hv_41 : hI S_33 701 (ad 27) = 0 := by rw [eS_34]; exact (rd_sIf (S := (sI (sI (sI (sI (sI (sI S 6 (ad 12) (nI bx)) 7 (ad 12) (nI (bx + bw))) 8 (ad 12) (nI bY)) 9 (ad 12) (nI (bY + bh))) 4 (ad 12) (nI (cv + (bw * bh)))) 3 (ad 12) (nI (mk + 1)))) (g := 2) (a := (ad 12)) (v := nI (mk + 1)) (by decide) (rd_sIf (S := (sI (sI (sI (sI (sI S 6 (ad 12) (nI bx)) 7 (ad 12) (nI (bx + bw))) 8 (ad 12) (nI bY)) 9 (ad 12) (nI (bY + bh))) 4 (ad 12) (nI (cv + (bw * bh))))) (g := 3) (a := (ad 12)) (v := nI (mk + 1)) (by decide) (rd_sIf (S := (sI (sI (sI (sI S 6 (ad 12) (nI bx)) 7 (ad 12) (nI (bx + bw))) 8 (ad 12) (nI bY)) 9 (ad 12) (nI (bY + bh)))) (g := 4) (a := (ad 12)) (v := nI (cv + (bw * bh))) (by decide) (rd_sIf (S := (sI (sI (sI S 6 (ad 12) (nI bx)) 7 (ad 12) (nI (bx + bw))) 8 (ad 12) (nI bY))) (g := 9) (a := (ad 12)) (v := nI (bY + bh)) (by decide) (rd_sIf (S := (sI (sI S 6 (ad 12) (nI bx)) 7 (ad 12) (nI (bx + bw)))) (g := 8) (a := (ad 12)) (v := nI bY) (by decide) (rd_sIf (S := (sI S 6 (ad 12) (nI bx))) (g := 7) (a := (ad 12)) (v := nI (bx + bw)) (by decide) (rd_sIf (S := S) (g := 6) (a := (ad 12)) (v := nI bx) (by decide) hI_701_ad27)))))))
  have hv_42 : hI S_33 8 (ad 12) = nI bY := by rw [eS_34]; exact (rd_sIf (S := (sI (sI (sI (sI (sI (sI S 6 (ad 12) (nI bx)) 7 (ad 12) (nI (bx + bw))) 8 (ad 12) (nI bY)) 9 (ad 12) (nI (bY + bh))) 4 (ad 12) (nI (cv + (bw * bh)))) 3 (ad 12) (nI (mk + 1)))) (g := 2) (a := (ad 12)) (v := nI (mk + 1)) (by decide) (rd_sIf (S := (sI (sI (sI (sI (sI S 6 (ad 12) (nI bx)) 7 (ad 12) (nI (bx + bw))) 8 (ad 12) (nI bY)) 9 (ad 12) (nI (bY + bh))) 4 (ad 12) (nI (cv + (bw * bh))))) (g := 3) (a := (ad 12)) (v := nI (mk + 1)) (by decide) (rd_sIf (S := (sI (sI (sI (sI S 6 (ad 12) (nI bx)) 7 (ad 12) (nI (bx + bw))) 8 (ad 12) (nI bY)) 9 (ad 12) (nI (bY + bh)))) (g := 4) (a := (ad 12)) (v := nI (cv + (bw * bh))) (by decide) (rd_sIf (S := (sI (sI (sI S 6 (ad 12) (nI bx)) 7 (ad 12) (nI (bx + bw))) 8 (ad 12) (nI bY))) (g := 9) (a := (ad 12)) (v := nI (bY + bh)) (by decide) (rd_sI (S := (sI (sI S 6 (ad 12) (nI bx)) 7 (ad 12) (nI (bx + bw)))) (g := 8) (a := (ad 12)) (v := nI bY))))))
  have hv_43 : hI S_33 9 (ad 12) = nI (bY + bh) := by rw [eS_34]; exact (rd_sIf (S := (sI (sI (sI (sI (sI (sI S 6 (ad 12) (nI bx)) 7 (ad 12) (nI (bx + bw))) 8 (ad 12) (nI bY)) 9 (ad 12) (nI (bY + bh))) 4 (ad 12) (nI (cv + (bw * bh)))) 3 (ad 12) (nI (mk + 1)))) (g := 2) (a := (ad 12)) (v := nI (mk + 1)) (by decide) (rd_sIf (S := (sI (sI (sI (sI (sI S 6 (ad 12) (nI bx)) 7 (ad 12) (nI (bx + bw))) 8 (ad 12) (nI bY)) 9 (ad 12) (nI (bY + bh))) 4 (ad 12) (nI (cv + (bw * bh))))) (g := 3) (a := (ad 12)) (v := nI (mk + 1)) (by decide) (rd_sIf (S := (sI (sI (sI (sI S 6 (ad 12) (nI bx)) 7 (ad 12) (nI (bx + bw))) 8 (ad 12) (nI bY)) 9 (ad 12) (nI (bY + bh)))) (g := 4) (a := (ad 12)) (v := nI (cv + (bw * bh))) (by decide) (rd_sI (S := (sI (sI (sI S 6 (ad 12) (nI bx)) 7 (ad 12) (nI (bx + bw))) 8 (ad 12) (nI bY))) (g := 9) (a := (ad 12)) (v := nI (bY + bh))))))
  have hW_44 : Wd ad S_33 := by rw [eS_34]; exact (Wd.sI (Wd.sI (Wd.sI (Wd.sI (Wd.sI (Wd.sI (Wd.sI hW)))))))
  refine j_aload_n C dX0_mark_127 rfl 1 rfl ?_
  refine j_geti (f := 2) (v := nI (mk + 1)) C flX0_39 dX0_mark_128 (wm_12 (S := S_33) hW_44) (wk_12 (S := S_33) hW_44) (by decide) (by decide) rfl hv_35 ?_
  refine j_sipush (v := 2000) C dX0_mark_131 (by decide) ?_
  refine j_ic_le (tgt := 144) C dX0_mark_134 (by decide) (fun c_134 => ?_) (fun c_134 => absurd (nI_le (b := 2000) (by omega) (by decide)) c_134)
  refine j_iload C dX0_mark_144 0 rfl ?_
  refine j_if_le (tgt := 153) C dX0_mark_146 (by decide) (fun c_146 => absurd c_146 (nI_nle (Nat.mul_pos hw hh) (by omega))) (fun c_146 => ?_)
  show J _ _ _ _ _ 149 _
  refine j_iconst (v := 1) C dX0_mark_149 (by decide) ?_
  refine j_goto (tgt := 154) C dX0_mark_150 (by decide) ?_
  exact j_zret C M rfl dX0_mark_154 (Nat.le_of_ble_eq_true rfl) (Nat.le_of_ble_eq_true rfl) (by subst eS_34; exact ⟨rfl, rfl⟩)

theorem dX10_rowAt_0 : decode cX10_rowAt 0 = .ok (.iload_n 1, 1) := by decide +kernel
theorem dX10_rowAt_1 : decode cX10_rowAt 1 = .ok (.aload_n 0, 1) := by decide +kernel
theorem dX10_rowAt_2 : decode cX10_rowAt 2 = .ok (.getfield 13, 3) := by decide +kernel
theorem dX10_rowAt_5 : decode cX10_rowAt 5 = .ok (.iconst 1, 1) := by decide +kernel
theorem dX10_rowAt_6 : decode cX10_rowAt 6 = .ok (.invokestatic 36, 3) := by decide +kernel
theorem dX10_rowAt_9 : decode cX10_rowAt 9 = .ok (.invokestatic 54, 3) := by decide +kernel
theorem dX10_rowAt_12 : decode cX10_rowAt 12 = .ok (.istore_n 2, 1) := by decide +kernel
theorem dX10_rowAt_13 : decode cX10_rowAt 13 = .ok (.iload_n 2, 1) := by decide +kernel
theorem dX10_rowAt_14 : decode cX10_rowAt 14 = .ok (.aload_n 0, 1) := by decide +kernel
theorem dX10_rowAt_15 : decode cX10_rowAt 15 = .ok (.getfield 16, 3) := by decide +kernel
theorem dX10_rowAt_18 : decode cX10_rowAt 18 = .ok (.arraylength, 1) := by decide +kernel
theorem dX10_rowAt_19 : decode cX10_rowAt 19 = .ok (.if_icmp .ge 12, 3) := by decide +kernel
theorem dX10_rowAt_22 : decode cX10_rowAt 22 = .ok (.aload_n 0, 1) := by decide +kernel
theorem dX10_rowAt_23 : decode cX10_rowAt 23 = .ok (.getfield 16, 3) := by decide +kernel
theorem dX10_rowAt_26 : decode cX10_rowAt 26 = .ok (.iload_n 2, 1) := by decide +kernel
theorem dX10_rowAt_27 : decode cX10_rowAt 27 = .ok (.laload, 1) := by decide +kernel
theorem dX10_rowAt_28 : decode cX10_rowAt 28 = .ok (.goto 4, 3) := by decide +kernel
theorem dX10_rowAt_31 : decode cX10_rowAt 31 = .ok (.lconst 0, 1) := by decide +kernel
theorem dX10_rowAt_32 : decode cX10_rowAt 32 = .ok (.lreturn, 1) := by decide +kernel

set_option maxRecDepth 100000 in
set_option maxHeartbeats 4000000 in
theorem c_X10_rowAt (S : Hp) (t : Nat) (m_t : t ∈ hL S) (k_t : Kd S t 10) (q : Nat) (hR_1003_t : hR S 1003 t = some q) (m_q : q ∈ hL S) (k_q : Kd S q 15) (l_q : Ln S q 16) (a9 : Nat) (th : Nat) (hI_1001_t : hI S 1001 t = nI th) (h0 : 0 < th) (h1 : th ≤ 16) (ha : a9 < 2 ^ 30) : Ct 2 yX10_rowAt cX10_rowAt 3 (some .long) 0 0 [.ref t, .int (nI a9)] S (fun r S' => r = some (.long (aJ S q (a9 % th))) ∧ S' = S) := by
  refine ct_of (by decide) (Nat.le_of_ble_eq_true rfl) fun x hn9 C M hm9 => ?_
  have C : CB x RX10 cX10_rowAt := C
  refine J.eq (lv' := [(0, .ref t), (1, .int (nI a9))]) rfl rfl rfl ?_
  refine j_iload_n C dX10_rowAt_0 rfl 1 rfl ?_
  refine j_aload_n C dX10_rowAt_1 rfl 0 rfl ?_
  refine j_geti (f := 1001) (v := nI th) C flX10_13 dX10_rowAt_2 m_t k_t (by decide) (by decide) rfl hI_1001_t ?_
  refine j_iconst (v := 1) C dX10_rowAt_5 (by decide) ?_
  refine j_callS C [.int (nI th), .int 1] [.int (nI a9)] mlX10_36 mcJ9_max_7cf53 (c_maxn_1 S th 1 (by omega) (by omega) (by omega)) (M.rm (by decide) (by decide) (Nat.le_of_ble_eq_true rfl) (Nat.le_of_ble_eq_true rfl)) rfl rfl (Nat.le_of_ble_eq_true rfl) dX10_rowAt_6 (fun r_1 S_2 hp_3 => ?_)
  obtain ⟨rfl, e_4⟩ := hp_3
  refine J.eq (S' := S) (st' := [.int (nI th), .int (nI a9)]) (lv' := [(0, .ref t), (1, .int (nI a9))]) e_4 rfl rfl ?_
  refine j_callS C [.int (nI a9), .int (nI th)] [] mlX10_54 mcJ9_floorMod_7cf53 (c_fm S a9 th (by omega) (by omega) (by omega)) (M.rm (by decide) (by decide) (Nat.le_of_ble_eq_true rfl) (Nat.le_of_ble_eq_true rfl)) rfl rfl (Nat.le_of_ble_eq_true rfl) dX10_rowAt_9 (fun r_5 S_6 hp_7 => ?_)
  obtain ⟨rfl, e_8⟩ := hp_7
  refine J.eq (S' := S) (st' := [.int (nI (a9 % th))]) (lv' := [(0, .ref t), (1, .int (nI a9))]) e_8 rfl rfl ?_
  refine j_istore_n (lv' := [(2, .int (nI (a9 % th))), (0, .ref t), (1, .int (nI a9))]) C dX10_rowAt_12 rfl (by rw [hn9]; decide) rfl ?_
  refine j_iload_n C dX10_rowAt_13 rfl 0 rfl ?_
  show J _ _ _ _ _ 14 _
  refine j_aload_n C dX10_rowAt_14 rfl 1 rfl ?_
  refine j_getr (f := 1003) (v := q) C flX10_16 dX10_rowAt_15 m_t k_t (by decide) rfl hR_1003_t ?_
  refine j_alen (v := 16) C dX10_rowAt_18 m_q k_q (by decide) (by decide) (len_of (n := 16) l_q (by decide)) ?_
  refine j_ic_ge (tgt := 31) C dX10_rowAt_19 (by decide) (fun c_19 => absurd c_19 (nI_ge (b := 16) (by have := Nat.mod_lt a9 h0; omega) (by decide))) (fun c_19 => ?_)
  refine j_aload_n C dX10_rowAt_22 rfl 1 rfl ?_
  refine j_getr (f := 1003) (v := q) C flX10_16 dX10_rowAt_23 m_t k_t (by decide) rfl hR_1003_t ?_
  refine j_iload_n C dX10_rowAt_26 rfl 0 rfl ?_
  refine j_lald (j := (a9 % th)) (v := aJ S q (a9 % th)) C dX10_rowAt_27 m_q k_q (inr_of (n := 16) l_q (vp_in_nI (by have := Nat.mod_lt a9 h0; omega) (by decide))) (nI_clamp (by have := Nat.mod_lt a9 h0; omega)) rfl ?_
  show J _ _ _ _ _ 28 _
  refine j_goto (tgt := 32) C dX10_rowAt_28 (by decide) ?_
  exact j_lret C M dX10_rowAt_32 (Nat.le_of_ble_eq_true rfl) (Nat.le_of_ble_eq_true rfl) ⟨rfl, rfl⟩

theorem dX10_dotsFrom_0 : decode cX10_dotsFrom 0 = .ok (.lload_n 1, 1) := by decide +kernel
theorem dX10_dotsFrom_1 : decode cX10_dotsFrom 1 = .ok (.iload_n 3, 1) := by decide +kernel
theorem dX10_dotsFrom_2 : decode cX10_dotsFrom 2 = .ok (.aload_n 0, 1) := by decide +kernel
theorem dX10_dotsFrom_3 : decode cX10_dotsFrom 3 = .ok (.getfield 7, 3) := by decide +kernel
theorem dX10_dotsFrom_6 : decode cX10_dotsFrom 6 = .ok (.iconst 1, 1) := by decide +kernel
theorem dX10_dotsFrom_7 : decode cX10_dotsFrom 7 = .ok (.invokestatic 36, 3) := by decide +kernel
theorem dX10_dotsFrom_10 : decode cX10_dotsFrom 10 = .ok (.invokestatic 54, 3) := by decide +kernel
theorem dX10_dotsFrom_13 : decode cX10_dotsFrom 13 = .ok (.lshl, 1) := by decide +kernel
theorem dX10_dotsFrom_14 : decode cX10_dotsFrom 14 = .ok (.bipush 32, 2) := by decide +kernel
theorem dX10_dotsFrom_16 : decode cX10_dotsFrom 16 = .ok (.lushr, 1) := by decide +kernel
theorem dX10_dotsFrom_17 : decode cX10_dotsFrom 17 = .ok (.l2i, 1) := by decide +kernel
theorem dX10_dotsFrom_18 : decode cX10_dotsFrom 18 = .ok (.ireturn, 1) := by decide +kernel

set_option maxRecDepth 100000 in
set_option maxHeartbeats 4000000 in
theorem c_X10_dotsFrom (S : Hp) (t : Nat) (m_t : t ∈ hL S) (k_t : Kd S t 10) (rv : Int64) (a9 : Nat) (tw : Nat) (hI_1000_t : hI S 1000 t = nI tw) (h0 : 0 < tw) (h1 : tw ≤ 16) (ha : a9 < 2 ^ 30) (hz : a9 % tw = 0) : Ct 2 yX10_dotsFrom cX10_dotsFrom 4 (some .int) 0 0 [.ref t, .long rv, .int (nI a9)] S (fun r S' => r = some (.int (topW rv)) ∧ S' = S) := by
  refine ct_of (by decide) (Nat.le_of_ble_eq_true rfl) fun x hn9 C M hm9 => ?_
  have C : CB x RX10 cX10_dotsFrom := C
  refine J.eq (lv' := [(0, .ref t), (1, .long rv), (3, .int (nI a9))]) rfl rfl rfl ?_
  refine j_lload_n C dX10_dotsFrom_0 rfl 1 rfl ?_
  refine j_iload_n C dX10_dotsFrom_1 rfl 2 rfl ?_
  refine j_aload_n C dX10_dotsFrom_2 rfl 0 rfl ?_
  refine j_geti (f := 1000) (v := nI tw) C flX10_7 dX10_dotsFrom_3 m_t k_t (by decide) (by decide) rfl hI_1000_t ?_
  refine j_iconst (v := 1) C dX10_dotsFrom_6 (by decide) ?_
  refine j_callS C [.int (nI tw), .int 1] [.int (nI a9), .long rv] mlX10_36 mcJ9_max_7cf53 (c_maxn_1 S tw 1 (by omega) (by omega) (by omega)) (M.rm (by decide) (by decide) (Nat.le_of_ble_eq_true rfl) (Nat.le_of_ble_eq_true rfl)) rfl rfl (Nat.le_of_ble_eq_true rfl) dX10_dotsFrom_7 (fun r_1 S_2 hp_3 => ?_)
  obtain ⟨rfl, e_4⟩ := hp_3
  refine J.eq (S' := S) (st' := [.int (nI tw), .int (nI a9), .long rv]) (lv' := [(0, .ref t), (1, .long rv), (3, .int (nI a9))]) e_4 rfl rfl ?_
  refine j_callS C [.int (nI a9), .int (nI tw)] [.long rv] mlX10_54 mcJ9_floorMod_7cf53 (c_fm S a9 tw (by omega) (by omega) (by omega)) (M.rm (by decide) (by decide) (Nat.le_of_ble_eq_true rfl) (Nat.le_of_ble_eq_true rfl)) rfl rfl (Nat.le_of_ble_eq_true rfl) dX10_dotsFrom_10 (fun r_5 S_6 hp_7 => ?_)
  obtain ⟨rfl, e_8⟩ := hp_7
  refine J.eq (S' := S) (st' := [.int (nI (a9 % tw)), .long rv]) (lv' := [(0, .ref t), (1, .long rv), (3, .int (nI a9))]) e_8 rfl rfl ?_
  refine j_lshl (v := rv) C dX10_dotsFrom_13 (by rw [hz]; exact shl0 rv) ?_
  show J _ _ _ _ _ 14 _
  refine j_bipush (v := 32) C dX10_dotsFrom_14 (by decide) ?_
  refine j_lushr C dX10_dotsFrom_16 rfl ?_
  refine j_l2i (v := topW rv) C dX10_dotsFrom_17 rfl ?_
  exact j_iret C M dX10_dotsFrom_18 (Nat.le_of_ble_eq_true rfl) (Nat.le_of_ble_eq_true rfl) ⟨rfl, rfl⟩

theorem dX0_paintRow_0 : decode cX0_paintRow 0 = .ok (.aload_n 0, 1) := by decide +kernel
theorem dX0_paintRow_1 : decode cX0_paintRow 1 = .ok (.getfield 21, 3) := by decide +kernel
theorem dX0_paintRow_4 : decode cX0_paintRow 4 = .ok (.iload_n 1, 1) := by decide +kernel
theorem dX0_paintRow_5 : decode cX0_paintRow 5 = .ok (.aload_n 0, 1) := by decide +kernel
theorem dX0_paintRow_6 : decode cX0_paintRow 6 = .ok (.getfield 59, 3) := by decide +kernel
theorem dX0_paintRow_9 : decode cX0_paintRow 9 = .ok (.isub, 1) := by decide +kernel
theorem dX0_paintRow_10 : decode cX0_paintRow 10 = .ok (.invokevirtual 136, 3) := by decide +kernel
theorem dX0_paintRow_13 : decode cX0_paintRow 13 = .ok (.lstore_n 2, 1) := by decide +kernel
theorem dX0_paintRow_14 : decode cX0_paintRow 14 = .ok (.aload_n 0, 1) := by decide +kernel
theorem dX0_paintRow_15 : decode cX0_paintRow 15 = .ok (.getfield 83, 3) := by decide +kernel
theorem dX0_paintRow_18 : decode cX0_paintRow 18 = .ok (.iconst 5, 1) := by decide +kernel
theorem dX0_paintRow_19 : decode cX0_paintRow 19 = .ok (.ishr, 1) := by decide +kernel
theorem dX0_paintRow_20 : decode cX0_paintRow 20 = .ok (.istore 4, 2) := by decide +kernel
theorem dX0_paintRow_22 : decode cX0_paintRow 22 = .ok (.aload_n 0, 1) := by decide +kernel
theorem dX0_paintRow_23 : decode cX0_paintRow 23 = .ok (.getfield 95, 3) := by decide +kernel
theorem dX0_paintRow_26 : decode cX0_paintRow 26 = .ok (.iconst 1, 1) := by decide +kernel
theorem dX0_paintRow_27 : decode cX0_paintRow 27 = .ok (.isub, 1) := by decide +kernel
theorem dX0_paintRow_28 : decode cX0_paintRow 28 = .ok (.iconst 5, 1) := by decide +kernel
theorem dX0_paintRow_29 : decode cX0_paintRow 29 = .ok (.ishr, 1) := by decide +kernel
theorem dX0_paintRow_30 : decode cX0_paintRow 30 = .ok (.istore 5, 2) := by decide +kernel
theorem dX0_paintRow_32 : decode cX0_paintRow 32 = .ok (.iload_n 1, 1) := by decide +kernel
theorem dX0_paintRow_33 : decode cX0_paintRow 33 = .ok (.bipush 25, 2) := by decide +kernel
theorem dX0_paintRow_35 : decode cX0_paintRow 35 = .ok (.imul, 1) := by decide +kernel
theorem dX0_paintRow_36 : decode cX0_paintRow 36 = .ok (.istore 6, 2) := by decide +kernel
theorem dX0_paintRow_38 : decode cX0_paintRow 38 = .ok (.iload 4, 2) := by decide +kernel
theorem dX0_paintRow_40 : decode cX0_paintRow 40 = .ok (.ifCond .lt 31, 3) := by decide +kernel
theorem dX0_paintRow_43 : decode cX0_paintRow 43 = .ok (.iload 5, 2) := by decide +kernel
theorem dX0_paintRow_45 : decode cX0_paintRow 45 = .ok (.aload_n 0, 1) := by decide +kernel
theorem dX0_paintRow_46 : decode cX0_paintRow 46 = .ok (.getfield 15, 3) := by decide +kernel
theorem dX0_paintRow_49 : decode cX0_paintRow 49 = .ok (.arraylength, 1) := by decide +kernel
theorem dX0_paintRow_50 : decode cX0_paintRow 50 = .ok (.if_icmp .ge 21, 3) := by decide +kernel
theorem dX0_paintRow_53 : decode cX0_paintRow 53 = .ok (.iload 6, 2) := by decide +kernel
theorem dX0_paintRow_55 : decode cX0_paintRow 55 = .ok (.ifCond .lt 16, 3) := by decide +kernel
theorem dX0_paintRow_58 : decode cX0_paintRow 58 = .ok (.iload 6, 2) := by decide +kernel
theorem dX0_paintRow_60 : decode cX0_paintRow 60 = .ok (.iload 5, 2) := by decide +kernel
theorem dX0_paintRow_62 : decode cX0_paintRow 62 = .ok (.iadd, 1) := by decide +kernel
theorem dX0_paintRow_63 : decode cX0_paintRow 63 = .ok (.aload_n 0, 1) := by decide +kernel
theorem dX0_paintRow_64 : decode cX0_paintRow 64 = .ok (.getfield 11, 3) := by decide +kernel
theorem dX0_paintRow_67 : decode cX0_paintRow 67 = .ok (.arraylength, 1) := by decide +kernel
theorem dX0_paintRow_68 : decode cX0_paintRow 68 = .ok (.if_icmp .lt 4, 3) := by decide +kernel
theorem dX0_paintRow_71 : decode cX0_paintRow 71 = .ok (.return_, 1) := by decide +kernel
theorem dX0_paintRow_72 : decode cX0_paintRow 72 = .ok (.iload 4, 2) := by decide +kernel
theorem dX0_paintRow_74 : decode cX0_paintRow 74 = .ok (.istore 7, 2) := by decide +kernel
theorem dX0_paintRow_76 : decode cX0_paintRow 76 = .ok (.iload 7, 2) := by decide +kernel
theorem dX0_paintRow_78 : decode cX0_paintRow 78 = .ok (.iload 5, 2) := by decide +kernel
theorem dX0_paintRow_80 : decode cX0_paintRow 80 = .ok (.if_icmp .gt 119, 3) := by decide +kernel
theorem dX0_paintRow_83 : decode cX0_paintRow 83 = .ok (.iload 7, 2) := by decide +kernel
theorem dX0_paintRow_85 : decode cX0_paintRow 85 = .ok (.aload_n 0, 1) := by decide +kernel
theorem dX0_paintRow_86 : decode cX0_paintRow 86 = .ok (.getfield 83, 3) := by decide +kernel
theorem dX0_paintRow_89 : decode cX0_paintRow 89 = .ok (.aload_n 0, 1) := by decide +kernel
theorem dX0_paintRow_90 : decode cX0_paintRow 90 = .ok (.getfield 95, 3) := by decide +kernel
theorem dX0_paintRow_93 : decode cX0_paintRow 93 = .ok (.invokestatic 140, 3) := by decide +kernel
theorem dX0_paintRow_96 : decode cX0_paintRow 96 = .ok (.istore 8, 2) := by decide +kernel
theorem dX0_paintRow_98 : decode cX0_paintRow 98 = .ok (.aload_n 0, 1) := by decide +kernel
theorem dX0_paintRow_99 : decode cX0_paintRow 99 = .ok (.getfield 21, 3) := by decide +kernel
theorem dX0_paintRow_102 : decode cX0_paintRow 102 = .ok (.lload_n 2, 1) := by decide +kernel
theorem dX0_paintRow_103 : decode cX0_paintRow 103 = .ok (.bipush 32, 2) := by decide +kernel
theorem dX0_paintRow_105 : decode cX0_paintRow 105 = .ok (.iload 7, 2) := by decide +kernel
theorem dX0_paintRow_107 : decode cX0_paintRow 107 = .ok (.imul, 1) := by decide +kernel
theorem dX0_paintRow_108 : decode cX0_paintRow 108 = .ok (.aload_n 0, 1) := by decide +kernel
theorem dX0_paintRow_109 : decode cX0_paintRow 109 = .ok (.getfield 53, 3) := by decide +kernel
theorem dX0_paintRow_112 : decode cX0_paintRow 112 = .ok (.isub, 1) := by decide +kernel
theorem dX0_paintRow_113 : decode cX0_paintRow 113 = .ok (.invokevirtual 144, 3) := by decide +kernel
theorem dX0_paintRow_116 : decode cX0_paintRow 116 = .ok (.istore 9, 2) := by decide +kernel
theorem dX0_paintRow_118 : decode cX0_paintRow 118 = .ok (.aload_n 0, 1) := by decide +kernel
theorem dX0_paintRow_119 : decode cX0_paintRow 119 = .ok (.getfield 15, 3) := by decide +kernel
theorem dX0_paintRow_122 : decode cX0_paintRow 122 = .ok (.iload 7, 2) := by decide +kernel
theorem dX0_paintRow_124 : decode cX0_paintRow 124 = .ok (.iaload, 1) := by decide +kernel
theorem dX0_paintRow_125 : decode cX0_paintRow 125 = .ok (.istore 10, 2) := by decide +kernel
theorem dX0_paintRow_127 : decode cX0_paintRow 127 = .ok (.iload 10, 2) := by decide +kernel
theorem dX0_paintRow_129 : decode cX0_paintRow 129 = .ok (.iload 9, 2) := by decide +kernel
theorem dX0_paintRow_131 : decode cX0_paintRow 131 = .ok (.iand, 1) := by decide +kernel
theorem dX0_paintRow_132 : decode cX0_paintRow 132 = .ok (.istore 11, 2) := by decide +kernel
theorem dX0_paintRow_134 : decode cX0_paintRow 134 = .ok (.iload 10, 2) := by decide +kernel
theorem dX0_paintRow_136 : decode cX0_paintRow 136 = .ok (.iload 9, 2) := by decide +kernel
theorem dX0_paintRow_138 : decode cX0_paintRow 138 = .ok (.iconst (-1), 1) := by decide +kernel
theorem dX0_paintRow_139 : decode cX0_paintRow 139 = .ok (.ixor, 1) := by decide +kernel
theorem dX0_paintRow_140 : decode cX0_paintRow 140 = .ok (.iand, 1) := by decide +kernel
theorem dX0_paintRow_141 : decode cX0_paintRow 141 = .ok (.aload_n 0, 1) := by decide +kernel
theorem dX0_paintRow_142 : decode cX0_paintRow 142 = .ok (.getfield 74, 3) := by decide +kernel
theorem dX0_paintRow_145 : decode cX0_paintRow 145 = .ok (.iand, 1) := by decide +kernel
theorem dX0_paintRow_146 : decode cX0_paintRow 146 = .ok (.iload 10, 2) := by decide +kernel
theorem dX0_paintRow_148 : decode cX0_paintRow 148 = .ok (.iconst (-1), 1) := by decide +kernel
theorem dX0_paintRow_149 : decode cX0_paintRow 149 = .ok (.ixor, 1) := by decide +kernel
theorem dX0_paintRow_150 : decode cX0_paintRow 150 = .ok (.aload_n 0, 1) := by decide +kernel
theorem dX0_paintRow_151 : decode cX0_paintRow 151 = .ok (.getfield 65, 3) := by decide +kernel
theorem dX0_paintRow_154 : decode cX0_paintRow 154 = .ok (.iand, 1) := by decide +kernel
theorem dX0_paintRow_155 : decode cX0_paintRow 155 = .ok (.ior, 1) := by decide +kernel
theorem dX0_paintRow_156 : decode cX0_paintRow 156 = .ok (.istore 12, 2) := by decide +kernel
theorem dX0_paintRow_158 : decode cX0_paintRow 158 = .ok (.iload 6, 2) := by decide +kernel
theorem dX0_paintRow_160 : decode cX0_paintRow 160 = .ok (.iload 7, 2) := by decide +kernel
theorem dX0_paintRow_162 : decode cX0_paintRow 162 = .ok (.iadd, 1) := by decide +kernel
theorem dX0_paintRow_163 : decode cX0_paintRow 163 = .ok (.istore 13, 2) := by decide +kernel
theorem dX0_paintRow_165 : decode cX0_paintRow 165 = .ok (.aload_n 0, 1) := by decide +kernel
theorem dX0_paintRow_166 : decode cX0_paintRow 166 = .ok (.getfield 11, 3) := by decide +kernel
theorem dX0_paintRow_169 : decode cX0_paintRow 169 = .ok (.iload 13, 2) := by decide +kernel
theorem dX0_paintRow_171 : decode cX0_paintRow 171 = .ok (.aload_n 0, 1) := by decide +kernel
theorem dX0_paintRow_172 : decode cX0_paintRow 172 = .ok (.getfield 11, 3) := by decide +kernel
theorem dX0_paintRow_175 : decode cX0_paintRow 175 = .ok (.iload 13, 2) := by decide +kernel
theorem dX0_paintRow_177 : decode cX0_paintRow 177 = .ok (.iaload, 1) := by decide +kernel
theorem dX0_paintRow_178 : decode cX0_paintRow 178 = .ok (.iload 12, 2) := by decide +kernel
theorem dX0_paintRow_180 : decode cX0_paintRow 180 = .ok (.iload 8, 2) := by decide +kernel
theorem dX0_paintRow_182 : decode cX0_paintRow 182 = .ok (.iand, 1) := by decide +kernel
theorem dX0_paintRow_183 : decode cX0_paintRow 183 = .ok (.iconst (-1), 1) := by decide +kernel
theorem dX0_paintRow_184 : decode cX0_paintRow 184 = .ok (.ixor, 1) := by decide +kernel
theorem dX0_paintRow_185 : decode cX0_paintRow 185 = .ok (.iand, 1) := by decide +kernel
theorem dX0_paintRow_186 : decode cX0_paintRow 186 = .ok (.iload 11, 2) := by decide +kernel
theorem dX0_paintRow_188 : decode cX0_paintRow 188 = .ok (.iload 8, 2) := by decide +kernel
theorem dX0_paintRow_190 : decode cX0_paintRow 190 = .ok (.iand, 1) := by decide +kernel
theorem dX0_paintRow_191 : decode cX0_paintRow 191 = .ok (.ior, 1) := by decide +kernel
theorem dX0_paintRow_192 : decode cX0_paintRow 192 = .ok (.iastore, 1) := by decide +kernel
theorem dX0_paintRow_193 : decode cX0_paintRow 193 = .ok (.iinc 7 1, 3) := by decide +kernel
theorem dX0_paintRow_196 : decode cX0_paintRow 196 = .ok (.goto (-120), 3) := by decide +kernel
theorem dX0_paintRow_199 : decode cX0_paintRow 199 = .ok (.return_, 1) := by decide +kernel

set_option maxRecDepth 100000 in
set_option maxHeartbeats 4000000 in
theorem c_X0_paintRow (S : Hp) (ad : Nat → Nat) (hW : Wd ad S) (y9 : Nat) (fx : Nat) (tx : Nat) (tw : Nat) (th : Nat) (wo : Bool) (hI_6_ad12 : hI S 6 (ad 12) = nI fx) (hI_7_ad12 : hI S 7 (ad 12) = nI tx) (hI_11_ad12 : hI S 11 (ad 12) = 0) (hI_12_ad12 : hI S 12 (ad 12) = 0) (hI_13_ad12 : hI S 13 (ad 12) = 0) (hI_14_ad12 : hI S 14 (ad 12) = fI wo) (hR_10_ad12 : hR S 10 (ad 12) = some (ad 24)) (hI_1000_ad24 : hI S 1000 (ad 24) = nI tw) (hI_1001_ad24 : hI S 1001 (ad 24) = nI th) (hf : fx < tx) (ht : tx ≤ 800) (hy : y9 < 800) (hth : 0 < th ∧ th ≤ 16) (htw : tw = 1 ∨ tw = 4) (hl : ∀ j, j < 25 → aI S (ad 14) j = -1) : Ct 3 yX0_paintRow cX0_paintRow 14 none 0 0 [.ref (ad 12), .int (nI y9)] S (fun r S' => r = none ∧ S' = (rI S (ad 13) (pnt (aI S (ad 13)) (y9 * 25) fx tx (topW (aJ S (ad 25) (y9 % th))) wo ((tx - 1) / 32 + 1)))) := by
  refine ct_of (by decide) (Nat.le_of_ble_eq_true rfl) fun x hn9 C M hm9 => ?_
  have C : CB x RX0 cX0_paintRow := C
  refine J.eq (lv' := [(0, .ref (ad 12)), (1, .int (nI y9))]) rfl rfl rfl ?_
  obtain ⟨hth0, hth1⟩ := hth
  refine j_aload_n C dX0_paintRow_0 rfl 0 rfl ?_
  refine j_getr (f := 10) (v := (ad 24)) C flX0_21 dX0_paintRow_1 (wm_12 (S := S) hW) (wk_12 (S := S) hW) (by decide) rfl hR_10_ad12 ?_
  refine j_iload_n C dX0_paintRow_4 rfl 1 rfl ?_
  refine j_aload_n C dX0_paintRow_5 rfl 0 rfl ?_
  refine j_geti (f := 12) (v := 0) C flX0_59 dX0_paintRow_6 (wm_12 (S := S) hW) (wk_12 (S := S) hW) (by decide) (by decide) rfl hI_12_ad12 ?_
  refine j_isub (v := nI (y9 - 0)) C dX0_paintRow_9 (pk_sub (a := y9) (b := 0) (by omega)) ?_
  refine j_callV (ci := 10) C [.int (nI (y9 - 0))] [] mlX0_136 mcX10_rowAt (c_X10_rowAt S (ad 24) (wm_24 (S := S) hW) (wk_24 (S := S) hW) (ad 25) (wr_1003_24 (S := S) hW) (wm_25 (S := S) hW) (wk_25 (S := S) hW) (wl_25 (S := S) hW) (y9 - 0) th hI_1001_ad24 (by omega) (by omega) (by omega)) (wm_24 (S := S) hW) (wk_24 (S := S) hW) rfl (M.rm (by decide) (by decide) (Nat.le_of_ble_eq_true rfl) (Nat.le_of_ble_eq_true rfl)) rfl rfl (Nat.le_of_ble_eq_true rfl) dX0_paintRow_10 (fun r_1 S_2 hp_3 => ?_)
  obtain ⟨rfl, e_4⟩ := hp_3
  refine J.eq (S' := S) (st' := [.long (aJ S (ad 25) ((y9 - 0) % th))]) (lv' := [(0, .ref (ad 12)), (1, .int (nI y9))]) e_4 rfl rfl ?_
  refine j_lstore_n (lv' := [(2, .long (aJ S (ad 25) ((y9 - 0) % th))), (0, .ref (ad 12)), (1, .int (nI y9))]) C dX0_paintRow_13 rfl (by rw [hn9]; decide) rfl ?_
  show J _ _ _ _ _ 14 _
  refine j_aload_n C dX0_paintRow_14 rfl 1 rfl ?_
  refine j_geti (f := 6) (v := nI fx) C flX0_83 dX0_paintRow_15 (wm_12 (S := S) hW) (wk_12 (S := S) hW) (by decide) (by decide) rfl hI_6_ad12 ?_
  refine j_iconst (v := 5) C dX0_paintRow_18 (by decide) ?_
  refine j_ishr (v := nI (fx / 32)) C dX0_paintRow_19 (pk_shrN (by omega) _ 5 (by decide)) ?_
  refine j_istore (lv' := [(4, .int (nI (fx / 32))), (2, .long (aJ S (ad 25) ((y9 - 0) % th))), (0, .ref (ad 12)), (1, .int (nI y9))]) C dX0_paintRow_20 (by rw [hn9]; decide) rfl ?_
  refine j_aload_n C dX0_paintRow_22 rfl 2 rfl ?_
  refine j_geti (f := 7) (v := nI tx) C flX0_95 dX0_paintRow_23 (wm_12 (S := S) hW) (wk_12 (S := S) hW) (by decide) (by decide) rfl hI_7_ad12 ?_
  refine j_iconst (v := 1) C dX0_paintRow_26 (by decide) ?_
  show J _ _ _ _ _ 27 _
  refine j_isub (v := nI (tx - 1)) C dX0_paintRow_27 (pk_sub (a := tx) (b := 1) (by omega)) ?_
  refine j_iconst (v := 5) C dX0_paintRow_28 (by decide) ?_
  refine j_ishr (v := nI ((tx - 1) / 32)) C dX0_paintRow_29 (pk_shrN (by omega) _ 5 (by decide)) ?_
  refine j_istore (lv' := [(5, .int (nI ((tx - 1) / 32))), (4, .int (nI (fx / 32))), (2, .long (aJ S (ad 25) ((y9 - 0) % th))), (0, .ref (ad 12)), (1, .int (nI y9))]) C dX0_paintRow_30 (by rw [hn9]; decide) rfl ?_
  refine j_iload_n C dX0_paintRow_32 rfl 4 rfl ?_
  refine j_bipush (v := 25) C dX0_paintRow_33 (by decide) ?_
  refine j_imul (v := nI (y9 * 25)) C dX0_paintRow_35 (pk_mul y9 25) ?_
  refine j_istore (lv' := [(6, .int (nI (y9 * 25))), (5, .int (nI ((tx - 1) / 32))), (4, .int (nI (fx / 32))), (2, .long (aJ S (ad 25) ((y9 - 0) % th))), (0, .ref (ad 12)), (1, .int (nI y9))]) C dX0_paintRow_36 (by rw [hn9]; decide) rfl ?_
  show J _ _ _ _ _ 38 _
  refine j_iload C dX0_paintRow_38 2 rfl ?_
  refine j_if_lt (tgt := 71) C dX0_paintRow_40 (by decide) (fun c_40 => absurd c_40 (nI_pos (by omega))) (fun c_40 => ?_)
  refine j_iload C dX0_paintRow_43 1 rfl ?_
  refine j_aload_n C dX0_paintRow_45 rfl 4 rfl ?_
  refine j_getr (f := 1) (v := (ad 14)) C flX0_15 dX0_paintRow_46 (wm_12 (S := S) hW) (wk_12 (S := S) hW) (by decide) rfl (wr_1_12 (S := S) hW) ?_
  refine j_alen (v := 25) C dX0_paintRow_49 (wm_14 (S := S) hW) (wk_14 (S := S) hW) (by decide) (by decide) (len_of (n := 25) (wl_14 (S := S) hW) (by decide)) ?_
  refine j_ic_ge (tgt := 71) C dX0_paintRow_50 (by decide) (fun c_50 => absurd c_50 (nI_ge (b := 25) (by omega) (by decide))) (fun c_50 => ?_)
  refine j_iload C dX0_paintRow_53 0 rfl ?_
  show J _ _ _ _ _ 55 _
  refine j_if_lt (tgt := 71) C dX0_paintRow_55 (by decide) (fun c_55 => absurd c_55 (nI_pos (by omega))) (fun c_55 => ?_)
  refine j_iload C dX0_paintRow_58 0 rfl ?_
  refine j_iload C dX0_paintRow_60 1 rfl ?_
  refine j_iadd (v := nI ((y9 * 25) + ((tx - 1) / 32))) C dX0_paintRow_62 (nI_add (y9 * 25) ((tx - 1) / 32)) ?_
  refine j_aload_n C dX0_paintRow_63 rfl 4 rfl ?_
  refine j_getr (f := 0) (v := (ad 13)) C flX0_11 dX0_paintRow_64 (wm_12 (S := S) hW) (wk_12 (S := S) hW) (by decide) rfl (wr_0_12 (S := S) hW) ?_
  refine j_alen (v := 20000) C dX0_paintRow_67 (wm_13 (S := S) hW) (wk_13 (S := S) hW) (by decide) (by decide) (len_of (n := 20000) (wl_13 (S := S) hW) (by decide)) ?_
  refine j_ic_lt (tgt := 72) C dX0_paintRow_68 (by decide) (fun c_68 => ?_) (fun c_68 => absurd (nI_lt (b := 20000) (by omega) (by decide)) c_68)
  show J _ _ _ _ _ 72 _
  refine j_iload C dX0_paintRow_72 2 rfl ?_
  refine j_istore (lv' := [(7, .int (nI (fx / 32))), (6, .int (nI (y9 * 25))), (5, .int (nI ((tx - 1) / 32))), (4, .int (nI (fx / 32))), (2, .long (aJ S (ad 25) ((y9 - 0) % th))), (0, .ref (ad 12)), (1, .int (nI y9))]) C dX0_paintRow_74 (by rw [hn9]; decide) rfl ?_
  have loop_6 : ∀ (m9 q : Nat), q + m9 = ((tx - 1) / 32 + 1) → (fx / 32 ≤ q) → J x (0 + 0) (0 + 0) (rI S (ad 13) (pnt (aI S (ad 13)) (y9 * 25) fx tx (topW (aJ S (ad 25) (y9 % th))) wo q)) [(7, .int (nI q)), (6, .int (nI (y9 * 25))), (5, .int (nI ((tx - 1) / 32))), (4, .int (nI (fx / 32))), (2, .long (aJ S (ad 25) ((y9 - 0) % th))), (0, .ref (ad 12)), (1, .int (nI y9))] 76 [] := by
    intro m9
    induction m9 with
    | zero =>
      intro q  hi_7 hq
      refine j_iload C dX0_paintRow_76 0 rfl ?_
      refine j_iload C dX0_paintRow_78 2 rfl ?_
      refine j_ic_gt (tgt := 199) C dX0_paintRow_80 (by decide) (fun c_80 => ?_) (fun c_80 => absurd (nI_lt (by omega) (by omega)) c_80)
      exact j_vret C M dX0_paintRow_199 (Nat.le_of_ble_eq_true rfl) (Nat.le_of_ble_eq_true rfl) ⟨rfl, by rw [show q = (tx - 1) / 32 + 1 by omega]⟩
    | succ m9 ih_5 =>
      intro q  hi_7 hq
      refine j_iload C dX0_paintRow_76 0 rfl ?_
      refine j_iload C dX0_paintRow_78 2 rfl ?_
      refine j_ic_gt (tgt := 199) C dX0_paintRow_80 (by decide) (fun c_80 => absurd c_80 (nI_nlt (by omega) (by omega))) (fun c_80 => ?_)
      refine j_iload C dX0_paintRow_83 0 rfl ?_
      refine j_aload_n C dX0_paintRow_85 rfl 5 rfl ?_
      show J _ _ _ _ _ 86 _
      refine j_geti (f := 6) (v := nI fx) C flX0_83 dX0_paintRow_86 (wm_12 (S := S) hW) (wk_12 (S := S) hW) (by decide) (by decide) rfl hI_6_ad12 ?_
      refine j_aload_n C dX0_paintRow_89 rfl 5 rfl ?_
      refine j_geti (f := 7) (v := nI tx) C flX0_95 dX0_paintRow_90 (wm_12 (S := S) hW) (wk_12 (S := S) hW) (by decide) (by decide) rfl hI_7_ad12 ?_
      refine j_callS C [.int (nI q), .int (nI fx), .int (nI tx)] [] mlX0_140 mcX11_maskOf (c_X11_maskOf (rI S (ad 13) (pnt (aI S (ad 13)) (y9 * 25) fx tx (topW (aJ S (ad 25) (y9 % th))) wo q)) q fx tx (by omega) (by omega) (by omega) (by omega)) (M.rm (by decide) (by decide) (Nat.le_of_ble_eq_true rfl) (Nat.le_of_ble_eq_true rfl)) rfl rfl (Nat.le_of_ble_eq_true rfl) dX0_paintRow_93 (fun r_8 S_9 hp_10 => ?_)
      obtain ⟨rfl, e_11⟩ := hp_10
      refine J.eq (S' := (rI S (ad 13) (pnt (aI S (ad 13)) (y9 * 25) fx tx (topW (aJ S (ad 25) (y9 % th))) wo q))) (st' := [.int (mskW q fx tx)]) (lv' := [(7, .int (nI q)), (6, .int (nI (y9 * 25))), (5, .int (nI ((tx - 1) / 32))), (4, .int (nI (fx / 32))), (2, .long (aJ S (ad 25) ((y9 - 0) % th))), (0, .ref (ad 12)), (1, .int (nI y9))]) e_11 rfl rfl ?_
      refine j_istore (lv' := [(8, .int (mskW q fx tx)), (7, .int (nI q)), (6, .int (nI (y9 * 25))), (5, .int (nI ((tx - 1) / 32))), (4, .int (nI (fx / 32))), (2, .long (aJ S (ad 25) ((y9 - 0) % th))), (0, .ref (ad 12)), (1, .int (nI y9))]) C dX0_paintRow_96 (by rw [hn9]; decide) rfl ?_
      refine j_aload_n C dX0_paintRow_98 rfl 6 rfl ?_
      refine j_getr (f := 10) (v := (ad 24)) C flX0_21 dX0_paintRow_99 (wm_12 (S := S) hW) (wk_12 (S := S) hW) (by decide) rfl hR_10_ad12 ?_
      refine j_lload_n C dX0_paintRow_102 rfl 5 rfl ?_
      show J _ _ _ _ _ 103 _
      refine j_bipush (v := 32) C dX0_paintRow_103 (by decide) ?_
      refine j_iload C dX0_paintRow_105 1 rfl ?_
      refine j_imul (v := nI (32 * q)) C dX0_paintRow_107 (pk_mul 32 q) ?_
      refine j_aload_n C dX0_paintRow_108 rfl 6 rfl ?_
      refine j_geti (f := 11) (v := 0) C flX0_53 dX0_paintRow_109 (wm_12 (S := S) hW) (wk_12 (S := S) hW) (by decide) (by decide) rfl hI_11_ad12 ?_
      refine j_isub (v := nI ((32 * q) - 0)) C dX0_paintRow_112 (pk_sub (a := (32 * q)) (b := 0) (by omega)) ?_
      refine j_callV (ci := 10) C [.long (aJ S (ad 25) ((y9 - 0) % th)), .int (nI ((32 * q) - 0))] [] mlX0_144 mcX10_dotsFrom (c_X10_dotsFrom (rI S (ad 13) (pnt (aI S (ad 13)) (y9 * 25) fx tx (topW (aJ S (ad 25) (y9 % th))) wo q)) (ad 24) (wm_24 (S := S) hW) (wk_24 (S := S) hW) (aJ S (ad 25) ((y9 - 0) % th)) ((32 * q) - 0) tw hI_1000_ad24 (by omega) (by omega) (by omega) (mod32 htw)) (wm_24 (S := S) hW) (wk_24 (S := S) hW) rfl (M.rm (by decide) (by decide) (Nat.le_of_ble_eq_true rfl) (Nat.le_of_ble_eq_true rfl)) rfl rfl (Nat.le_of_ble_eq_true rfl) dX0_paintRow_113 (fun r_12 S_13 hp_14 => ?_)
      obtain ⟨rfl, e_15⟩ := hp_14
      refine J.eq (S' := (rI S (ad 13) (pnt (aI S (ad 13)) (y9 * 25) fx tx (topW (aJ S (ad 25) (y9 % th))) wo q))) (st' := [.int (topW (aJ S (ad 25) ((y9 - 0) % th)))]) (lv' := [(8, .int (mskW q fx tx)), (7, .int (nI q)), (6, .int (nI (y9 * 25))), (5, .int (nI ((tx - 1) / 32))), (4, .int (nI (fx / 32))), (2, .long (aJ S (ad 25) ((y9 - 0) % th))), (0, .ref (ad 12)), (1, .int (nI y9))]) e_15 rfl rfl ?_
      refine j_istore (lv' := [(9, .int (topW (aJ S (ad 25) ((y9 - 0) % th)))), (8, .int (mskW q fx tx)), (7, .int (nI q)), (6, .int (nI (y9 * 25))), (5, .int (nI ((tx - 1) / 32))), (4, .int (nI (fx / 32))), (2, .long (aJ S (ad 25) ((y9 - 0) % th))), (0, .ref (ad 12)), (1, .int (nI y9))]) C dX0_paintRow_116 (by rw [hn9]; decide) rfl ?_
      show J _ _ _ _ _ 118 _
      refine j_aload_n C dX0_paintRow_118 rfl 7 rfl ?_
      refine j_getr (f := 1) (v := (ad 14)) C flX0_15 dX0_paintRow_119 (wm_12 (S := S) hW) (wk_12 (S := S) hW) (by decide) rfl (wr_1_12 (S := S) hW) ?_
      refine j_iload C dX0_paintRow_122 2 rfl ?_
      refine j_iald (j := q) (v := (-1)) C dX0_paintRow_124 (wm_14 (S := S) hW) (wk_14 (S := S) hW) (inr_of (n := 25) (wl_14 (S := S) hW) (vp_in_nI (by omega) (by omega))) (nI_clamp (by omega)) (rd_rIa (wn (S := S) hW (i := 14) (j := 13) (by decide) (by decide) (by decide)) (hl q (by omega))) ?_
      refine j_istore (lv' := [(10, .int (-1)), (9, .int (topW (aJ S (ad 25) ((y9 - 0) % th)))), (8, .int (mskW q fx tx)), (7, .int (nI q)), (6, .int (nI (y9 * 25))), (5, .int (nI ((tx - 1) / 32))), (4, .int (nI (fx / 32))), (2, .long (aJ S (ad 25) ((y9 - 0) % th))), (0, .ref (ad 12)), (1, .int (nI y9))]) C dX0_paintRow_125 (by rw [hn9]; decide) rfl ?_
      refine j_iload C dX0_paintRow_127 0 rfl ?_
      refine j_iload C dX0_paintRow_129 1 rfl ?_
      refine j_iand C dX0_paintRow_131 rfl ?_
      show J _ _ _ _ _ 132 _
      refine j_istore (lv' := [(11, .int (((-1) : Int32) &&& (topW (aJ S (ad 25) ((y9 - 0) % th))))), (10, .int (-1)), (9, .int (topW (aJ S (ad 25) ((y9 - 0) % th)))), (8, .int (mskW q fx tx)), (7, .int (nI q)), (6, .int (nI (y9 * 25))), (5, .int (nI ((tx - 1) / 32))), (4, .int (nI (fx / 32))), (2, .long (aJ S (ad 25) ((y9 - 0) % th))), (0, .ref (ad 12)), (1, .int (nI y9))]) C dX0_paintRow_132 (by rw [hn9]; decide) rfl ?_
      refine j_iload C dX0_paintRow_134 1 rfl ?_
      refine j_iload C dX0_paintRow_136 2 rfl ?_
      refine j_iconst (v := (-1)) C dX0_paintRow_138 (by decide) ?_
      refine j_ixor C dX0_paintRow_139 rfl ?_
      refine j_iand C dX0_paintRow_140 rfl ?_
      refine j_aload_n C dX0_paintRow_141 rfl 9 rfl ?_
      refine j_geti (f := 14) (v := fI wo) C flX0_74 dX0_paintRow_142 (wm_12 (S := S) hW) (wk_12 (S := S) hW) (by decide) (by decide) rfl hI_14_ad12 ?_
      show J _ _ _ _ _ 145 _
      refine j_iand C dX0_paintRow_145 rfl ?_
      refine j_iload C dX0_paintRow_146 1 rfl ?_
      refine j_iconst (v := (-1)) C dX0_paintRow_148 (by decide) ?_
      refine j_ixor (v := 0) C dX0_paintRow_149 (by decide) ?_
      refine j_aload_n C dX0_paintRow_150 rfl 9 rfl ?_
      refine j_geti (f := 13) (v := 0) C flX0_65 dX0_paintRow_151 (wm_12 (S := S) hW) (wk_12 (S := S) hW) (by decide) (by decide) rfl hI_13_ad12 ?_
      refine j_iand (v := 0) C dX0_paintRow_154 (by decide) ?_
      refine j_ior C dX0_paintRow_155 rfl ?_
      show J _ _ _ _ _ 156 _
      refine j_istore (lv' := [(12, .int (((((-1) : Int32) &&& ((topW (aJ S (ad 25) ((y9 - 0) % th))) ^^^ (-1))) &&& (fI wo)) ||| 0)), (11, .int (((-1) : Int32) &&& (topW (aJ S (ad 25) ((y9 - 0) % th))))), (10, .int (-1)), (9, .int (topW (aJ S (ad 25) ((y9 - 0) % th)))), (8, .int (mskW q fx tx)), (7, .int (nI q)), (6, .int (nI (y9 * 25))), (5, .int (nI ((tx - 1) / 32))), (4, .int (nI (fx / 32))), (2, .long (aJ S (ad 25) ((y9 - 0) % th))), (0, .ref (ad 12)), (1, .int (nI y9))]) C dX0_paintRow_156 (by rw [hn9]; decide) rfl ?_
      refine j_iload C dX0_paintRow_158 6 rfl ?_
      refine j_iload C dX0_paintRow_160 5 rfl ?_
      refine j_iadd (v := nI ((y9 * 25) + q)) C dX0_paintRow_162 (nI_add (y9 * 25) q) ?_
      refine j_istore (lv' := [(13, .int (nI ((y9 * 25) + q))), (12, .int (((((-1) : Int32) &&& ((topW (aJ S (ad 25) ((y9 - 0) % th))) ^^^ (-1))) &&& (fI wo)) ||| 0)), (11, .int (((-1) : Int32) &&& (topW (aJ S (ad 25) ((y9 - 0) % th))))), (10, .int (-1)), (9, .int (topW (aJ S (ad 25) ((y9 - 0) % th)))), (8, .int (mskW q fx tx)), (7, .int (nI q)), (6, .int (nI (y9 * 25))), (5, .int (nI ((tx - 1) / 32))), (4, .int (nI (fx / 32))), (2, .long (aJ S (ad 25) ((y9 - 0) % th))), (0, .ref (ad 12)), (1, .int (nI y9))]) C dX0_paintRow_163 (by rw [hn9]; decide) rfl ?_
      refine j_aload_n C dX0_paintRow_165 rfl 11 rfl ?_
      refine j_getr (f := 0) (v := (ad 13)) C flX0_11 dX0_paintRow_166 (wm_12 (S := S) hW) (wk_12 (S := S) hW) (by decide) rfl (wr_0_12 (S := S) hW) ?_
      refine j_iload C dX0_paintRow_169 0 rfl ?_
      show J _ _ _ _ _ 171 _
      refine j_aload_n C dX0_paintRow_171 rfl 11 rfl ?_
      refine j_getr (f := 0) (v := (ad 13)) C flX0_11 dX0_paintRow_172 (wm_12 (S := S) hW) (wk_12 (S := S) hW) (by decide) rfl (wr_0_12 (S := S) hW) ?_
      refine j_iload C dX0_paintRow_175 0 rfl ?_
      refine j_iald (j := ((y9 * 25) + q)) (v := aI S (ad 13) (y9 * 25 + q)) C dX0_paintRow_177 (wm_13 (S := S) hW) (wk_13 (S := S) hW) (inr_of (n := 20000) (wl_13 (S := S) hW) (vp_in_nI (by omega) (by omega))) (nI_clamp (by omega)) (rd_rIs.trans (pnt_at _ _ _ _ _ _ q)) ?_
      refine j_iload C dX0_paintRow_178 1 rfl ?_
      refine j_iload C dX0_paintRow_180 5 rfl ?_
      refine j_iand C dX0_paintRow_182 rfl ?_
      refine j_iconst (v := (-1)) C dX0_paintRow_183 (by decide) ?_
      show J _ _ _ _ _ 184 _
      refine j_ixor C dX0_paintRow_184 rfl ?_
      refine j_iand C dX0_paintRow_185 rfl ?_
      refine j_iload C dX0_paintRow_186 2 rfl ?_
      refine j_iload C dX0_paintRow_188 5 rfl ?_
      refine j_iand C dX0_paintRow_190 rfl ?_
      refine j_ior (v := pwd (aI S (ad 13) (y9 * 25 + q)) (mskW q fx tx) (topW (aJ S (ad 25) (y9 % th))) wo) C dX0_paintRow_191 rfl ?_
      refine j_iast (j := ((y9 * 25) + q)) C dX0_paintRow_192 (wm_13 (S := S) hW) (wk_13 (S := S) hW) (inr_of (n := 20000) (wl_13 (S := S) hW) (vp_in_nI (by omega) (by omega))) (nI_clamp (by omega)) ?_
      refine j_iinc (q := 6) (v := nI (q + 1)) (lv' := [(7, .int (nI (q + 1))), (13, .int (nI ((y9 * 25) + q))), (12, .int (((((-1) : Int32) &&& ((topW (aJ S (ad 25) ((y9 - 0) % th))) ^^^ (-1))) &&& (fI wo)) ||| 0)), (11, .int (((-1) : Int32) &&& (topW (aJ S (ad 25) ((y9 - 0) % th))))), (10, .int (-1)), (9, .int (topW (aJ S (ad 25) ((y9 - 0) % th)))), (8, .int (mskW q fx tx)), (6, .int (nI (y9 * 25))), (5, .int (nI ((tx - 1) / 32))), (4, .int (nI (fx / 32))), (2, .long (aJ S (ad 25) ((y9 - 0) % th))), (0, .ref (ad 12)), (1, .int (nI y9))]) C dX0_paintRow_193 rfl (nI_add q 1) (by rw [hn9]; decide) rfl ?_
      show J _ _ _ _ _ 196 _
      refine j_goto (tgt := 76) C dX0_paintRow_196 (by decide) ?_
      refine J.sub [0, 7, 8, 9, 10, 11, 12] (lv' := [(7, .int (nI (q + 1))), (6, .int (nI (y9 * 25))), (5, .int (nI ((tx - 1) / 32))), (4, .int (nI (fx / 32))), (2, .long (aJ S (ad 25) ((y9 - 0) % th))), (0, .ref (ad 12)), (1, .int (nI y9))]) (by rfl) ?_
      refine J.eq (S' := (rI S (ad 13) (pnt (aI S (ad 13)) (y9 * 25) fx tx (topW (aJ S (ad 25) (y9 % th))) wo (q + 1)))) (rI_step (fun j => pnt_s _ _ _ _ _ _ q hq j)) rfl rfl ?_
      exact J.eq rfl rfl rfl (ih_5 (q + 1)  (by omega) (by omega))
  refine J.eq (S' := (rI S (ad 13) (pnt (aI S (ad 13)) (y9 * 25) fx tx (topW (aJ S (ad 25) (y9 % th))) wo (fx / 32)))) (rI_id (fun j => pnt_0 _ _ _ _ _ _ j)) rfl rfl ?_
  refine J.sub [0, 1, 2, 3, 4, 5, 6] (lv' := [(7, .int (nI (fx / 32))), (6, .int (nI (y9 * 25))), (5, .int (nI ((tx - 1) / 32))), (4, .int (nI (fx / 32))), (2, .long (aJ S (ad 25) ((y9 - 0) % th))), (0, .ref (ad 12)), (1, .int (nI y9))]) (by rfl) ?_
  exact J.eq rfl rfl rfl (loop_6 (((tx - 1) / 32 + 1) - (fx / 32)) (fx / 32)  (by omega) (Nat.le_refl _))

theorem pnts_s {S : Hp} {a : Nat} {D : Nat → Int32} {y fx tx k q b : Nat} {T : Nat → Int32} {wo : Bool} {t : Int32} (hb : b = (y + k) * 25) (ht : t = T (y + k)) (hq : q = (tx - 1) / 32 + 1) : rI (rI S a (pnts D y fx tx T wo k)) a (pnt (aI (rI S a (pnts D y fx tx T wo k)) a) b fx tx t wo q) = rI S a (pnts D y fx tx T wo (k + 1)) := by
  subst hb; subst ht; subst hq
  have e : aI (rI S a (pnts D y fx tx T wo k)) a = pnts D y fx tx T wo k := funext fun j => rd_rIs
  rw [rI_rI, e]
  rfl

theorem dX9_markBox_0 : decode cX9_markBox 0 = .ok (.aload_n 0, 1) := by decide +kernel
theorem dX9_markBox_1 : decode cX9_markBox 1 = .ok (.getfield 12, 3) := by decide +kernel
theorem dX9_markBox_4 : decode cX9_markBox 4 = .ok (.aload 5, 2) := by decide +kernel
theorem dX9_markBox_6 : decode cX9_markBox 6 = .ok (.aload_n 0, 1) := by decide +kernel
theorem dX9_markBox_7 : decode cX9_markBox 7 = .ok (.getfield 57, 3) := by decide +kernel
theorem dX9_markBox_10 : decode cX9_markBox 10 = .ok (.invokevirtual 542, 3) := by decide +kernel
theorem dX9_markBox_13 : decode cX9_markBox 13 = .ok (.aload_n 0, 1) := by decide +kernel
theorem dX9_markBox_14 : decode cX9_markBox 14 = .ok (.invokevirtual 118, 3) := by decide +kernel
theorem dX9_markBox_17 : decode cX9_markBox 17 = .ok (.ifCond .ne 61, 3) := by decide +kernel
theorem dX9_markBox_20 : decode cX9_markBox 20 = .ok (.aload_n 0, 1) := by decide +kernel
theorem dX9_markBox_21 : decode cX9_markBox 21 = .ok (.getfield 12, 3) := by decide +kernel
theorem dX9_markBox_24 : decode cX9_markBox 24 = .ok (.aload_n 0, 1) := by decide +kernel
theorem dX9_markBox_25 : decode cX9_markBox 25 = .ok (.getfield 57, 3) := by decide +kernel
theorem dX9_markBox_28 : decode cX9_markBox 28 = .ok (.getfield 129, 3) := by decide +kernel
theorem dX9_markBox_31 : decode cX9_markBox 31 = .ok (.iload_n 1, 1) := by decide +kernel
theorem dX9_markBox_32 : decode cX9_markBox 32 = .ok (.iload_n 2, 1) := by decide +kernel
theorem dX9_markBox_33 : decode cX9_markBox 33 = .ok (.iload_n 3, 1) := by decide +kernel
theorem dX9_markBox_34 : decode cX9_markBox 34 = .ok (.iload 4, 2) := by decide +kernel
theorem dX9_markBox_36 : decode cX9_markBox 36 = .ok (.invokevirtual 546, 3) := by decide +kernel
theorem dX9_markBox_39 : decode cX9_markBox 39 = .ok (.ifCond .eq 39, 3) := by decide +kernel
theorem dX9_markBox_42 : decode cX9_markBox 42 = .ok (.aload_n 0, 1) := by decide +kernel
theorem dX9_markBox_43 : decode cX9_markBox 43 = .ok (.getfield 12, 3) := by decide +kernel
theorem dX9_markBox_46 : decode cX9_markBox 46 = .ok (.getfield 549, 3) := by decide +kernel
theorem dX9_markBox_49 : decode cX9_markBox 49 = .ok (.istore 6, 2) := by decide +kernel
theorem dX9_markBox_51 : decode cX9_markBox 51 = .ok (.iload 6, 2) := by decide +kernel
theorem dX9_markBox_53 : decode cX9_markBox 53 = .ok (.aload_n 0, 1) := by decide +kernel
theorem dX9_markBox_54 : decode cX9_markBox 54 = .ok (.getfield 12, 3) := by decide +kernel
theorem dX9_markBox_57 : decode cX9_markBox 57 = .ok (.getfield 552, 3) := by decide +kernel
theorem dX9_markBox_60 : decode cX9_markBox 60 = .ok (.if_icmp .ge 18, 3) := by decide +kernel
theorem dX9_markBox_63 : decode cX9_markBox 63 = .ok (.aload_n 0, 1) := by decide +kernel
theorem dX9_markBox_64 : decode cX9_markBox 64 = .ok (.getfield 12, 3) := by decide +kernel
theorem dX9_markBox_67 : decode cX9_markBox 67 = .ok (.iload 6, 2) := by decide +kernel
theorem dX9_markBox_69 : decode cX9_markBox 69 = .ok (.invokevirtual 561, 3) := by decide +kernel
theorem dX9_markBox_72 : decode cX9_markBox 72 = .ok (.iinc 6 1, 3) := by decide +kernel
theorem dX9_markBox_75 : decode cX9_markBox 75 = .ok (.goto (-24), 3) := by decide +kernel
theorem dX9_markBox_78 : decode cX9_markBox 78 = .ok (.return_, 1) := by decide +kernel

set_option maxRecDepth 100000 in
set_option maxHeartbeats 4000000 in
theorem c_X9_markBox (S : Hp) (ad : Nat → Nat) (hW : Wd ad S) (bx : Nat) (bY : Nat) (bw : Nat) (bh : Nat) (cv : Nat) (mk : Nat) (tw : Nat) (th : Nat) (gn : Nat) (po : Bool) (wh : Bool) (hI_700_ad27 : hI S 700 (ad 27) = 0) (hI_701_ad27 : hI S 701 (ad 27) = 0) (hI_2_ad12 : hI S 2 (ad 12) = nI mk) (hI_3_ad12 : hI S 3 (ad 12) = nI mk) (hI_4_ad12 : hI S 4 (ad 12) = nI cv) (hI_916_ad6 : hI S 916 (ad 6) = nI gn) (hI_5_ad12 : hI S 5 (ad 12) = 0) (hI_603_ad5 : hI S 603 (ad 5) = 0) (hI_110_ad26 : hI S 110 (ad 26) = 0) (hI_111_ad26 : hI S 111 (ad 26) = cI po) (hI_112_ad26 : hI S 112 (ad 26) = 0) (hI_113_ad26 : hI S 113 (ad 26) = 0) (hI_1000_ad24 : hI S 1000 (ad 24) = nI tw) (hI_1001_ad24 : hI S 1001 (ad 24) = nI th) (hI_1002_ad24 : hI S 1002 (ad 24) = cI wh) (hx : bx + bw ≤ 200) (hy : bY + bh ≤ 240) (hw : 0 < bw) (hh : 0 < bh) (hc : cv + bw * bh ≤ 5000000) (hm : mk < 2000) (hg : gn ≤ 60000) (hth : 0 < th ∧ th ≤ 16) (htw : tw = 1 ∨ tw = 4) (hl : ∀ j, j < 25 → aI S (ad 14) j = -1) (D : Nat → Int32) (Rw : Nat → Int64) (hD : aI S (ad 13) = D) (xR : aJ S (ad 25) = Rw) : Ct 4 yX9_markBox cX9_markBox 7 none 0 0 [.ref (ad 6), .int (nI bx), .int (nI bY), .int (nI bw), .int (nI bh), .ref (ad 24)] S (fun r S' => r = none ∧ Fm (fun f9 b9 => (f9 = 2 ∧ b9 = (ad 12)) ∨ (f9 = 3 ∧ b9 = (ad 12)) ∨ (f9 = 4 ∧ b9 = (ad 12)) ∨ (f9 = 6 ∧ b9 = (ad 12)) ∨ (f9 = 7 ∧ b9 = (ad 12)) ∨ (f9 = 8 ∧ b9 = (ad 12)) ∨ (f9 = 9 ∧ b9 = (ad 12)) ∨ (f9 = 11 ∧ b9 = (ad 12)) ∨ (f9 = 12 ∧ b9 = (ad 12)) ∨ (f9 = 13 ∧ b9 = (ad 12)) ∨ (f9 = 14 ∧ b9 = (ad 12))) (fun f9 b9 => (f9 = 10 ∧ b9 = (ad 12))) (fun b9 => b9 = (ad 13)) S S' ∧ hI S' 2 (ad 12) = nI (mk + 1) ∧ hI S' 3 (ad 12) = nI (mk + 1) ∧ hI S' 4 (ad 12) = nI (cv + bw * bh) ∧ aI S' (ad 13) = (pnts D bY bx (bx + bw) (fun r9 => topW (Rw (r9 % th))) (po || wh) bh)) := by
  refine ct_of (by decide) (Nat.le_of_ble_eq_true rfl) fun x hn9 C M hm9 => ?_
  have C : CB x RX9 cX9_markBox := C
  refine J.eq (lv' := [(0, .ref (ad 6)), (1, .int (nI bx)), (2, .int (nI bY)), (3, .int (nI bw)), (4, .int (nI bh)), (5, .ref (ad 24))]) rfl rfl rfl ?_
  refine j_aload_n C dX9_markBox_0 rfl 0 rfl ?_
  refine j_getr (f := 901) (v := (ad 12)) C flX9_12 dX9_markBox_1 (wm_6 (S := S) hW) (wk_6 (S := S) hW) (by decide) rfl (wr_901_6 (S := S) hW) ?_
  refine j_aload C dX9_markBox_4 5 rfl ?_
  refine j_aload_n C dX9_markBox_6 rfl 0 rfl ?_
  refine j_getr (f := 909) (v := (ad 26)) C flX9_57 dX9_markBox_7 (wm_6 (S := S) hW) (wk_6 (S := S) hW) (by decide) rfl (wr_909_6 (S := S) hW) ?_
  refine j_callV (ci := 0) C [.ref (ad 24), .ref (ad 26)] [] mlX9_542 mcX0_ink (c_ink S ad hW po wh hI_110_ad26 hI_111_ad26 hI_112_ad26 hI_113_ad26 hI_1002_ad24) (wm_12 (S := S) hW) (wk_12 (S := S) hW) rfl (M.rm (by decide) (by decide) (Nat.le_of_ble_eq_true rfl) (Nat.le_of_ble_eq_true rfl)) rfl rfl (Nat.le_of_ble_eq_true rfl) dX9_markBox_10 (fun r_1 S_2 hp_3 => ?_)
  obtain ⟨rfl, e_4⟩ := hp_3
  refine J.eq (S' := (sI (sI (sI (sI (sR S 10 (ad 12) (some (ad 24))) 11 (ad 12) 0) 12 (ad 12) 0) 13 (ad 12) 0) 14 (ad 12) (fI (po || wh)))) (st' := []) (lv' := [(0, .ref (ad 6)), (1, .int (nI bx)), (2, .int (nI bY)), (3, .int (nI bw)), (4, .int (nI bh)), (5, .ref (ad 24))]) e_4 rfl rfl ?_
  have hf_7 : Fm (fun f9 b9 => (f9 = 2 ∧ b9 = (ad 12)) ∨ (f9 = 3 ∧ b9 = (ad 12)) ∨ (f9 = 4 ∧ b9 = (ad 12)) ∨ (f9 = 6 ∧ b9 = (ad 12)) ∨ (f9 = 7 ∧ b9 = (ad 12)) ∨ (f9 = 8 ∧ b9 = (ad 12)) ∨ (f9 = 9 ∧ b9 = (ad 12)) ∨ (f9 = 11 ∧ b9 = (ad 12)) ∨ (f9 = 12 ∧ b9 = (ad 12)) ∨ (f9 = 13 ∧ b9 = (ad 12)) ∨ (f9 = 14 ∧ b9 = (ad 12))) (fun f9 b9 => (f9 = 10 ∧ b9 = (ad 12))) (fun b9 => b9 = (ad 13)) S (sI (sI (sI (sI (sR S 10 (ad 12) (some (ad 24))) 11 (ad 12) 0) 12 (ad 12) 0) 13 (ad 12) 0) 14 (ad 12) (fI (po || wh))) := ((((((Fm.refl (WI := (fun f9 b9 => (f9 = 2 ∧ b9 = (ad 12)) ∨ (f9 = 3 ∧ b9 = (ad 12)) ∨ (f9 = 4 ∧ b9 = (ad 12)) ∨ (f9 = 6 ∧ b9 = (ad 12)) ∨ (f9 = 7 ∧ b9 = (ad 12)) ∨ (f9 = 8 ∧ b9 = (ad 12)) ∨ (f9 = 9 ∧ b9 = (ad 12)) ∨ (f9 = 11 ∧ b9 = (ad 12)) ∨ (f9 = 12 ∧ b9 = (ad 12)) ∨ (f9 = 13 ∧ b9 = (ad 12)) ∨ (f9 = 14 ∧ b9 = (ad 12)))) (WR := (fun f9 b9 => (f9 = 10 ∧ b9 = (ad 12)))) (WA := (fun b9 => b9 = (ad 13)))).sR _ (fun _ => ⟨rfl, rfl⟩)).sI _ (fun _ => (Or.inr (Or.inr (Or.inr (Or.inr (Or.inr (Or.inr (Or.inr (Or.inl ⟨rfl, rfl⟩)))))))))).sI _ (fun _ => (Or.inr (Or.inr (Or.inr (Or.inr (Or.inr (Or.inr (Or.inr (Or.inr (Or.inl ⟨rfl, rfl⟩))))))))))).sI _ (fun _ => (Or.inr (Or.inr (Or.inr (Or.inr (Or.inr (Or.inr (Or.inr (Or.inr (Or.inr (Or.inl ⟨rfl, rfl⟩)))))))))))).sI _ (fun _ => (Or.inr (Or.inr (Or.inr (Or.inr (Or.inr (Or.inr (Or.inr (Or.inr (Or.inr (Or.inr ⟨rfl, rfl⟩))))))))))))
  obtain ⟨S_5, eS_6⟩ : ∃ S9 : Hp, S9 = (sI (sI (sI (sI (sR S 10 (ad 12) (some (ad 24))) 11 (ad 12) 0) 12 (ad 12) 0) 13 (ad 12) 0) 14 (ad 12) (fI (po || wh))) := ⟨_, rfl⟩
  refine J.eq (S' := S_5) eS_6.symm rfl rfl ?_
  have hv_8 : hI S_5 1000 (ad 24) = nI tw := by rw [eS_6]; exact (rd_sIf (S := (sI (sI (sI (sR S 10 (ad 12) (some (ad 24))) 11 (ad 12) 0) 12 (ad 12) 0) 13 (ad 12) 0)) (g := 14) (a := (ad 12)) (v := (fI (po || wh))) (by decide) (rd_sIf (S := (sI (sI (sR S 10 (ad 12) (some (ad 24))) 11 (ad 12) 0) 12 (ad 12) 0)) (g := 13) (a := (ad 12)) (v := 0) (by decide) (rd_sIf (S := (sI (sR S 10 (ad 12) (some (ad 24))) 11 (ad 12) 0)) (g := 12) (a := (ad 12)) (v := 0) (by decide) (rd_sIf (S := (sR S 10 (ad 12) (some (ad 24)))) (g := 11) (a := (ad 12)) (v := 0) (by decide) hI_1000_ad24))))
  have hv_9 : hI S_5 1001 (ad 24) = nI th := by rw [eS_6]; exact (rd_sIf (S := (sI (sI (sI (sR S 10 (ad 12) (some (ad 24))) 11 (ad 12) 0) 12 (ad 12) 0) 13 (ad 12) 0)) (g := 14) (a := (ad 12)) (v := (fI (po || wh))) (by decide) (rd_sIf (S := (sI (sI (sR S 10 (ad 12) (some (ad 24))) 11 (ad 12) 0) 12 (ad 12) 0)) (g := 13) (a := (ad 12)) (v := 0) (by decide) (rd_sIf (S := (sI (sR S 10 (ad 12) (some (ad 24))) 11 (ad 12) 0)) (g := 12) (a := (ad 12)) (v := 0) (by decide) (rd_sIf (S := (sR S 10 (ad 12) (some (ad 24)))) (g := 11) (a := (ad 12)) (v := 0) (by decide) hI_1001_ad24))))
  have hv_10 : hI S_5 1002 (ad 24) = cI wh := by rw [eS_6]; exact (rd_sIf (S := (sI (sI (sI (sR S 10 (ad 12) (some (ad 24))) 11 (ad 12) 0) 12 (ad 12) 0) 13 (ad 12) 0)) (g := 14) (a := (ad 12)) (v := (fI (po || wh))) (by decide) (rd_sIf (S := (sI (sI (sR S 10 (ad 12) (some (ad 24))) 11 (ad 12) 0) 12 (ad 12) 0)) (g := 13) (a := (ad 12)) (v := 0) (by decide) (rd_sIf (S := (sI (sR S 10 (ad 12) (some (ad 24))) 11 (ad 12) 0)) (g := 12) (a := (ad 12)) (v := 0) (by decide) (rd_sIf (S := (sR S 10 (ad 12) (some (ad 24)))) (g := 11) (a := (ad 12)) (v := 0) (by decide) hI_1002_ad24))))
  have hv_11 : hI S_5 11 (ad 12) = 0 := by rw [eS_6]; exact (rd_sIf (S := (sI (sI (sI (sR S 10 (ad 12) (some (ad 24))) 11 (ad 12) 0) 12 (ad 12) 0) 13 (ad 12) 0)) (g := 14) (a := (ad 12)) (v := (fI (po || wh))) (by decide) (rd_sIf (S := (sI (sI (sR S 10 (ad 12) (some (ad 24))) 11 (ad 12) 0) 12 (ad 12) 0)) (g := 13) (a := (ad 12)) (v := 0) (by decide) (rd_sIf (S := (sI (sR S 10 (ad 12) (some (ad 24))) 11 (ad 12) 0)) (g := 12) (a := (ad 12)) (v := 0) (by decide) (rd_sI (S := (sR S 10 (ad 12) (some (ad 24)))) (g := 11) (a := (ad 12)) (v := 0)))))
  have hv_12 : hI S_5 110 (ad 26) = 0 := by rw [eS_6]; exact (rd_sIf (S := (sI (sI (sI (sR S 10 (ad 12) (some (ad 24))) 11 (ad 12) 0) 12 (ad 12) 0) 13 (ad 12) 0)) (g := 14) (a := (ad 12)) (v := (fI (po || wh))) (by decide) (rd_sIf (S := (sI (sI (sR S 10 (ad 12) (some (ad 24))) 11 (ad 12) 0) 12 (ad 12) 0)) (g := 13) (a := (ad 12)) (v := 0) (by decide) (rd_sIf (S := (sI (sR S 10 (ad 12) (some (ad 24))) 11 (ad 12) 0)) (g := 12) (a := (ad 12)) (v := 0) (by decide) (rd_sIf (S := (sR S 10 (ad 12) (some (ad 24)))) (g := 11) (a := (ad 12)) (v := 0) (by decide) hI_110_ad26))))
  have hv_13 : hI S_5 111 (ad 26) = cI po := by rw [eS_6]; exact (rd_sIf (S := (sI (sI (sI (sR S 10 (ad 12) (some (ad 24))) 11 (ad 12) 0) 12 (ad 12) 0) 13 (ad 12) 0)) (g := 14) (a := (ad 12)) (v := (fI (po || wh))) (by decide) (rd_sIf (S := (sI (sI (sR S 10 (ad 12) (some (ad 24))) 11 (ad 12) 0) 12 (ad 12) 0)) (g := 13) (a := (ad 12)) (v := 0) (by decide) (rd_sIf (S := (sI (sR S 10 (ad 12) (some (ad 24))) 11 (ad 12) 0)) (g := 12) (a := (ad 12)) (v := 0) (by decide) (rd_sIf (S := (sR S 10 (ad 12) (some (ad 24)))) (g := 11) (a := (ad 12)) (v := 0) (by decide) hI_111_ad26))))
  have hv_14 : hI S_5 112 (ad 26) = 0 := by rw [eS_6]; exact (rd_sIf (S := (sI (sI (sI (sR S 10 (ad 12) (some (ad 24))) 11 (ad 12) 0) 12 (ad 12) 0) 13 (ad 12) 0)) (g := 14) (a := (ad 12)) (v := (fI (po || wh))) (by decide) (rd_sIf (S := (sI (sI (sR S 10 (ad 12) (some (ad 24))) 11 (ad 12) 0) 12 (ad 12) 0)) (g := 13) (a := (ad 12)) (v := 0) (by decide) (rd_sIf (S := (sI (sR S 10 (ad 12) (some (ad 24))) 11 (ad 12) 0)) (g := 12) (a := (ad 12)) (v := 0) (by decide) (rd_sIf (S := (sR S 10 (ad 12) (some (ad 24)))) (g := 11) (a := (ad 12)) (v := 0) (by decide) hI_112_ad26))))
  have hv_15 : hI S_5 113 (ad 26) = 0 := by rw [eS_6]; exact (rd_sIf (S := (sI (sI (sI (sR S 10 (ad 12) (some (ad 24))) 11 (ad 12) 0) 12 (ad 12) 0) 13 (ad 12) 0)) (g := 14) (a := (ad 12)) (v := (fI (po || wh))) (by decide) (rd_sIf (S := (sI (sI (sR S 10 (ad 12) (some (ad 24))) 11 (ad 12) 0) 12 (ad 12) 0)) (g := 13) (a := (ad 12)) (v := 0) (by decide) (rd_sIf (S := (sI (sR S 10 (ad 12) (some (ad 24))) 11 (ad 12) 0)) (g := 12) (a := (ad 12)) (v := 0) (by decide) (rd_sIf (S := (sR S 10 (ad 12) (some (ad 24)))) (g := 11) (a := (ad 12)) (v := 0) (by decide) hI_113_ad26))))
  have hv_16 : hI S_5 12 (ad 12) = 0 := by rw [eS_6]; exact (rd_sIf (S := (sI (sI (sI (sR S 10 (ad 12) (some (ad 24))) 11 (ad 12) 0) 12 (ad 12) 0) 13 (ad 12) 0)) (g := 14) (a := (ad 12)) (v := (fI (po || wh))) (by decide) (rd_sIf (S := (sI (sI (sR S 10 (ad 12) (some (ad 24))) 11 (ad 12) 0) 12 (ad 12) 0)) (g := 13) (a := (ad 12)) (v := 0) (by decide) (rd_sI (S := (sI (sR S 10 (ad 12) (some (ad 24))) 11 (ad 12) 0)) (g := 12) (a := (ad 12)) (v := 0))))
  have hv_17 : hI S_5 13 (ad 12) = 0 := by rw [eS_6]; exact (rd_sIf (S := (sI (sI (sI (sR S 10 (ad 12) (some (ad 24))) 11 (ad 12) 0) 12 (ad 12) 0) 13 (ad 12) 0)) (g := 14) (a := (ad 12)) (v := (fI (po || wh))) (by decide) (rd_sI (S := (sI (sI (sR S 10 (ad 12) (some (ad 24))) 11 (ad 12) 0) 12 (ad 12) 0)) (g := 13) (a := (ad 12)) (v := 0)))
  have hv_18 : hI S_5 14 (ad 12) = (fI (po || wh)) := by rw [eS_6]; exact (rd_sI (S := (sI (sI (sI (sR S 10 (ad 12) (some (ad 24))) 11 (ad 12) 0) 12 (ad 12) 0) 13 (ad 12) 0)) (g := 14) (a := (ad 12)) (v := (fI (po || wh))))
  have hv_19 : hI S_5 2 (ad 12) = nI mk := by rw [eS_6]; exact (rd_sIf (S := (sI (sI (sI (sR S 10 (ad 12) (some (ad 24))) 11 (ad 12) 0) 12 (ad 12) 0) 13 (ad 12) 0)) (g := 14) (a := (ad 12)) (v := (fI (po || wh))) (by decide) (rd_sIf (S := (sI (sI (sR S 10 (ad 12) (some (ad 24))) 11 (ad 12) 0) 12 (ad 12) 0)) (g := 13) (a := (ad 12)) (v := 0) (by decide) (rd_sIf (S := (sI (sR S 10 (ad 12) (some (ad 24))) 11 (ad 12) 0)) (g := 12) (a := (ad 12)) (v := 0) (by decide) (rd_sIf (S := (sR S 10 (ad 12) (some (ad 24)))) (g := 11) (a := (ad 12)) (v := 0) (by decide) hI_2_ad12))))
  have hv_20 : hI S_5 3 (ad 12) = nI mk := by rw [eS_6]; exact (rd_sIf (S := (sI (sI (sI (sR S 10 (ad 12) (some (ad 24))) 11 (ad 12) 0) 12 (ad 12) 0) 13 (ad 12) 0)) (g := 14) (a := (ad 12)) (v := (fI (po || wh))) (by decide) (rd_sIf (S := (sI (sI (sR S 10 (ad 12) (some (ad 24))) 11 (ad 12) 0) 12 (ad 12) 0)) (g := 13) (a := (ad 12)) (v := 0) (by decide) (rd_sIf (S := (sI (sR S 10 (ad 12) (some (ad 24))) 11 (ad 12) 0)) (g := 12) (a := (ad 12)) (v := 0) (by decide) (rd_sIf (S := (sR S 10 (ad 12) (some (ad 24)))) (g := 11) (a := (ad 12)) (v := 0) (by decide) hI_3_ad12))))
  have hv_21 : hI S_5 4 (ad 12) = nI cv := by rw [eS_6]; exact (rd_sIf (S := (sI (sI (sI (sR S 10 (ad 12) (some (ad 24))) 11 (ad 12) 0) 12 (ad 12) 0) 13 (ad 12) 0)) (g := 14) (a := (ad 12)) (v := (fI (po || wh))) (by decide) (rd_sIf (S := (sI (sI (sR S 10 (ad 12) (some (ad 24))) 11 (ad 12) 0) 12 (ad 12) 0)) (g := 13) (a := (ad 12)) (v := 0) (by decide) (rd_sIf (S := (sI (sR S 10 (ad 12) (some (ad 24))) 11 (ad 12) 0)) (g := 12) (a := (ad 12)) (v := 0) (by decide) (rd_sIf (S := (sR S 10 (ad 12) (some (ad 24)))) (g := 11) (a := (ad 12)) (v := 0) (by decide) hI_4_ad12))))
  have hv_22 : hI S_5 5 (ad 12) = 0 := by rw [eS_6]; exact (rd_sIf (S := (sI (sI (sI (sR S 10 (ad 12) (some (ad 24))) 11 (ad 12) 0) 12 (ad 12) 0) 13 (ad 12) 0)) (g := 14) (a := (ad 12)) (v := (fI (po || wh))) (by decide) (rd_sIf (S := (sI (sI (sR S 10 (ad 12) (some (ad 24))) 11 (ad 12) 0) 12 (ad 12) 0)) (g := 13) (a := (ad 12)) (v := 0) (by decide) (rd_sIf (S := (sI (sR S 10 (ad 12) (some (ad 24))) 11 (ad 12) 0)) (g := 12) (a := (ad 12)) (v := 0) (by decide) (rd_sIf (S := (sR S 10 (ad 12) (some (ad 24)))) (g := 11) (a := (ad 12)) (v := 0) (by decide) hI_5_ad12))))
  have hv_23 : hI S_5 603 (ad 5) = 0 := by rw [eS_6]; exact (rd_sIf (S := (sI (sI (sI (sR S 10 (ad 12) (some (ad 24))) 11 (ad 12) 0) 12 (ad 12) 0) 13 (ad 12) 0)) (g := 14) (a := (ad 12)) (v := (fI (po || wh))) (by decide) (rd_sIf (S := (sI (sI (sR S 10 (ad 12) (some (ad 24))) 11 (ad 12) 0) 12 (ad 12) 0)) (g := 13) (a := (ad 12)) (v := 0) (by decide) (rd_sIf (S := (sI (sR S 10 (ad 12) (some (ad 24))) 11 (ad 12) 0)) (g := 12) (a := (ad 12)) (v := 0) (by decide) (rd_sIf (S := (sR S 10 (ad 12) (some (ad 24)))) (g := 11) (a := (ad 12)) (v := 0) (by decide) hI_603_ad5))))
  have hv_24 : hI S_5 700 (ad 27) = 0 := by rw [eS_6]; exact (rd_sIf (S := (sI (sI (sI (sR S 10 (ad 12) (some (ad 24))) 11 (ad 12) 0) 12 (ad 12) 0) 13 (ad 12) 0)) (g := 14) (a := (ad 12)) (v := (fI (po || wh))) (by decide) (rd_sIf (S := (sI (sI (sR S 10 (ad 12) (some (ad 24))) 11 (ad 12) 0) 12 (ad 12) 0)) (g := 13) (a := (ad 12)) (v := 0) (by decide) (rd_sIf (S := (sI (sR S 10 (ad 12) (some (ad 24))) 11 (ad 12) 0)) (g := 12) (a := (ad 12)) (v := 0) (by decide) (rd_sIf (S := (sR S 10 (ad 12) (some (ad 24)))) (g := 11) (a := (ad 12)) (v := 0) (by decide) hI_700_ad27))))
  have hv_25 : hI S_5 701 (ad 27) = 0 := by rw [eS_6]; exact (rd_sIf (S := (sI (sI (sI (sR S 10 (ad 12) (some (ad 24))) 11 (ad 12) 0) 12 (ad 12) 0) 13 (ad 12) 0)) (g := 14) (a := (ad 12)) (v := (fI (po || wh))) (by decide) (rd_sIf (S := (sI (sI (sR S 10 (ad 12) (some (ad 24))) 11 (ad 12) 0) 12 (ad 12) 0)) (g := 13) (a := (ad 12)) (v := 0) (by decide) (rd_sIf (S := (sI (sR S 10 (ad 12) (some (ad 24))) 11 (ad 12) 0)) (g := 12) (a := (ad 12)) (v := 0) (by decide) (rd_sIf (S := (sR S 10 (ad 12) (some (ad 24)))) (g := 11) (a := (ad 12)) (v := 0) (by decide) hI_701_ad27))))
  have hv_26 : hI S_5 916 (ad 6) = nI gn := by rw [eS_6]; exact (rd_sIf (S := (sI (sI (sI (sR S 10 (ad 12) (some (ad 24))) 11 (ad 12) 0) 12 (ad 12) 0) 13 (ad 12) 0)) (g := 14) (a := (ad 12)) (v := (fI (po || wh))) (by decide) (rd_sIf (S := (sI (sI (sR S 10 (ad 12) (some (ad 24))) 11 (ad 12) 0) 12 (ad 12) 0)) (g := 13) (a := (ad 12)) (v := 0) (by decide) (rd_sIf (S := (sI (sR S 10 (ad 12) (some (ad 24))) 11 (ad 12) 0)) (g := 12) (a := (ad 12)) (v := 0) (by decide) (rd_sIf (S := (sR S 10 (ad 12) (some (ad 24)))) (g := 11) (a := (ad 12)) (v := 0) (by decide) hI_916_ad6))))
  have hv_27 : hR S_5 10 (ad 12) = (some (ad 24)) := by rw [eS_6]; exact (rd_sR (S := S) (g := 10) (a := (ad 12)) (v := (some (ad 24))))
  have hf_28 : Fm (fun f9 b9 => (f9 = 2 ∧ b9 = (ad 12)) ∨ (f9 = 3 ∧ b9 = (ad 12)) ∨ (f9 = 4 ∧ b9 = (ad 12)) ∨ (f9 = 6 ∧ b9 = (ad 12)) ∨ (f9 = 7 ∧ b9 = (ad 12)) ∨ (f9 = 8 ∧ b9 = (ad 12)) ∨ (f9 = 9 ∧ b9 = (ad 12)) ∨ (f9 = 11 ∧ b9 = (ad 12)) ∨ (f9 = 12 ∧ b9 = (ad 12)) ∨ (f9 = 13 ∧ b9 = (ad 12)) ∨ (f9 = 14 ∧ b9 = (ad 12))) (fun f9 b9 => (f9 = 10 ∧ b9 = (ad 12))) (fun b9 => b9 = (ad 13)) S S_5 := by rw [eS_6]; exact hf_7
  have hW_29 : Wd ad S_5 := by rw [eS_6]; exact (Wd.sI (Wd.sI (Wd.sI (Wd.sI (Wd.sR hW (by decide))))))
  have hx_30 : ∀ j, j < 25 → aI S_5 (ad 14) j = -1 := by rw [eS_6]; exact (by rw [show aI (sI (sI (sI (sI (sR S 10 (ad 12) (some (ad 24))) 11 (ad 12) 0) 12 (ad 12) 0) 13 (ad 12) 0) 14 (ad 12) (fI (po || wh))) (ad 14) = aI S (ad 14) from ((arI_sI (S := (sI (sI (sI (sR S 10 (ad 12) (some (ad 24))) 11 (ad 12) 0) 12 (ad 12) 0) 13 (ad 12) 0))).trans ((arI_sI (S := (sI (sI (sR S 10 (ad 12) (some (ad 24))) 11 (ad 12) 0) 12 (ad 12) 0))).trans ((arI_sI (S := (sI (sR S 10 (ad 12) (some (ad 24))) 11 (ad 12) 0))).trans ((arI_sI (S := (sR S 10 (ad 12) (some (ad 24))))).trans (arI_sR (S := S))))))]; exact hl)
  have hx_31 : aI S_5 (ad 13) = D := by rw [eS_6]; exact (by rw [show aI (sI (sI (sI (sI (sR S 10 (ad 12) (some (ad 24))) 11 (ad 12) 0) 12 (ad 12) 0) 13 (ad 12) 0) 14 (ad 12) (fI (po || wh))) (ad 13) = aI S (ad 13) from ((arI_sI (S := (sI (sI (sI (sR S 10 (ad 12) (some (ad 24))) 11 (ad 12) 0) 12 (ad 12) 0) 13 (ad 12) 0))).trans ((arI_sI (S := (sI (sI (sR S 10 (ad 12) (some (ad 24))) 11 (ad 12) 0) 12 (ad 12) 0))).trans ((arI_sI (S := (sI (sR S 10 (ad 12) (some (ad 24))) 11 (ad 12) 0))).trans ((arI_sI (S := (sR S 10 (ad 12) (some (ad 24))))).trans (arI_sR (S := S))))))]; exact hD)
  have hx_32 : aJ S_5 (ad 25) = Rw := by rw [eS_6]; exact (by rw [show aJ (sI (sI (sI (sI (sR S 10 (ad 12) (some (ad 24))) 11 (ad 12) 0) 12 (ad 12) 0) 13 (ad 12) 0) 14 (ad 12) (fI (po || wh))) (ad 25) = aJ S (ad 25) from ((arJ_sI (S := (sI (sI (sI (sR S 10 (ad 12) (some (ad 24))) 11 (ad 12) 0) 12 (ad 12) 0) 13 (ad 12) 0))).trans ((arJ_sI (S := (sI (sI (sR S 10 (ad 12) (some (ad 24))) 11 (ad 12) 0) 12 (ad 12) 0))).trans ((arJ_sI (S := (sI (sR S 10 (ad 12) (some (ad 24))) 11 (ad 12) 0))).trans ((arJ_sI (S := (sR S 10 (ad 12) (some (ad 24))))).trans (arJ_sR (S := S))))))]; exact xR)
  refine j_aload_n C dX9_markBox_13 rfl 0 rfl ?_
  refine j_callV (ci := 9) C [] [] mlX9_118 mcX9_isMuch (c_X9_isMuch S_5 ad hW_29 gn hv_26 (by omega) hv_22 hv_23) (wm_6 (S := S_5) hW_29) (wk_6 (S := S_5) hW_29) rfl (M.rm (by decide) (by decide) (Nat.le_of_ble_eq_true rfl) (Nat.le_of_ble_eq_true rfl)) rfl rfl (Nat.le_of_ble_eq_true rfl) dX9_markBox_14 (fun r_33 S_34 hp_35 => ?_)
  obtain ⟨rfl, e_36⟩ := hp_35
  refine J.eq (S' := S_5) (st' := [.int 0]) (lv' := [(0, .ref (ad 6)), (1, .int (nI bx)), (2, .int (nI bY)), (3, .int (nI bw)), (4, .int (nI bh)), (5, .ref (ad 24))]) e_36 rfl rfl ?_
  show J _ _ _ _ _ 17 _
  refine j_if_ne (tgt := 78) C dX9_markBox_17 (by decide) (fun c9 => absurd c9 (by decide)) (fun c9 => ?_)
  refine j_aload_n C dX9_markBox_20 rfl 0 rfl ?_
  refine j_getr (f := 901) (v := (ad 12)) C flX9_12 dX9_markBox_21 (wm_6 (S := S_5) hW_29) (wk_6 (S := S_5) hW_29) (by decide) rfl (wr_901_6 (S := S_5) hW_29) ?_
  refine j_aload_n C dX9_markBox_24 rfl 0 rfl ?_
  refine j_getr (f := 909) (v := (ad 26)) C flX9_57 dX9_markBox_25 (wm_6 (S := S_5) hW_29) (wk_6 (S := S_5) hW_29) (by decide) rfl (wr_909_6 (S := S_5) hW_29) ?_
  refine j_getr (f := 100) (v := (ad 27)) C flX9_129 dX9_markBox_28 (wm_26 (S := S_5) hW_29) (wk_26 (S := S_5) hW_29) (by decide) rfl (wr_100_26 (S := S_5) hW_29) ?_
  refine j_iload_n C dX9_markBox_31 rfl 1 rfl ?_
  refine j_iload_n C dX9_markBox_32 rfl 2 rfl ?_
  show J _ _ _ _ _ 33 _
  refine j_iload_n C dX9_markBox_33 rfl 3 rfl ?_
  refine j_iload C dX9_markBox_34 4 rfl ?_
  refine j_callV (ci := 0) C [.ref (ad 27), .int (nI bx), .int (nI bY), .int (nI bw), .int (nI bh)] [] mlX9_546 mcX0_mark (c_X0_mark S_5 ad hW_29 bx bY bw bh cv mk hv_24 hv_25 hv_19 hv_20 hv_21 (by omega) (by omega) (by omega) (by omega) hc (by omega)) (wm_12 (S := S_5) hW_29) (wk_12 (S := S_5) hW_29) rfl (M.rm (by decide) (by decide) (Nat.le_of_ble_eq_true rfl) (Nat.le_of_ble_eq_true rfl)) rfl rfl (Nat.le_of_ble_eq_true rfl) dX9_markBox_36 (fun r_37 S_38 hp_39 => ?_)
  obtain ⟨rfl, e_40⟩ := hp_39
  refine J.eq (S' := (sI (sI (sI (sI (sI (sI (sI S_5 6 (ad 12) (nI bx)) 7 (ad 12) (nI (bx + bw))) 8 (ad 12) (nI bY)) 9 (ad 12) (nI (bY + bh))) 4 (ad 12) (nI (cv + (bw * bh)))) 3 (ad 12) (nI (mk + 1))) 2 (ad 12) (nI (mk + 1)))) (st' := [.int 1]) (lv' := [(0, .ref (ad 6)), (1, .int (nI bx)), (2, .int (nI bY)), (3, .int (nI bw)), (4, .int (nI bh)), (5, .ref (ad 24))]) e_40 rfl rfl ?_
  have hf_43 : Fm (fun f9 b9 => (f9 = 2 ∧ b9 = (ad 12)) ∨ (f9 = 3 ∧ b9 = (ad 12)) ∨ (f9 = 4 ∧ b9 = (ad 12)) ∨ (f9 = 6 ∧ b9 = (ad 12)) ∨ (f9 = 7 ∧ b9 = (ad 12)) ∨ (f9 = 8 ∧ b9 = (ad 12)) ∨ (f9 = 9 ∧ b9 = (ad 12)) ∨ (f9 = 11 ∧ b9 = (ad 12)) ∨ (f9 = 12 ∧ b9 = (ad 12)) ∨ (f9 = 13 ∧ b9 = (ad 12)) ∨ (f9 = 14 ∧ b9 = (ad 12))) (fun f9 b9 => (f9 = 10 ∧ b9 = (ad 12))) (fun b9 => b9 = (ad 13)) S (sI (sI (sI (sI (sI (sI (sI S_5 6 (ad 12) (nI bx)) 7 (ad 12) (nI (bx + bw))) 8 (ad 12) (nI bY)) 9 (ad 12) (nI (bY + bh))) 4 (ad 12) (nI (cv + (bw * bh)))) 3 (ad 12) (nI (mk + 1))) 2 (ad 12) (nI (mk + 1))) := (((((((hf_28.sI _ (fun _ => (Or.inr (Or.inr (Or.inr (Or.inl ⟨rfl, rfl⟩)))))).sI _ (fun _ => (Or.inr (Or.inr (Or.inr (Or.inr (Or.inl ⟨rfl, rfl⟩))))))).sI _ (fun _ => (Or.inr (Or.inr (Or.inr (Or.inr (Or.inr (Or.inl ⟨rfl, rfl⟩)))))))).sI _ (fun _ => (Or.inr (Or.inr (Or.inr (Or.inr (Or.inr (Or.inr (Or.inl ⟨rfl, rfl⟩))))))))).sI _ (fun _ => (Or.inr (Or.inr (Or.inl ⟨rfl, rfl⟩))))).sI _ (fun _ => (Or.inr (Or.inl ⟨rfl, rfl⟩)))).sI _ (fun _ => (Or.inl ⟨rfl, rfl⟩)))
  obtain ⟨S_41, eS_42⟩ : ∃ S9 : Hp, S9 = (sI (sI (sI (sI (sI (sI (sI S_5 6 (ad 12) (nI bx)) 7 (ad 12) (nI (bx + bw))) 8 (ad 12) (nI bY)) 9 (ad 12) (nI (bY + bh))) 4 (ad 12) (nI (cv + (bw * bh)))) 3 (ad 12) (nI (mk + 1))) 2 (ad 12) (nI (mk + 1))) := ⟨_, rfl⟩
  refine J.eq (S' := S_41) eS_42.symm rfl rfl ?_
  have hv_44 : hI S_41 1000 (ad 24) = nI tw := by rw [eS_42]; exact (rd_sIf (S := (sI (sI (sI (sI (sI (sI S_5 6 (ad 12) (nI bx)) 7 (ad 12) (nI (bx + bw))) 8 (ad 12) (nI bY)) 9 (ad 12) (nI (bY + bh))) 4 (ad 12) (nI (cv + (bw * bh)))) 3 (ad 12) (nI (mk + 1)))) (g := 2) (a := (ad 12)) (v := nI (mk + 1)) (by decide) (rd_sIf (S := (sI (sI (sI (sI (sI S_5 6 (ad 12) (nI bx)) 7 (ad 12) (nI (bx + bw))) 8 (ad 12) (nI bY)) 9 (ad 12) (nI (bY + bh))) 4 (ad 12) (nI (cv + (bw * bh))))) (g := 3) (a := (ad 12)) (v := nI (mk + 1)) (by decide) (rd_sIf (S := (sI (sI (sI (sI S_5 6 (ad 12) (nI bx)) 7 (ad 12) (nI (bx + bw))) 8 (ad 12) (nI bY)) 9 (ad 12) (nI (bY + bh)))) (g := 4) (a := (ad 12)) (v := nI (cv + (bw * bh))) (by decide) (rd_sIf (S := (sI (sI (sI S_5 6 (ad 12) (nI bx)) 7 (ad 12) (nI (bx + bw))) 8 (ad 12) (nI bY))) (g := 9) (a := (ad 12)) (v := nI (bY + bh)) (by decide) (rd_sIf (S := (sI (sI S_5 6 (ad 12) (nI bx)) 7 (ad 12) (nI (bx + bw)))) (g := 8) (a := (ad 12)) (v := nI bY) (by decide) (rd_sIf (S := (sI S_5 6 (ad 12) (nI bx))) (g := 7) (a := (ad 12)) (v := nI (bx + bw)) (by decide) (rd_sIf (S := S_5) (g := 6) (a := (ad 12)) (v := nI bx) (by decide) hv_8)))))))
  have hv_45 : hI S_41 1001 (ad 24) = nI th := by rw [eS_42]; exact (rd_sIf (S := (sI (sI (sI (sI (sI (sI S_5 6 (ad 12) (nI bx)) 7 (ad 12) (nI (bx + bw))) 8 (ad 12) (nI bY)) 9 (ad 12) (nI (bY + bh))) 4 (ad 12) (nI (cv + (bw * bh)))) 3 (ad 12) (nI (mk + 1)))) (g := 2) (a := (ad 12)) (v := nI (mk + 1)) (by decide) (rd_sIf (S := (sI (sI (sI (sI (sI S_5 6 (ad 12) (nI bx)) 7 (ad 12) (nI (bx + bw))) 8 (ad 12) (nI bY)) 9 (ad 12) (nI (bY + bh))) 4 (ad 12) (nI (cv + (bw * bh))))) (g := 3) (a := (ad 12)) (v := nI (mk + 1)) (by decide) (rd_sIf (S := (sI (sI (sI (sI S_5 6 (ad 12) (nI bx)) 7 (ad 12) (nI (bx + bw))) 8 (ad 12) (nI bY)) 9 (ad 12) (nI (bY + bh)))) (g := 4) (a := (ad 12)) (v := nI (cv + (bw * bh))) (by decide) (rd_sIf (S := (sI (sI (sI S_5 6 (ad 12) (nI bx)) 7 (ad 12) (nI (bx + bw))) 8 (ad 12) (nI bY))) (g := 9) (a := (ad 12)) (v := nI (bY + bh)) (by decide) (rd_sIf (S := (sI (sI S_5 6 (ad 12) (nI bx)) 7 (ad 12) (nI (bx + bw)))) (g := 8) (a := (ad 12)) (v := nI bY) (by decide) (rd_sIf (S := (sI S_5 6 (ad 12) (nI bx))) (g := 7) (a := (ad 12)) (v := nI (bx + bw)) (by decide) (rd_sIf (S := S_5) (g := 6) (a := (ad 12)) (v := nI bx) (by decide) hv_9)))))))
  have hv_46 : hI S_41 1002 (ad 24) = cI wh := by rw [eS_42]; exact (rd_sIf (S := (sI (sI (sI (sI (sI (sI S_5 6 (ad 12) (nI bx)) 7 (ad 12) (nI (bx + bw))) 8 (ad 12) (nI bY)) 9 (ad 12) (nI (bY + bh))) 4 (ad 12) (nI (cv + (bw * bh)))) 3 (ad 12) (nI (mk + 1)))) (g := 2) (a := (ad 12)) (v := nI (mk + 1)) (by decide) (rd_sIf (S := (sI (sI (sI (sI (sI S_5 6 (ad 12) (nI bx)) 7 (ad 12) (nI (bx + bw))) 8 (ad 12) (nI bY)) 9 (ad 12) (nI (bY + bh))) 4 (ad 12) (nI (cv + (bw * bh))))) (g := 3) (a := (ad 12)) (v := nI (mk + 1)) (by decide) (rd_sIf (S := (sI (sI (sI (sI S_5 6 (ad 12) (nI bx)) 7 (ad 12) (nI (bx + bw))) 8 (ad 12) (nI bY)) 9 (ad 12) (nI (bY + bh)))) (g := 4) (a := (ad 12)) (v := nI (cv + (bw * bh))) (by decide) (rd_sIf (S := (sI (sI (sI S_5 6 (ad 12) (nI bx)) 7 (ad 12) (nI (bx + bw))) 8 (ad 12) (nI bY))) (g := 9) (a := (ad 12)) (v := nI (bY + bh)) (by decide) (rd_sIf (S := (sI (sI S_5 6 (ad 12) (nI bx)) 7 (ad 12) (nI (bx + bw)))) (g := 8) (a := (ad 12)) (v := nI bY) (by decide) (rd_sIf (S := (sI S_5 6 (ad 12) (nI bx))) (g := 7) (a := (ad 12)) (v := nI (bx + bw)) (by decide) (rd_sIf (S := S_5) (g := 6) (a := (ad 12)) (v := nI bx) (by decide) hv_10)))))))
  have hv_47 : hI S_41 11 (ad 12) = 0 := by rw [eS_42]; exact (rd_sIf (S := (sI (sI (sI (sI (sI (sI S_5 6 (ad 12) (nI bx)) 7 (ad 12) (nI (bx + bw))) 8 (ad 12) (nI bY)) 9 (ad 12) (nI (bY + bh))) 4 (ad 12) (nI (cv + (bw * bh)))) 3 (ad 12) (nI (mk + 1)))) (g := 2) (a := (ad 12)) (v := nI (mk + 1)) (by decide) (rd_sIf (S := (sI (sI (sI (sI (sI S_5 6 (ad 12) (nI bx)) 7 (ad 12) (nI (bx + bw))) 8 (ad 12) (nI bY)) 9 (ad 12) (nI (bY + bh))) 4 (ad 12) (nI (cv + (bw * bh))))) (g := 3) (a := (ad 12)) (v := nI (mk + 1)) (by decide) (rd_sIf (S := (sI (sI (sI (sI S_5 6 (ad 12) (nI bx)) 7 (ad 12) (nI (bx + bw))) 8 (ad 12) (nI bY)) 9 (ad 12) (nI (bY + bh)))) (g := 4) (a := (ad 12)) (v := nI (cv + (bw * bh))) (by decide) (rd_sIf (S := (sI (sI (sI S_5 6 (ad 12) (nI bx)) 7 (ad 12) (nI (bx + bw))) 8 (ad 12) (nI bY))) (g := 9) (a := (ad 12)) (v := nI (bY + bh)) (by decide) (rd_sIf (S := (sI (sI S_5 6 (ad 12) (nI bx)) 7 (ad 12) (nI (bx + bw)))) (g := 8) (a := (ad 12)) (v := nI bY) (by decide) (rd_sIf (S := (sI S_5 6 (ad 12) (nI bx))) (g := 7) (a := (ad 12)) (v := nI (bx + bw)) (by decide) (rd_sIf (S := S_5) (g := 6) (a := (ad 12)) (v := nI bx) (by decide) hv_11)))))))
  have hv_48 : hI S_41 110 (ad 26) = 0 := by rw [eS_42]; exact (rd_sIf (S := (sI (sI (sI (sI (sI (sI S_5 6 (ad 12) (nI bx)) 7 (ad 12) (nI (bx + bw))) 8 (ad 12) (nI bY)) 9 (ad 12) (nI (bY + bh))) 4 (ad 12) (nI (cv + (bw * bh)))) 3 (ad 12) (nI (mk + 1)))) (g := 2) (a := (ad 12)) (v := nI (mk + 1)) (by decide) (rd_sIf (S := (sI (sI (sI (sI (sI S_5 6 (ad 12) (nI bx)) 7 (ad 12) (nI (bx + bw))) 8 (ad 12) (nI bY)) 9 (ad 12) (nI (bY + bh))) 4 (ad 12) (nI (cv + (bw * bh))))) (g := 3) (a := (ad 12)) (v := nI (mk + 1)) (by decide) (rd_sIf (S := (sI (sI (sI (sI S_5 6 (ad 12) (nI bx)) 7 (ad 12) (nI (bx + bw))) 8 (ad 12) (nI bY)) 9 (ad 12) (nI (bY + bh)))) (g := 4) (a := (ad 12)) (v := nI (cv + (bw * bh))) (by decide) (rd_sIf (S := (sI (sI (sI S_5 6 (ad 12) (nI bx)) 7 (ad 12) (nI (bx + bw))) 8 (ad 12) (nI bY))) (g := 9) (a := (ad 12)) (v := nI (bY + bh)) (by decide) (rd_sIf (S := (sI (sI S_5 6 (ad 12) (nI bx)) 7 (ad 12) (nI (bx + bw)))) (g := 8) (a := (ad 12)) (v := nI bY) (by decide) (rd_sIf (S := (sI S_5 6 (ad 12) (nI bx))) (g := 7) (a := (ad 12)) (v := nI (bx + bw)) (by decide) (rd_sIf (S := S_5) (g := 6) (a := (ad 12)) (v := nI bx) (by decide) hv_12)))))))
  have hv_49 : hI S_41 111 (ad 26) = cI po := by rw [eS_42]; exact (rd_sIf (S := (sI (sI (sI (sI (sI (sI S_5 6 (ad 12) (nI bx)) 7 (ad 12) (nI (bx + bw))) 8 (ad 12) (nI bY)) 9 (ad 12) (nI (bY + bh))) 4 (ad 12) (nI (cv + (bw * bh)))) 3 (ad 12) (nI (mk + 1)))) (g := 2) (a := (ad 12)) (v := nI (mk + 1)) (by decide) (rd_sIf (S := (sI (sI (sI (sI (sI S_5 6 (ad 12) (nI bx)) 7 (ad 12) (nI (bx + bw))) 8 (ad 12) (nI bY)) 9 (ad 12) (nI (bY + bh))) 4 (ad 12) (nI (cv + (bw * bh))))) (g := 3) (a := (ad 12)) (v := nI (mk + 1)) (by decide) (rd_sIf (S := (sI (sI (sI (sI S_5 6 (ad 12) (nI bx)) 7 (ad 12) (nI (bx + bw))) 8 (ad 12) (nI bY)) 9 (ad 12) (nI (bY + bh)))) (g := 4) (a := (ad 12)) (v := nI (cv + (bw * bh))) (by decide) (rd_sIf (S := (sI (sI (sI S_5 6 (ad 12) (nI bx)) 7 (ad 12) (nI (bx + bw))) 8 (ad 12) (nI bY))) (g := 9) (a := (ad 12)) (v := nI (bY + bh)) (by decide) (rd_sIf (S := (sI (sI S_5 6 (ad 12) (nI bx)) 7 (ad 12) (nI (bx + bw)))) (g := 8) (a := (ad 12)) (v := nI bY) (by decide) (rd_sIf (S := (sI S_5 6 (ad 12) (nI bx))) (g := 7) (a := (ad 12)) (v := nI (bx + bw)) (by decide) (rd_sIf (S := S_5) (g := 6) (a := (ad 12)) (v := nI bx) (by decide) hv_13)))))))
  have hv_50 : hI S_41 112 (ad 26) = 0 := by rw [eS_42]; exact (rd_sIf (S := (sI (sI (sI (sI (sI (sI S_5 6 (ad 12) (nI bx)) 7 (ad 12) (nI (bx + bw))) 8 (ad 12) (nI bY)) 9 (ad 12) (nI (bY + bh))) 4 (ad 12) (nI (cv + (bw * bh)))) 3 (ad 12) (nI (mk + 1)))) (g := 2) (a := (ad 12)) (v := nI (mk + 1)) (by decide) (rd_sIf (S := (sI (sI (sI (sI (sI S_5 6 (ad 12) (nI bx)) 7 (ad 12) (nI (bx + bw))) 8 (ad 12) (nI bY)) 9 (ad 12) (nI (bY + bh))) 4 (ad 12) (nI (cv + (bw * bh))))) (g := 3) (a := (ad 12)) (v := nI (mk + 1)) (by decide) (rd_sIf (S := (sI (sI (sI (sI S_5 6 (ad 12) (nI bx)) 7 (ad 12) (nI (bx + bw))) 8 (ad 12) (nI bY)) 9 (ad 12) (nI (bY + bh)))) (g := 4) (a := (ad 12)) (v := nI (cv + (bw * bh))) (by decide) (rd_sIf (S := (sI (sI (sI S_5 6 (ad 12) (nI bx)) 7 (ad 12) (nI (bx + bw))) 8 (ad 12) (nI bY))) (g := 9) (a := (ad 12)) (v := nI (bY + bh)) (by decide) (rd_sIf (S := (sI (sI S_5 6 (ad 12) (nI bx)) 7 (ad 12) (nI (bx + bw)))) (g := 8) (a := (ad 12)) (v := nI bY) (by decide) (rd_sIf (S := (sI S_5 6 (ad 12) (nI bx))) (g := 7) (a := (ad 12)) (v := nI (bx + bw)) (by decide) (rd_sIf (S := S_5) (g := 6) (a := (ad 12)) (v := nI bx) (by decide) hv_14)))))))
  have hv_51 : hI S_41 113 (ad 26) = 0 := by rw [eS_42]; exact (rd_sIf (S := (sI (sI (sI (sI (sI (sI S_5 6 (ad 12) (nI bx)) 7 (ad 12) (nI (bx + bw))) 8 (ad 12) (nI bY)) 9 (ad 12) (nI (bY + bh))) 4 (ad 12) (nI (cv + (bw * bh)))) 3 (ad 12) (nI (mk + 1)))) (g := 2) (a := (ad 12)) (v := nI (mk + 1)) (by decide) (rd_sIf (S := (sI (sI (sI (sI (sI S_5 6 (ad 12) (nI bx)) 7 (ad 12) (nI (bx + bw))) 8 (ad 12) (nI bY)) 9 (ad 12) (nI (bY + bh))) 4 (ad 12) (nI (cv + (bw * bh))))) (g := 3) (a := (ad 12)) (v := nI (mk + 1)) (by decide) (rd_sIf (S := (sI (sI (sI (sI S_5 6 (ad 12) (nI bx)) 7 (ad 12) (nI (bx + bw))) 8 (ad 12) (nI bY)) 9 (ad 12) (nI (bY + bh)))) (g := 4) (a := (ad 12)) (v := nI (cv + (bw * bh))) (by decide) (rd_sIf (S := (sI (sI (sI S_5 6 (ad 12) (nI bx)) 7 (ad 12) (nI (bx + bw))) 8 (ad 12) (nI bY))) (g := 9) (a := (ad 12)) (v := nI (bY + bh)) (by decide) (rd_sIf (S := (sI (sI S_5 6 (ad 12) (nI bx)) 7 (ad 12) (nI (bx + bw)))) (g := 8) (a := (ad 12)) (v := nI bY) (by decide) (rd_sIf (S := (sI S_5 6 (ad 12) (nI bx))) (g := 7) (a := (ad 12)) (v := nI (bx + bw)) (by decide) (rd_sIf (S := S_5) (g := 6) (a := (ad 12)) (v := nI bx) (by decide) hv_15)))))))
  have hv_52 : hI S_41 12 (ad 12) = 0 := by rw [eS_42]; exact (rd_sIf (S := (sI (sI (sI (sI (sI (sI S_5 6 (ad 12) (nI bx)) 7 (ad 12) (nI (bx + bw))) 8 (ad 12) (nI bY)) 9 (ad 12) (nI (bY + bh))) 4 (ad 12) (nI (cv + (bw * bh)))) 3 (ad 12) (nI (mk + 1)))) (g := 2) (a := (ad 12)) (v := nI (mk + 1)) (by decide) (rd_sIf (S := (sI (sI (sI (sI (sI S_5 6 (ad 12) (nI bx)) 7 (ad 12) (nI (bx + bw))) 8 (ad 12) (nI bY)) 9 (ad 12) (nI (bY + bh))) 4 (ad 12) (nI (cv + (bw * bh))))) (g := 3) (a := (ad 12)) (v := nI (mk + 1)) (by decide) (rd_sIf (S := (sI (sI (sI (sI S_5 6 (ad 12) (nI bx)) 7 (ad 12) (nI (bx + bw))) 8 (ad 12) (nI bY)) 9 (ad 12) (nI (bY + bh)))) (g := 4) (a := (ad 12)) (v := nI (cv + (bw * bh))) (by decide) (rd_sIf (S := (sI (sI (sI S_5 6 (ad 12) (nI bx)) 7 (ad 12) (nI (bx + bw))) 8 (ad 12) (nI bY))) (g := 9) (a := (ad 12)) (v := nI (bY + bh)) (by decide) (rd_sIf (S := (sI (sI S_5 6 (ad 12) (nI bx)) 7 (ad 12) (nI (bx + bw)))) (g := 8) (a := (ad 12)) (v := nI bY) (by decide) (rd_sIf (S := (sI S_5 6 (ad 12) (nI bx))) (g := 7) (a := (ad 12)) (v := nI (bx + bw)) (by decide) (rd_sIf (S := S_5) (g := 6) (a := (ad 12)) (v := nI bx) (by decide) hv_16)))))))
  have hv_53 : hI S_41 13 (ad 12) = 0 := by rw [eS_42]; exact (rd_sIf (S := (sI (sI (sI (sI (sI (sI S_5 6 (ad 12) (nI bx)) 7 (ad 12) (nI (bx + bw))) 8 (ad 12) (nI bY)) 9 (ad 12) (nI (bY + bh))) 4 (ad 12) (nI (cv + (bw * bh)))) 3 (ad 12) (nI (mk + 1)))) (g := 2) (a := (ad 12)) (v := nI (mk + 1)) (by decide) (rd_sIf (S := (sI (sI (sI (sI (sI S_5 6 (ad 12) (nI bx)) 7 (ad 12) (nI (bx + bw))) 8 (ad 12) (nI bY)) 9 (ad 12) (nI (bY + bh))) 4 (ad 12) (nI (cv + (bw * bh))))) (g := 3) (a := (ad 12)) (v := nI (mk + 1)) (by decide) (rd_sIf (S := (sI (sI (sI (sI S_5 6 (ad 12) (nI bx)) 7 (ad 12) (nI (bx + bw))) 8 (ad 12) (nI bY)) 9 (ad 12) (nI (bY + bh)))) (g := 4) (a := (ad 12)) (v := nI (cv + (bw * bh))) (by decide) (rd_sIf (S := (sI (sI (sI S_5 6 (ad 12) (nI bx)) 7 (ad 12) (nI (bx + bw))) 8 (ad 12) (nI bY))) (g := 9) (a := (ad 12)) (v := nI (bY + bh)) (by decide) (rd_sIf (S := (sI (sI S_5 6 (ad 12) (nI bx)) 7 (ad 12) (nI (bx + bw)))) (g := 8) (a := (ad 12)) (v := nI bY) (by decide) (rd_sIf (S := (sI S_5 6 (ad 12) (nI bx))) (g := 7) (a := (ad 12)) (v := nI (bx + bw)) (by decide) (rd_sIf (S := S_5) (g := 6) (a := (ad 12)) (v := nI bx) (by decide) hv_17)))))))
  have hv_54 : hI S_41 14 (ad 12) = (fI (po || wh)) := by rw [eS_42]; exact (rd_sIf (S := (sI (sI (sI (sI (sI (sI S_5 6 (ad 12) (nI bx)) 7 (ad 12) (nI (bx + bw))) 8 (ad 12) (nI bY)) 9 (ad 12) (nI (bY + bh))) 4 (ad 12) (nI (cv + (bw * bh)))) 3 (ad 12) (nI (mk + 1)))) (g := 2) (a := (ad 12)) (v := nI (mk + 1)) (by decide) (rd_sIf (S := (sI (sI (sI (sI (sI S_5 6 (ad 12) (nI bx)) 7 (ad 12) (nI (bx + bw))) 8 (ad 12) (nI bY)) 9 (ad 12) (nI (bY + bh))) 4 (ad 12) (nI (cv + (bw * bh))))) (g := 3) (a := (ad 12)) (v := nI (mk + 1)) (by decide) (rd_sIf (S := (sI (sI (sI (sI S_5 6 (ad 12) (nI bx)) 7 (ad 12) (nI (bx + bw))) 8 (ad 12) (nI bY)) 9 (ad 12) (nI (bY + bh)))) (g := 4) (a := (ad 12)) (v := nI (cv + (bw * bh))) (by decide) (rd_sIf (S := (sI (sI (sI S_5 6 (ad 12) (nI bx)) 7 (ad 12) (nI (bx + bw))) 8 (ad 12) (nI bY))) (g := 9) (a := (ad 12)) (v := nI (bY + bh)) (by decide) (rd_sIf (S := (sI (sI S_5 6 (ad 12) (nI bx)) 7 (ad 12) (nI (bx + bw)))) (g := 8) (a := (ad 12)) (v := nI bY) (by decide) (rd_sIf (S := (sI S_5 6 (ad 12) (nI bx))) (g := 7) (a := (ad 12)) (v := nI (bx + bw)) (by decide) (rd_sIf (S := S_5) (g := 6) (a := (ad 12)) (v := nI bx) (by decide) hv_18)))))))
  have hv_55 : hI S_41 2 (ad 12) = nI (mk + 1) := by rw [eS_42]; exact (rd_sI (S := (sI (sI (sI (sI (sI (sI S_5 6 (ad 12) (nI bx)) 7 (ad 12) (nI (bx + bw))) 8 (ad 12) (nI bY)) 9 (ad 12) (nI (bY + bh))) 4 (ad 12) (nI (cv + (bw * bh)))) 3 (ad 12) (nI (mk + 1)))) (g := 2) (a := (ad 12)) (v := nI (mk + 1)))
  have hv_56 : hI S_41 3 (ad 12) = nI (mk + 1) := by rw [eS_42]; exact (rd_sIf (S := (sI (sI (sI (sI (sI (sI S_5 6 (ad 12) (nI bx)) 7 (ad 12) (nI (bx + bw))) 8 (ad 12) (nI bY)) 9 (ad 12) (nI (bY + bh))) 4 (ad 12) (nI (cv + (bw * bh)))) 3 (ad 12) (nI (mk + 1)))) (g := 2) (a := (ad 12)) (v := nI (mk + 1)) (by decide) (rd_sI (S := (sI (sI (sI (sI (sI S_5 6 (ad 12) (nI bx)) 7 (ad 12) (nI (bx + bw))) 8 (ad 12) (nI bY)) 9 (ad 12) (nI (bY + bh))) 4 (ad 12) (nI (cv + (bw * bh))))) (g := 3) (a := (ad 12)) (v := nI (mk + 1))))
  have hv_57 : hI S_41 4 (ad 12) = nI (cv + (bw * bh)) := by rw [eS_42]; exact (rd_sIf (S := (sI (sI (sI (sI (sI (sI S_5 6 (ad 12) (nI bx)) 7 (ad 12) (nI (bx + bw))) 8 (ad 12) (nI bY)) 9 (ad 12) (nI (bY + bh))) 4 (ad 12) (nI (cv + (bw * bh)))) 3 (ad 12) (nI (mk + 1)))) (g := 2) (a := (ad 12)) (v := nI (mk + 1)) (by decide) (rd_sIf (S := (sI (sI (sI (sI (sI S_5 6 (ad 12) (nI bx)) 7 (ad 12) (nI (bx + bw))) 8 (ad 12) (nI bY)) 9 (ad 12) (nI (bY + bh))) 4 (ad 12) (nI (cv + (bw * bh))))) (g := 3) (a := (ad 12)) (v := nI (mk + 1)) (by decide) (rd_sI (S := (sI (sI (sI (sI S_5 6 (ad 12) (nI bx)) 7 (ad 12) (nI (bx + bw))) 8 (ad 12) (nI bY)) 9 (ad 12) (nI (bY + bh)))) (g := 4) (a := (ad 12)) (v := nI (cv + (bw * bh))))))
  have hv_58 : hI S_41 5 (ad 12) = 0 := by rw [eS_42]; exact (rd_sIf (S := (sI (sI (sI (sI (sI (sI S_5 6 (ad 12) (nI bx)) 7 (ad 12) (nI (bx + bw))) 8 (ad 12) (nI bY)) 9 (ad 12) (nI (bY + bh))) 4 (ad 12) (nI (cv + (bw * bh)))) 3 (ad 12) (nI (mk + 1)))) (g := 2) (a := (ad 12)) (v := nI (mk + 1)) (by decide) (rd_sIf (S := (sI (sI (sI (sI (sI S_5 6 (ad 12) (nI bx)) 7 (ad 12) (nI (bx + bw))) 8 (ad 12) (nI bY)) 9 (ad 12) (nI (bY + bh))) 4 (ad 12) (nI (cv + (bw * bh))))) (g := 3) (a := (ad 12)) (v := nI (mk + 1)) (by decide) (rd_sIf (S := (sI (sI (sI (sI S_5 6 (ad 12) (nI bx)) 7 (ad 12) (nI (bx + bw))) 8 (ad 12) (nI bY)) 9 (ad 12) (nI (bY + bh)))) (g := 4) (a := (ad 12)) (v := nI (cv + (bw * bh))) (by decide) (rd_sIf (S := (sI (sI (sI S_5 6 (ad 12) (nI bx)) 7 (ad 12) (nI (bx + bw))) 8 (ad 12) (nI bY))) (g := 9) (a := (ad 12)) (v := nI (bY + bh)) (by decide) (rd_sIf (S := (sI (sI S_5 6 (ad 12) (nI bx)) 7 (ad 12) (nI (bx + bw)))) (g := 8) (a := (ad 12)) (v := nI bY) (by decide) (rd_sIf (S := (sI S_5 6 (ad 12) (nI bx))) (g := 7) (a := (ad 12)) (v := nI (bx + bw)) (by decide) (rd_sIf (S := S_5) (g := 6) (a := (ad 12)) (v := nI bx) (by decide) hv_22)))))))
  have hv_59 : hI S_41 6 (ad 12) = nI bx := by rw [eS_42]; exact (rd_sIf (S := (sI (sI (sI (sI (sI (sI S_5 6 (ad 12) (nI bx)) 7 (ad 12) (nI (bx + bw))) 8 (ad 12) (nI bY)) 9 (ad 12) (nI (bY + bh))) 4 (ad 12) (nI (cv + (bw * bh)))) 3 (ad 12) (nI (mk + 1)))) (g := 2) (a := (ad 12)) (v := nI (mk + 1)) (by decide) (rd_sIf (S := (sI (sI (sI (sI (sI S_5 6 (ad 12) (nI bx)) 7 (ad 12) (nI (bx + bw))) 8 (ad 12) (nI bY)) 9 (ad 12) (nI (bY + bh))) 4 (ad 12) (nI (cv + (bw * bh))))) (g := 3) (a := (ad 12)) (v := nI (mk + 1)) (by decide) (rd_sIf (S := (sI (sI (sI (sI S_5 6 (ad 12) (nI bx)) 7 (ad 12) (nI (bx + bw))) 8 (ad 12) (nI bY)) 9 (ad 12) (nI (bY + bh)))) (g := 4) (a := (ad 12)) (v := nI (cv + (bw * bh))) (by decide) (rd_sIf (S := (sI (sI (sI S_5 6 (ad 12) (nI bx)) 7 (ad 12) (nI (bx + bw))) 8 (ad 12) (nI bY))) (g := 9) (a := (ad 12)) (v := nI (bY + bh)) (by decide) (rd_sIf (S := (sI (sI S_5 6 (ad 12) (nI bx)) 7 (ad 12) (nI (bx + bw)))) (g := 8) (a := (ad 12)) (v := nI bY) (by decide) (rd_sIf (S := (sI S_5 6 (ad 12) (nI bx))) (g := 7) (a := (ad 12)) (v := nI (bx + bw)) (by decide) (rd_sI (S := S_5) (g := 6) (a := (ad 12)) (v := nI bx))))))))
  have hv_60 : hI S_41 603 (ad 5) = 0 := by rw [eS_42]; exact (rd_sIf (S := (sI (sI (sI (sI (sI (sI S_5 6 (ad 12) (nI bx)) 7 (ad 12) (nI (bx + bw))) 8 (ad 12) (nI bY)) 9 (ad 12) (nI (bY + bh))) 4 (ad 12) (nI (cv + (bw * bh)))) 3 (ad 12) (nI (mk + 1)))) (g := 2) (a := (ad 12)) (v := nI (mk + 1)) (by decide) (rd_sIf (S := (sI (sI (sI (sI (sI S_5 6 (ad 12) (nI bx)) 7 (ad 12) (nI (bx + bw))) 8 (ad 12) (nI bY)) 9 (ad 12) (nI (bY + bh))) 4 (ad 12) (nI (cv + (bw * bh))))) (g := 3) (a := (ad 12)) (v := nI (mk + 1)) (by decide) (rd_sIf (S := (sI (sI (sI (sI S_5 6 (ad 12) (nI bx)) 7 (ad 12) (nI (bx + bw))) 8 (ad 12) (nI bY)) 9 (ad 12) (nI (bY + bh)))) (g := 4) (a := (ad 12)) (v := nI (cv + (bw * bh))) (by decide) (rd_sIf (S := (sI (sI (sI S_5 6 (ad 12) (nI bx)) 7 (ad 12) (nI (bx + bw))) 8 (ad 12) (nI bY))) (g := 9) (a := (ad 12)) (v := nI (bY + bh)) (by decide) (rd_sIf (S := (sI (sI S_5 6 (ad 12) (nI bx)) 7 (ad 12) (nI (bx + bw)))) (g := 8) (a := (ad 12)) (v := nI bY) (by decide) (rd_sIf (S := (sI S_5 6 (ad 12) (nI bx))) (g := 7) (a := (ad 12)) (v := nI (bx + bw)) (by decide) (rd_sIf (S := S_5) (g := 6) (a := (ad 12)) (v := nI bx) (by decide) hv_23)))))))
  have hv_61 : hI S_41 7 (ad 12) = nI (bx + bw) := by rw [eS_42]; exact (rd_sIf (S := (sI (sI (sI (sI (sI (sI S_5 6 (ad 12) (nI bx)) 7 (ad 12) (nI (bx + bw))) 8 (ad 12) (nI bY)) 9 (ad 12) (nI (bY + bh))) 4 (ad 12) (nI (cv + (bw * bh)))) 3 (ad 12) (nI (mk + 1)))) (g := 2) (a := (ad 12)) (v := nI (mk + 1)) (by decide) (rd_sIf (S := (sI (sI (sI (sI (sI S_5 6 (ad 12) (nI bx)) 7 (ad 12) (nI (bx + bw))) 8 (ad 12) (nI bY)) 9 (ad 12) (nI (bY + bh))) 4 (ad 12) (nI (cv + (bw * bh))))) (g := 3) (a := (ad 12)) (v := nI (mk + 1)) (by decide) (rd_sIf (S := (sI (sI (sI (sI S_5 6 (ad 12) (nI bx)) 7 (ad 12) (nI (bx + bw))) 8 (ad 12) (nI bY)) 9 (ad 12) (nI (bY + bh)))) (g := 4) (a := (ad 12)) (v := nI (cv + (bw * bh))) (by decide) (rd_sIf (S := (sI (sI (sI S_5 6 (ad 12) (nI bx)) 7 (ad 12) (nI (bx + bw))) 8 (ad 12) (nI bY))) (g := 9) (a := (ad 12)) (v := nI (bY + bh)) (by decide) (rd_sIf (S := (sI (sI S_5 6 (ad 12) (nI bx)) 7 (ad 12) (nI (bx + bw)))) (g := 8) (a := (ad 12)) (v := nI bY) (by decide) (rd_sI (S := (sI S_5 6 (ad 12) (nI bx))) (g := 7) (a := (ad 12)) (v := nI (bx + bw))))))))
  have hv_62 : hI S_41 700 (ad 27) = 0 := by rw [eS_42]; exact (rd_sIf (S := (sI (sI (sI (sI (sI (sI S_5 6 (ad 12) (nI bx)) 7 (ad 12) (nI (bx + bw))) 8 (ad 12) (nI bY)) 9 (ad 12) (nI (bY + bh))) 4 (ad 12) (nI (cv + (bw * bh)))) 3 (ad 12) (nI (mk + 1)))) (g := 2) (a := (ad 12)) (v := nI (mk + 1)) (by decide) (rd_sIf (S := (sI (sI (sI (sI (sI S_5 6 (ad 12) (nI bx)) 7 (ad 12) (nI (bx + bw))) 8 (ad 12) (nI bY)) 9 (ad 12) (nI (bY + bh))) 4 (ad 12) (nI (cv + (bw * bh))))) (g := 3) (a := (ad 12)) (v := nI (mk + 1)) (by decide) (rd_sIf (S := (sI (sI (sI (sI S_5 6 (ad 12) (nI bx)) 7 (ad 12) (nI (bx + bw))) 8 (ad 12) (nI bY)) 9 (ad 12) (nI (bY + bh)))) (g := 4) (a := (ad 12)) (v := nI (cv + (bw * bh))) (by decide) (rd_sIf (S := (sI (sI (sI S_5 6 (ad 12) (nI bx)) 7 (ad 12) (nI (bx + bw))) 8 (ad 12) (nI bY))) (g := 9) (a := (ad 12)) (v := nI (bY + bh)) (by decide) (rd_sIf (S := (sI (sI S_5 6 (ad 12) (nI bx)) 7 (ad 12) (nI (bx + bw)))) (g := 8) (a := (ad 12)) (v := nI bY) (by decide) (rd_sIf (S := (sI S_5 6 (ad 12) (nI bx))) (g := 7) (a := (ad 12)) (v := nI (bx + bw)) (by decide) (rd_sIf (S := S_5) (g := 6) (a := (ad 12)) (v := nI bx) (by decide) hv_24)))))))
  have hv_63 : hI S_41 701 (ad 27) = 0 := by rw [eS_42]; exact (rd_sIf (S := (sI (sI (sI (sI (sI (sI S_5 6 (ad 12) (nI bx)) 7 (ad 12) (nI (bx + bw))) 8 (ad 12) (nI bY)) 9 (ad 12) (nI (bY + bh))) 4 (ad 12) (nI (cv + (bw * bh)))) 3 (ad 12) (nI (mk + 1)))) (g := 2) (a := (ad 12)) (v := nI (mk + 1)) (by decide) (rd_sIf (S := (sI (sI (sI (sI (sI S_5 6 (ad 12) (nI bx)) 7 (ad 12) (nI (bx + bw))) 8 (ad 12) (nI bY)) 9 (ad 12) (nI (bY + bh))) 4 (ad 12) (nI (cv + (bw * bh))))) (g := 3) (a := (ad 12)) (v := nI (mk + 1)) (by decide) (rd_sIf (S := (sI (sI (sI (sI S_5 6 (ad 12) (nI bx)) 7 (ad 12) (nI (bx + bw))) 8 (ad 12) (nI bY)) 9 (ad 12) (nI (bY + bh)))) (g := 4) (a := (ad 12)) (v := nI (cv + (bw * bh))) (by decide) (rd_sIf (S := (sI (sI (sI S_5 6 (ad 12) (nI bx)) 7 (ad 12) (nI (bx + bw))) 8 (ad 12) (nI bY))) (g := 9) (a := (ad 12)) (v := nI (bY + bh)) (by decide) (rd_sIf (S := (sI (sI S_5 6 (ad 12) (nI bx)) 7 (ad 12) (nI (bx + bw)))) (g := 8) (a := (ad 12)) (v := nI bY) (by decide) (rd_sIf (S := (sI S_5 6 (ad 12) (nI bx))) (g := 7) (a := (ad 12)) (v := nI (bx + bw)) (by decide) (rd_sIf (S := S_5) (g := 6) (a := (ad 12)) (v := nI bx) (by decide) hv_25)))))))
  have hv_64 : hI S_41 8 (ad 12) = nI bY := by rw [eS_42]; exact (rd_sIf (S := (sI (sI (sI (sI (sI (sI S_5 6 (ad 12) (nI bx)) 7 (ad 12) (nI (bx + bw))) 8 (ad 12) (nI bY)) 9 (ad 12) (nI (bY + bh))) 4 (ad 12) (nI (cv + (bw * bh)))) 3 (ad 12) (nI (mk + 1)))) (g := 2) (a := (ad 12)) (v := nI (mk + 1)) (by decide) (rd_sIf (S := (sI (sI (sI (sI (sI S_5 6 (ad 12) (nI bx)) 7 (ad 12) (nI (bx + bw))) 8 (ad 12) (nI bY)) 9 (ad 12) (nI (bY + bh))) 4 (ad 12) (nI (cv + (bw * bh))))) (g := 3) (a := (ad 12)) (v := nI (mk + 1)) (by decide) (rd_sIf (S := (sI (sI (sI (sI S_5 6 (ad 12) (nI bx)) 7 (ad 12) (nI (bx + bw))) 8 (ad 12) (nI bY)) 9 (ad 12) (nI (bY + bh)))) (g := 4) (a := (ad 12)) (v := nI (cv + (bw * bh))) (by decide) (rd_sIf (S := (sI (sI (sI S_5 6 (ad 12) (nI bx)) 7 (ad 12) (nI (bx + bw))) 8 (ad 12) (nI bY))) (g := 9) (a := (ad 12)) (v := nI (bY + bh)) (by decide) (rd_sI (S := (sI (sI S_5 6 (ad 12) (nI bx)) 7 (ad 12) (nI (bx + bw)))) (g := 8) (a := (ad 12)) (v := nI bY))))))
  have hv_65 : hI S_41 9 (ad 12) = nI (bY + bh) := by rw [eS_42]; exact (rd_sIf (S := (sI (sI (sI (sI (sI (sI S_5 6 (ad 12) (nI bx)) 7 (ad 12) (nI (bx + bw))) 8 (ad 12) (nI bY)) 9 (ad 12) (nI (bY + bh))) 4 (ad 12) (nI (cv + (bw * bh)))) 3 (ad 12) (nI (mk + 1)))) (g := 2) (a := (ad 12)) (v := nI (mk + 1)) (by decide) (rd_sIf (S := (sI (sI (sI (sI (sI S_5 6 (ad 12) (nI bx)) 7 (ad 12) (nI (bx + bw))) 8 (ad 12) (nI bY)) 9 (ad 12) (nI (bY + bh))) 4 (ad 12) (nI (cv + (bw * bh))))) (g := 3) (a := (ad 12)) (v := nI (mk + 1)) (by decide) (rd_sIf (S := (sI (sI (sI (sI S_5 6 (ad 12) (nI bx)) 7 (ad 12) (nI (bx + bw))) 8 (ad 12) (nI bY)) 9 (ad 12) (nI (bY + bh)))) (g := 4) (a := (ad 12)) (v := nI (cv + (bw * bh))) (by decide) (rd_sI (S := (sI (sI (sI S_5 6 (ad 12) (nI bx)) 7 (ad 12) (nI (bx + bw))) 8 (ad 12) (nI bY))) (g := 9) (a := (ad 12)) (v := nI (bY + bh))))))
  have hv_66 : hI S_41 916 (ad 6) = nI gn := by rw [eS_42]; exact (rd_sIf (S := (sI (sI (sI (sI (sI (sI S_5 6 (ad 12) (nI bx)) 7 (ad 12) (nI (bx + bw))) 8 (ad 12) (nI bY)) 9 (ad 12) (nI (bY + bh))) 4 (ad 12) (nI (cv + (bw * bh)))) 3 (ad 12) (nI (mk + 1)))) (g := 2) (a := (ad 12)) (v := nI (mk + 1)) (by decide) (rd_sIf (S := (sI (sI (sI (sI (sI S_5 6 (ad 12) (nI bx)) 7 (ad 12) (nI (bx + bw))) 8 (ad 12) (nI bY)) 9 (ad 12) (nI (bY + bh))) 4 (ad 12) (nI (cv + (bw * bh))))) (g := 3) (a := (ad 12)) (v := nI (mk + 1)) (by decide) (rd_sIf (S := (sI (sI (sI (sI S_5 6 (ad 12) (nI bx)) 7 (ad 12) (nI (bx + bw))) 8 (ad 12) (nI bY)) 9 (ad 12) (nI (bY + bh)))) (g := 4) (a := (ad 12)) (v := nI (cv + (bw * bh))) (by decide) (rd_sIf (S := (sI (sI (sI S_5 6 (ad 12) (nI bx)) 7 (ad 12) (nI (bx + bw))) 8 (ad 12) (nI bY))) (g := 9) (a := (ad 12)) (v := nI (bY + bh)) (by decide) (rd_sIf (S := (sI (sI S_5 6 (ad 12) (nI bx)) 7 (ad 12) (nI (bx + bw)))) (g := 8) (a := (ad 12)) (v := nI bY) (by decide) (rd_sIf (S := (sI S_5 6 (ad 12) (nI bx))) (g := 7) (a := (ad 12)) (v := nI (bx + bw)) (by decide) (rd_sIf (S := S_5) (g := 6) (a := (ad 12)) (v := nI bx) (by decide) hv_26)))))))
  have hv_67 : hR S_41 10 (ad 12) = (some (ad 24)) := by rw [eS_42]; exact hv_27
  have hf_68 : Fm (fun f9 b9 => (f9 = 2 ∧ b9 = (ad 12)) ∨ (f9 = 3 ∧ b9 = (ad 12)) ∨ (f9 = 4 ∧ b9 = (ad 12)) ∨ (f9 = 6 ∧ b9 = (ad 12)) ∨ (f9 = 7 ∧ b9 = (ad 12)) ∨ (f9 = 8 ∧ b9 = (ad 12)) ∨ (f9 = 9 ∧ b9 = (ad 12)) ∨ (f9 = 11 ∧ b9 = (ad 12)) ∨ (f9 = 12 ∧ b9 = (ad 12)) ∨ (f9 = 13 ∧ b9 = (ad 12)) ∨ (f9 = 14 ∧ b9 = (ad 12))) (fun f9 b9 => (f9 = 10 ∧ b9 = (ad 12))) (fun b9 => b9 = (ad 13)) S S_41 := by rw [eS_42]; exact hf_43
  have hW_69 : Wd ad S_41 := by rw [eS_42]; exact (Wd.sI (Wd.sI (Wd.sI (Wd.sI (Wd.sI (Wd.sI (Wd.sI hW_29)))))))
  have hx_70 : ∀ j, j < 25 → aI S_41 (ad 14) j = -1 := by rw [eS_42]; exact (by rw [show aI (sI (sI (sI (sI (sI (sI (sI S_5 6 (ad 12) (nI bx)) 7 (ad 12) (nI (bx + bw))) 8 (ad 12) (nI bY)) 9 (ad 12) (nI (bY + bh))) 4 (ad 12) (nI (cv + (bw * bh)))) 3 (ad 12) (nI (mk + 1))) 2 (ad 12) (nI (mk + 1))) (ad 14) = aI S_5 (ad 14) from ((arI_sI (S := (sI (sI (sI (sI (sI (sI S_5 6 (ad 12) (nI bx)) 7 (ad 12) (nI (bx + bw))) 8 (ad 12) (nI bY)) 9 (ad 12) (nI (bY + bh))) 4 (ad 12) (nI (cv + (bw * bh)))) 3 (ad 12) (nI (mk + 1))))).trans ((arI_sI (S := (sI (sI (sI (sI (sI S_5 6 (ad 12) (nI bx)) 7 (ad 12) (nI (bx + bw))) 8 (ad 12) (nI bY)) 9 (ad 12) (nI (bY + bh))) 4 (ad 12) (nI (cv + (bw * bh)))))).trans ((arI_sI (S := (sI (sI (sI (sI S_5 6 (ad 12) (nI bx)) 7 (ad 12) (nI (bx + bw))) 8 (ad 12) (nI bY)) 9 (ad 12) (nI (bY + bh))))).trans ((arI_sI (S := (sI (sI (sI S_5 6 (ad 12) (nI bx)) 7 (ad 12) (nI (bx + bw))) 8 (ad 12) (nI bY)))).trans ((arI_sI (S := (sI (sI S_5 6 (ad 12) (nI bx)) 7 (ad 12) (nI (bx + bw))))).trans ((arI_sI (S := (sI S_5 6 (ad 12) (nI bx)))).trans (arI_sI (S := S_5))))))))]; exact hx_30)
  have hx_71 : aI S_41 (ad 13) = D := by rw [eS_42]; exact (by rw [show aI (sI (sI (sI (sI (sI (sI (sI S_5 6 (ad 12) (nI bx)) 7 (ad 12) (nI (bx + bw))) 8 (ad 12) (nI bY)) 9 (ad 12) (nI (bY + bh))) 4 (ad 12) (nI (cv + (bw * bh)))) 3 (ad 12) (nI (mk + 1))) 2 (ad 12) (nI (mk + 1))) (ad 13) = aI S_5 (ad 13) from ((arI_sI (S := (sI (sI (sI (sI (sI (sI S_5 6 (ad 12) (nI bx)) 7 (ad 12) (nI (bx + bw))) 8 (ad 12) (nI bY)) 9 (ad 12) (nI (bY + bh))) 4 (ad 12) (nI (cv + (bw * bh)))) 3 (ad 12) (nI (mk + 1))))).trans ((arI_sI (S := (sI (sI (sI (sI (sI S_5 6 (ad 12) (nI bx)) 7 (ad 12) (nI (bx + bw))) 8 (ad 12) (nI bY)) 9 (ad 12) (nI (bY + bh))) 4 (ad 12) (nI (cv + (bw * bh)))))).trans ((arI_sI (S := (sI (sI (sI (sI S_5 6 (ad 12) (nI bx)) 7 (ad 12) (nI (bx + bw))) 8 (ad 12) (nI bY)) 9 (ad 12) (nI (bY + bh))))).trans ((arI_sI (S := (sI (sI (sI S_5 6 (ad 12) (nI bx)) 7 (ad 12) (nI (bx + bw))) 8 (ad 12) (nI bY)))).trans ((arI_sI (S := (sI (sI S_5 6 (ad 12) (nI bx)) 7 (ad 12) (nI (bx + bw))))).trans ((arI_sI (S := (sI S_5 6 (ad 12) (nI bx)))).trans (arI_sI (S := S_5))))))))]; exact hx_31)
  have hx_72 : aJ S_41 (ad 25) = Rw := by rw [eS_42]; exact (by rw [show aJ (sI (sI (sI (sI (sI (sI (sI S_5 6 (ad 12) (nI bx)) 7 (ad 12) (nI (bx + bw))) 8 (ad 12) (nI bY)) 9 (ad 12) (nI (bY + bh))) 4 (ad 12) (nI (cv + (bw * bh)))) 3 (ad 12) (nI (mk + 1))) 2 (ad 12) (nI (mk + 1))) (ad 25) = aJ S_5 (ad 25) from ((arJ_sI (S := (sI (sI (sI (sI (sI (sI S_5 6 (ad 12) (nI bx)) 7 (ad 12) (nI (bx + bw))) 8 (ad 12) (nI bY)) 9 (ad 12) (nI (bY + bh))) 4 (ad 12) (nI (cv + (bw * bh)))) 3 (ad 12) (nI (mk + 1))))).trans ((arJ_sI (S := (sI (sI (sI (sI (sI S_5 6 (ad 12) (nI bx)) 7 (ad 12) (nI (bx + bw))) 8 (ad 12) (nI bY)) 9 (ad 12) (nI (bY + bh))) 4 (ad 12) (nI (cv + (bw * bh)))))).trans ((arJ_sI (S := (sI (sI (sI (sI S_5 6 (ad 12) (nI bx)) 7 (ad 12) (nI (bx + bw))) 8 (ad 12) (nI bY)) 9 (ad 12) (nI (bY + bh))))).trans ((arJ_sI (S := (sI (sI (sI S_5 6 (ad 12) (nI bx)) 7 (ad 12) (nI (bx + bw))) 8 (ad 12) (nI bY)))).trans ((arJ_sI (S := (sI (sI S_5 6 (ad 12) (nI bx)) 7 (ad 12) (nI (bx + bw))))).trans ((arJ_sI (S := (sI S_5 6 (ad 12) (nI bx)))).trans (arJ_sI (S := S_5))))))))]; exact hx_32)
  refine j_if_eq (tgt := 78) C dX9_markBox_39 (by decide) (fun c9 => absurd c9 (by decide)) (fun c9 => ?_)
  refine j_aload_n C dX9_markBox_42 rfl 0 rfl ?_
  refine j_getr (f := 901) (v := (ad 12)) C flX9_12 dX9_markBox_43 (wm_6 (S := S_41) hW_69) (wk_6 (S := S_41) hW_69) (by decide) rfl (wr_901_6 (S := S_41) hW_69) ?_
  refine j_geti (f := 8) (v := nI bY) C flX9_549 dX9_markBox_46 (wm_12 (S := S_41) hW_69) (wk_12 (S := S_41) hW_69) (by decide) (by decide) rfl hv_64 ?_
  refine j_istore (lv' := [(6, .int (nI bY)), (0, .ref (ad 6)), (1, .int (nI bx)), (2, .int (nI bY)), (3, .int (nI bw)), (4, .int (nI bh)), (5, .ref (ad 24))]) C dX9_markBox_49 (by rw [hn9]; decide) rfl ?_
  show J _ _ _ _ _ 51 _
  have loop_74 : ∀ (m9 k9 : Nat), k9 + m9 = bh → J x (0 + 0 + 0 + 0) (0 + 0 + 0 + 0) (rI S_41 (ad 13) (pnts D bY bx (bx + bw) (fun r9 => topW (Rw (r9 % th))) (po || wh) k9)) [(6, .int (nI (bY + k9))), (0, .ref (ad 6)), (1, .int (nI bx)), (2, .int (nI bY)), (3, .int (nI bw)), (4, .int (nI bh)), (5, .ref (ad 24))] 51 [] := by
    intro m9
    induction m9 with
    | zero =>
      intro k9  hi_75 
      refine j_iload C dX9_markBox_51 0 rfl ?_
      refine j_aload_n C dX9_markBox_53 rfl 1 rfl ?_
      refine j_getr (f := 901) (v := (ad 12)) C flX9_12 dX9_markBox_54 (wm_6 (S := S_41) hW_69) (wk_6 (S := S_41) hW_69) (by decide) rfl (wr_901_6 (S := S_41) hW_69) ?_
      refine j_geti (f := 9) (v := nI (bY + bh)) C flX9_552 dX9_markBox_57 (wm_12 (S := S_41) hW_69) (wk_12 (S := S_41) hW_69) (by decide) (by decide) rfl hv_65 ?_
      refine j_ic_ge (tgt := 78) C dX9_markBox_60 (by decide) (fun c_60 => ?_) (fun c_60 => absurd (nI_le (by omega) (by omega)) c_60)
      exact j_vret C M dX9_markBox_78 (Nat.le_of_ble_eq_true rfl) (Nat.le_of_ble_eq_true rfl) ⟨rfl, (hf_68.rI _ (fun _ => rfl)), hv_55, hv_56, hv_57, (funext fun j9 => rd_rIs.trans (by rw [show k9 = bh by omega]))⟩
    | succ m9 ih_73 =>
      intro k9  hi_75 
      refine j_iload C dX9_markBox_51 0 rfl ?_
      refine j_aload_n C dX9_markBox_53 rfl 1 rfl ?_
      refine j_getr (f := 901) (v := (ad 12)) C flX9_12 dX9_markBox_54 (wm_6 (S := S_41) hW_69) (wk_6 (S := S_41) hW_69) (by decide) rfl (wr_901_6 (S := S_41) hW_69) ?_
      refine j_geti (f := 9) (v := nI (bY + bh)) C flX9_552 dX9_markBox_57 (wm_12 (S := S_41) hW_69) (wk_12 (S := S_41) hW_69) (by decide) (by decide) rfl hv_65 ?_
      refine j_ic_ge (tgt := 78) C dX9_markBox_60 (by decide) (fun c_60 => absurd c_60 (nI_ge (by omega) (by omega))) (fun c_60 => ?_)
      show J _ _ _ _ _ 63 _
      refine j_aload_n C dX9_markBox_63 rfl 1 rfl ?_
      refine j_getr (f := 901) (v := (ad 12)) C flX9_12 dX9_markBox_64 (wm_6 (S := S_41) hW_69) (wk_6 (S := S_41) hW_69) (by decide) rfl (wr_901_6 (S := S_41) hW_69) ?_
      refine j_iload C dX9_markBox_67 0 rfl ?_
      have hf_76 : Fm (fun f9 b9 => (f9 = 2 ∧ b9 = (ad 12)) ∨ (f9 = 3 ∧ b9 = (ad 12)) ∨ (f9 = 4 ∧ b9 = (ad 12)) ∨ (f9 = 6 ∧ b9 = (ad 12)) ∨ (f9 = 7 ∧ b9 = (ad 12)) ∨ (f9 = 8 ∧ b9 = (ad 12)) ∨ (f9 = 9 ∧ b9 = (ad 12)) ∨ (f9 = 11 ∧ b9 = (ad 12)) ∨ (f9 = 12 ∧ b9 = (ad 12)) ∨ (f9 = 13 ∧ b9 = (ad 12)) ∨ (f9 = 14 ∧ b9 = (ad 12))) (fun f9 b9 => (f9 = 10 ∧ b9 = (ad 12))) (fun b9 => b9 = (ad 13)) S (rI S_41 (ad 13) (pnts D bY bx (bx + bw) (fun r9 => topW (Rw (r9 % th))) (po || wh) k9)) := (hf_68.rI _ (fun _ => rfl))
      refine j_callV (ci := 0) C [.int (nI (bY + k9))] [] mlX9_561 mcX0_paintRow (c_X0_paintRow (rI S_41 (ad 13) (pnts D bY bx (bx + bw) (fun r9 => topW (Rw (r9 % th))) (po || wh) k9)) ad hW_69 (bY + k9) bx (bx + bw) tw th (po || wh) hv_59 hv_61 hv_47 hv_52 hv_53 hv_54 hv_67 hv_44 hv_45 (by omega) (by omega) (by omega) hth htw (by rw [show aI (rI S_41 (ad 13) (pnts D bY bx (bx + bw) (fun r9 => topW (Rw (r9 % th))) (po || wh) k9)) (ad 14) = aI S_41 (ad 14) from (ar_rI (S := S_41) (wn (S := S_41) hW_69 (i := 14) (j := 13) (by decide) (by decide) (by decide)))]; exact hx_70)) (wm_12 (S := S_41) hW_69) (wk_12 (S := S_41) hW_69) rfl (M.rm (by decide) (by decide) (Nat.le_of_ble_eq_true rfl) (Nat.le_of_ble_eq_true rfl)) rfl rfl (Nat.le_of_ble_eq_true rfl) dX9_markBox_69 (fun r_77 S_78 hp_79 => ?_)
      obtain ⟨rfl, e_80⟩ := hp_79
      refine J.eq (S' := (rI (rI S_41 (ad 13) (pnts D bY bx (bx + bw) (fun r9 => topW (Rw (r9 % th))) (po || wh) k9)) (ad 13) (pnt (aI (rI S_41 (ad 13) (pnts D bY bx (bx + bw) (fun r9 => topW (Rw (r9 % th))) (po || wh) k9)) (ad 13)) ((bY + k9) * 25) bx (bx + bw) (topW (aJ (rI S_41 (ad 13) (pnts D bY bx (bx + bw) (fun r9 => topW (Rw (r9 % th))) (po || wh) k9)) (ad 25) ((bY + k9) % th))) (po || wh) (((bx + bw) - 1) / 32 + 1)))) (st' := []) (lv' := [(6, .int (nI (bY + k9))), (0, .ref (ad 6)), (1, .int (nI bx)), (2, .int (nI bY)), (3, .int (nI bw)), (4, .int (nI bh)), (5, .ref (ad 24))]) e_80 rfl rfl ?_
      refine j_iinc (q := 0) (v := nI ((bY + k9) + 1)) (lv' := [(6, .int (nI ((bY + k9) + 1))), (0, .ref (ad 6)), (1, .int (nI bx)), (2, .int (nI bY)), (3, .int (nI bw)), (4, .int (nI bh)), (5, .ref (ad 24))]) C dX9_markBox_72 rfl (nI_add (bY + k9) 1) (by rw [hn9]; decide) rfl ?_
      refine j_goto (tgt := 51) C dX9_markBox_75 (by decide) ?_
      refine J.sub [0, 1, 2, 3, 4, 5, 6] (lv' := [(6, .int (nI (bY + (k9 + 1)))), (0, .ref (ad 6)), (1, .int (nI bx)), (2, .int (nI bY)), (3, .int (nI bw)), (4, .int (nI bh)), (5, .ref (ad 24))]) (by rfl) ?_
      refine J.eq (S' := (rI S_41 (ad 13) (pnts D bY bx (bx + bw) (fun r9 => topW (Rw (r9 % th))) (po || wh) (k9 + 1)))) (pnts_s rfl (by show topW (aJ S_41 (ad 25) _) = _; rw [show aJ S_41 (ad 25) = Rw from hx_72]) rfl) rfl rfl ?_
      exact J.eq rfl rfl rfl (ih_73 (k9 + 1)  (by omega) )
  refine J.eq (S' := (rI S_41 (ad 13) (pnts D bY bx (bx + bw) (fun r9 => topW (Rw (r9 % th))) (po || wh) 0))) (rI_id (fun j9 => (congrFun (show aI S_41 (ad 13) = D from hx_71) j9).symm)) rfl rfl ?_
  refine J.sub [0, 1, 2, 3, 4, 5, 6] (lv' := [(6, .int (nI (bY + 0))), (0, .ref (ad 6)), (1, .int (nI bx)), (2, .int (nI bY)), (3, .int (nI bw)), (4, .int (nI bh)), (5, .ref (ad 24))]) (by rfl) ?_
  exact J.eq rfl rfl rfl (loop_74 (bh - 0) 0  (by omega) )
