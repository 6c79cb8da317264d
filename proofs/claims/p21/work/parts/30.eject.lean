theorem pg_white {D : Nat → Int32} {P : Nat → Nat → Bool} (F : Nat → Int32) (h : CVP D P) (hw : ∀ y, 96 ≤ y → y < 240 → ∀ px, px < 200 → P px y = false) : ∀ y, 96 ≤ y → y < 240 → whi (dotW (pgF F D 240 0) (y * 20)) := fun y h1 h2 px hpx => by
  rw [pg_dot F D h2 (by omega), h y (by omega) px (by omega)]
  exact hw y h1 h2 px hpx
/-- the page that came: its dots of 224 columns and 240 rows -/
def PGP (D : Nat → Int32) (P : Nat → Nat → Bool) : Prop := ∀ y, y < 240 → ∀ px, px < 224 → dotW D (y * 20) px = P px y
theorem pg_pgp {D : Nat → Int32} {P : Nat → Nat → Bool} (F : Nat → Int32) (h : CVP D P) : PGP (pgF F D 240 0) P := fun y hy px hpx => by
  rw [pg_dot F D hy hpx]
  exact h y (by omega) px (by omega)
theorem clear_cvp {F : Nat → Int32} : CVP (fillN F 20000 0) (fun _ _ => false) := fun y hy px hpx => by
  unfold dotW fillN
  rw [if_pos (by omega)]
  exact b_0 _

theorem dX8_has_0 : decode cX8_has 0 = .ok (.iload_n 1, 1) := by decide +kernel
theorem dX8_has_1 : decode cX8_has 1 = .ok (.ifCond .lt 22, 3) := by decide +kernel
theorem dX8_has_4 : decode cX8_has 4 = .ok (.iload_n 1, 1) := by decide +kernel
theorem dX8_has_5 : decode cX8_has 5 = .ok (.bipush 16, 2) := by decide +kernel
theorem dX8_has_7 : decode cX8_has 7 = .ok (.if_icmp .ge 16, 3) := by decide +kernel
theorem dX8_has_10 : decode cX8_has 10 = .ok (.aload_n 0, 1) := by decide +kernel
theorem dX8_has_11 : decode cX8_has 11 = .ok (.getfield 9, 3) := by decide +kernel
theorem dX8_has_14 : decode cX8_has 14 = .ok (.iload_n 1, 1) := by decide +kernel
theorem dX8_has_15 : decode cX8_has 15 = .ok (.iaload, 1) := by decide +kernel
theorem dX8_has_16 : decode cX8_has 16 = .ok (.ifCond .eq 7, 3) := by decide +kernel
theorem dX8_has_19 : decode cX8_has 19 = .ok (.iconst 1, 1) := by decide +kernel
theorem dX8_has_20 : decode cX8_has 20 = .ok (.goto 4, 3) := by decide +kernel
theorem dX8_has_23 : decode cX8_has 23 = .ok (.iconst 0, 1) := by decide +kernel
theorem dX8_has_24 : decode cX8_has 24 = .ok (.ireturn, 1) := by decide +kernel

set_option maxRecDepth 100000 in
set_option maxHeartbeats 4000000 in
theorem c_hasm1 (S : Hp) (ad : Nat → Nat) (hW : Wd ad S) : Ct 1 yX8_has cX8_has 2 (some .boolean) 0 0 [.ref (ad 22), .int (-1)] S (fun r S' => r = some (.int 0) ∧ S' = S) := by
  refine ct_of (by decide) (Nat.le_of_ble_eq_true rfl) fun x hn9 C M hm9 => ?_
  have C : CB x RX8 cX8_has := C
  refine J.eq (lv' := [(0, .ref (ad 22)), (1, .int (-1))]) rfl rfl rfl ?_
  refine j_iload_n C dX8_has_0 rfl 1 rfl ?_
  refine j_if_lt (tgt := 23) C dX8_has_1 (by decide) (fun c9 => ?_) (fun c9 => absurd (by decide) c9)
  refine j_iconst (v := 0) C dX8_has_23 (by decide) ?_
  exact j_zret C M rfl dX8_has_24 (by decide) (by decide) ⟨rfl, rfl⟩
