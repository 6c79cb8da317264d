/-- the page's dots -/
def CVP (D : Nat → Int32) (P : Nat → Nat → Bool) : Prop := ∀ y, y < 800 → ∀ px, px < 800 → dotW D (y * 25) px = P px y
/-- the dots of a box's pattern: SOLID, WHITE, SHADE -/
def inkK (k pn px y : Nat) : Bool := if k = 0 then true else if k = 1 then false else decide (100 * shN (4 * (y % 4) + px % 4) < 16 * pn)
def boxP (k pn : Nat) (po : Bool) (bx bY bw bh : Nat) (P : Nat → Nat → Bool) (px y : Nat) : Bool := if (bY ≤ y ∧ y < bY + bh) ∧ bx ≤ px ∧ px < bx + bw then (if inkK k pn px y = true then true else if (po || decide (k = 1)) = true then false else P px y) else P px y
theorem nib_bit (n b : Nat) : ∀ a, a < 4 → (nibP n b 4).testBit (3 - a) = decide (100 * shN (4 * b + a) < 16 * n) := by
  intro a ha
  have e : ∀ p0 p1 p2 p3 : Bool, ∀ a, a < 4 → ((((0 * 2 + (if p0 = true then 1 else 0)) * 2 + (if p1 = true then 1 else 0)) * 2 + (if p2 = true then 1 else 0)) * 2 + (if p3 = true then 1 else 0) : Nat).testBit (3 - a) = (if a = 0 then p0 else if a = 1 then p1 else if a = 2 then p2 else p3) := by decide
  have h := e (decide (100 * shN (4 * b + 0) < 16 * n)) (decide (100 * shN (4 * b + 1) < 16 * n)) (decide (100 * shN (4 * b + 2) < 16 * n)) (decide (100 * shN (4 * b + 3) < 16 * n)) a ha
  simp only [decide_eq_true_eq] at h
  refine Eq.trans ?_ (h.trans ?_)
  · rfl
  · rcases (show a = 0 ∨ a = 1 ∨ a = 2 ∨ a = 3 by omega) with rfl | rfl | rfl | rfl <;> rfl
theorem cvp_box {D : Nat → Int32} {P : Nat → Nat → Bool} (hP : CVP D P) {k pn bx bY bw bh : Nat} {T : Nat → Int32} {wh po : Bool} (hw : 0 < bw) (hx : bx + bw ≤ 800) (hT : ∀ r px, bt (T r) (31 - px % 32) = inkK k pn px r) (hwh : wh = decide (k = 1)) : CVP (pnts D bY bx (bx + bw) T (po || wh) bh) (boxP k pn po bx bY bw bh P) := fun y hy px hpx => by
  rw [pnts_dot D T (po || wh) (by omega) hx y hpx bh, hT, hP y hy px hpx, hwh]
  rfl

/-- a tile's rows: the pattern k (of number pn), th rows over and over -/
def TIL (R : Nat → Int64) (th k pn : Nat) : Prop := ∀ r px, bt (topW (R (r % th))) (31 - px % 32) = inkK k pn px r
theorem til_one {R : Nat → Int64} {c : Bool} {k pn : Nat} (h : R 0 = rw1 c) (hk : ∀ px r, inkK k pn px r = c) : TIL R 1 k pn := fun r px => by
  rw [Nat.mod_one, h, top1, fI_bt c (by omega), hk]
theorem aJ4 {S : Hp} {q : Nat} {v0 v1 v2 v3 : Int64} (i : Nat) (hi : i < 4) : aJ (tJ (tJ (tJ (tJ S q 0 v0) q 1 v1) q 2 v2) q 3 v3) q i = if i = 0 then v0 else if i = 1 then v1 else if i = 2 then v2 else v3 := by
  rcases (show i = 0 ∨ i = 1 ∨ i = 2 ∨ i = 3 by omega) with rfl | rfl | rfl | rfl <;> simp [aJ_tJ]
theorem til_shade {R : Nat → Int64} {pn : Nat} (h : ∀ b, b < 4 → R b = rw4 (nibP pn b 4)) : TIL R 4 2 pn := fun r px => by
  have hb : r % 4 < 4 := Nat.mod_lt r (by decide)
  rw [h _ hb, top4 _ (nib_lt pn _ 4) _ (Nat.mod_lt px (by decide)), show px % 32 % 4 = px % 4 by omega, nib_bit pn (r % 4) (px % 4) (Nat.mod_lt px (by decide))]
  rfl

theorem dX9_setTile_0 : decode cX9_setTile 0 = .ok (.aload_n 0, 1) := by decide +kernel
theorem dX9_setTile_1 : decode cX9_setTile 1 = .ok (.getfield 57, 3) := by decide +kernel
theorem dX9_setTile_4 : decode cX9_setTile 4 = .ok (.getfield 587, 3) := by decide +kernel
theorem dX9_setTile_7 : decode cX9_setTile 7 = .ok (.istore_n 3, 1) := by decide +kernel
theorem dX9_setTile_8 : decode cX9_setTile 8 = .ok (.iload_n 2, 1) := by decide +kernel
theorem dX9_setTile_9 : decode cX9_setTile 9 = .ok (.tableswitch 130 0 4 #[35, 41, 47, 67, 87], 35) := by decide +kernel
theorem dX9_setTile_44 : decode cX9_setTile 44 = .ok (.aload_n 1, 1) := by decide +kernel
theorem dX9_setTile_45 : decode cX9_setTile 45 = .ok (.invokevirtual 631, 3) := by decide +kernel
theorem dX9_setTile_48 : decode cX9_setTile 48 = .ok (.iconst 1, 1) := by decide +kernel
theorem dX9_setTile_49 : decode cX9_setTile 49 = .ok (.ireturn, 1) := by decide +kernel
theorem dX9_setTile_50 : decode cX9_setTile 50 = .ok (.aload_n 1, 1) := by decide +kernel
theorem dX9_setTile_51 : decode cX9_setTile 51 = .ok (.invokevirtual 634, 3) := by decide +kernel
theorem dX9_setTile_54 : decode cX9_setTile 54 = .ok (.iconst 1, 1) := by decide +kernel
theorem dX9_setTile_55 : decode cX9_setTile 55 = .ok (.ireturn, 1) := by decide +kernel
theorem dX9_setTile_56 : decode cX9_setTile 56 = .ok (.iload_n 3, 1) := by decide +kernel
theorem dX9_setTile_57 : decode cX9_setTile 57 = .ok (.iconst 1, 1) := by decide +kernel
theorem dX9_setTile_58 : decode cX9_setTile 58 = .ok (.if_icmp .lt 16, 3) := by decide +kernel
theorem dX9_setTile_61 : decode cX9_setTile 61 = .ok (.iload_n 3, 1) := by decide +kernel
theorem dX9_setTile_62 : decode cX9_setTile 62 = .ok (.bipush 100, 2) := by decide +kernel
theorem dX9_setTile_64 : decode cX9_setTile 64 = .ok (.if_icmp .gt 10, 3) := by decide +kernel
theorem dX9_setTile_67 : decode cX9_setTile 67 = .ok (.aload_n 1, 1) := by decide +kernel
theorem dX9_setTile_68 : decode cX9_setTile 68 = .ok (.iload_n 3, 1) := by decide +kernel
theorem dX9_setTile_69 : decode cX9_setTile 69 = .ok (.invokevirtual 637, 3) := by decide +kernel
theorem dX9_setTile_72 : decode cX9_setTile 72 = .ok (.iconst 1, 1) := by decide +kernel
theorem dX9_setTile_73 : decode cX9_setTile 73 = .ok (.ireturn, 1) := by decide +kernel
theorem dX9_setTile_74 : decode cX9_setTile 74 = .ok (.iconst 0, 1) := by decide +kernel
theorem dX9_setTile_75 : decode cX9_setTile 75 = .ok (.ireturn, 1) := by decide +kernel
theorem dX9_setTile_76 : decode cX9_setTile 76 = .ok (.iload_n 3, 1) := by decide +kernel
theorem dX9_setTile_77 : decode cX9_setTile 77 = .ok (.iconst 1, 1) := by decide +kernel
theorem dX9_setTile_78 : decode cX9_setTile 78 = .ok (.if_icmp .lt 16, 3) := by decide +kernel
theorem dX9_setTile_81 : decode cX9_setTile 81 = .ok (.iload_n 3, 1) := by decide +kernel
theorem dX9_setTile_82 : decode cX9_setTile 82 = .ok (.bipush 6, 2) := by decide +kernel
theorem dX9_setTile_84 : decode cX9_setTile 84 = .ok (.if_icmp .gt 10, 3) := by decide +kernel
theorem dX9_setTile_87 : decode cX9_setTile 87 = .ok (.aload_n 1, 1) := by decide +kernel
theorem dX9_setTile_88 : decode cX9_setTile 88 = .ok (.iload_n 3, 1) := by decide +kernel
theorem dX9_setTile_89 : decode cX9_setTile 89 = .ok (.invokevirtual 640, 3) := by decide +kernel
theorem dX9_setTile_92 : decode cX9_setTile 92 = .ok (.iconst 1, 1) := by decide +kernel
theorem dX9_setTile_93 : decode cX9_setTile 93 = .ok (.ireturn, 1) := by decide +kernel
theorem dX9_setTile_94 : decode cX9_setTile 94 = .ok (.iconst 0, 1) := by decide +kernel
theorem dX9_setTile_95 : decode cX9_setTile 95 = .ok (.ireturn, 1) := by decide +kernel
theorem dX9_setTile_96 : decode cX9_setTile 96 = .ok (.aload_n 0, 1) := by decide +kernel
theorem dX9_setTile_97 : decode cX9_setTile 97 = .ok (.getfield 28, 3) := by decide +kernel
theorem dX9_setTile_100 : decode cX9_setTile 100 = .ok (.iload_n 3, 1) := by decide +kernel
theorem dX9_setTile_101 : decode cX9_setTile 101 = .ok (.invokevirtual 192, 3) := by decide +kernel
theorem dX9_setTile_104 : decode cX9_setTile 104 = .ok (.ifCond .eq 33, 3) := by decide +kernel
theorem dX9_setTile_107 : decode cX9_setTile 107 = .ok (.iload_n 3, 1) := by decide +kernel
theorem dX9_setTile_108 : decode cX9_setTile 108 = .ok (.aload_n 0, 1) := by decide +kernel
theorem dX9_setTile_109 : decode cX9_setTile 109 = .ok (.getfield 34, 3) := by decide +kernel
theorem dX9_setTile_112 : decode cX9_setTile 112 = .ok (.arraylength, 1) := by decide +kernel
theorem dX9_setTile_113 : decode cX9_setTile 113 = .ok (.if_icmp .ge 24, 3) := by decide +kernel
theorem dX9_setTile_116 : decode cX9_setTile 116 = .ok (.aload_n 0, 1) := by decide +kernel
theorem dX9_setTile_117 : decode cX9_setTile 117 = .ok (.getfield 34, 3) := by decide +kernel
theorem dX9_setTile_120 : decode cX9_setTile 120 = .ok (.iload_n 3, 1) := by decide +kernel
theorem dX9_setTile_121 : decode cX9_setTile 121 = .ok (.aaload, 1) := by decide +kernel
theorem dX9_setTile_122 : decode cX9_setTile 122 = .ok (.ifnull 15, 3) := by decide +kernel
theorem dX9_setTile_125 : decode cX9_setTile 125 = .ok (.aload_n 1, 1) := by decide +kernel
theorem dX9_setTile_126 : decode cX9_setTile 126 = .ok (.aload_n 0, 1) := by decide +kernel
theorem dX9_setTile_127 : decode cX9_setTile 127 = .ok (.getfield 34, 3) := by decide +kernel
theorem dX9_setTile_130 : decode cX9_setTile 130 = .ok (.iload_n 3, 1) := by decide +kernel
theorem dX9_setTile_131 : decode cX9_setTile 131 = .ok (.aaload, 1) := by decide +kernel
theorem dX9_setTile_132 : decode cX9_setTile 132 = .ok (.invokevirtual 643, 3) := by decide +kernel
theorem dX9_setTile_135 : decode cX9_setTile 135 = .ok (.iconst 1, 1) := by decide +kernel
theorem dX9_setTile_136 : decode cX9_setTile 136 = .ok (.ireturn, 1) := by decide +kernel
theorem dX9_setTile_137 : decode cX9_setTile 137 = .ok (.iconst 0, 1) := by decide +kernel
theorem dX9_setTile_138 : decode cX9_setTile 138 = .ok (.ireturn, 1) := by decide +kernel
theorem dX9_setTile_139 : decode cX9_setTile 139 = .ok (.iconst 0, 1) := by decide +kernel
theorem dX9_setTile_140 : decode cX9_setTile 140 = .ok (.ireturn, 1) := by decide +kernel

set_option maxRecDepth 100000 in
set_option maxHeartbeats 4000000 in
theorem c_st0 (S : Hp) (ad : Nat → Nat) (hW : Wd ad S) (pn : Nat) (hI_118_ad26 : hI S 118 (ad 26) = nI pn) (h1 : 1 ≤ pn) (h2 : pn ≤ 100) : Ct 4 yX9_setTile cX9_setTile 4 (some .boolean) 0 0 [.ref (ad 6), .ref (ad 24), .int 0] S (fun r S' => r = some (.int 1) ∧ Fm (fun f9 b9 => (f9 = 1000 ∧ b9 = (ad 24)) ∨ (f9 = 1001 ∧ b9 = (ad 24)) ∨ (f9 = 1002 ∧ b9 = (ad 24))) (fun _ _ => False) (fun b9 => b9 = (ad 25)) S S' ∧ hI S' 1000 (ad 24) = 1 ∧ hI S' 1001 (ad 24) = 1 ∧ hI S' 1002 (ad 24) = 0 ∧ TIL (aJ S' (ad 25)) 1 0 pn) := by
  refine ct_of (by decide) (Nat.le_of_ble_eq_true rfl) fun x hn9 C M hm9 => ?_
  have C : CB x RX9 cX9_setTile := C
  refine J.eq (lv' := [(0, .ref (ad 6)), (1, .ref (ad 24)), (2, .int 0)]) rfl rfl rfl ?_
  refine j_aload_n C dX9_setTile_0 rfl 0 rfl ?_
  refine j_getr (f := 909) (v := (ad 26)) C flX9_57 dX9_setTile_1 (wm_6 (S := S) hW) (wk_6 (S := S) hW) (by decide) rfl (wr_909_6 (S := S) hW) ?_
  refine j_geti (f := 118) (v := nI pn) C flX9_587 dX9_setTile_4 (wm_26 (S := S) hW) (wk_26 (S := S) hW) (by decide) (by decide) rfl hI_118_ad26 ?_
  refine j_istore_n (lv' := [(3, .int (nI pn)), (0, .ref (ad 6)), (1, .ref (ad 24)), (2, .int 0)]) C dX9_setTile_7 rfl (by rw [hn9]; decide) rfl ?_
  refine j_iload_n C dX9_setTile_8 rfl 3 rfl ?_
  refine j_tabIn (off := 35) (tgt := 44) C dX9_setTile_9 (by decide) (by decide) (by decide) (by decide) ?_
  refine j_aload_n C dX9_setTile_44 rfl 2 rfl ?_
  refine j_callV (ci := 10) C [] [] mlX9_631 mcX10_solid (c_X10_solid S (ad 24) (wm_24 (S := S) hW) (wk_24 (S := S) hW) (ad 25) (wr_1003_24 (S := S) hW) (wm_25 (S := S) hW) (wk_25 (S := S) hW) (wl_25 (S := S) hW)) (wm_24 (S := S) hW) (wk_24 (S := S) hW) rfl (M.rm (by decide) (by decide) (Nat.le_of_ble_eq_true rfl) (Nat.le_of_ble_eq_true rfl)) rfl rfl (Nat.le_of_ble_eq_true rfl) dX9_setTile_45 (fun r_1 S_2 hp_3 => ?_)
  obtain ⟨rfl, e_4⟩ := hp_3
  refine J.eq (S' := (tJ (sI (sI (sI S 1000 (ad 24) 1) 1001 (ad 24) 1) 1002 (ad 24) 0) (ad 25) 0 (rw1 true))) (st' := []) (lv' := [(3, .int (nI pn)), (0, .ref (ad 6)), (1, .ref (ad 24)), (2, .int 0)]) e_4 rfl rfl ?_
  show J _ _ _ _ _ 48 _
  refine j_iconst (v := 1) C dX9_setTile_48 (by decide) ?_
  exact j_zret C M rfl dX9_setTile_49 (Nat.le_of_ble_eq_true rfl) (Nat.le_of_ble_eq_true rfl) ⟨rfl, (((((Fm.refl (WI := (fun f9 b9 => (f9 = 1000 ∧ b9 = (ad 24)) ∨ (f9 = 1001 ∧ b9 = (ad 24)) ∨ (f9 = 1002 ∧ b9 = (ad 24)))) (WR := (fun _ _ => False)) (WA := (fun b9 => b9 = (ad 25)))).sI _ (fun _ => (Or.inl ⟨rfl, rfl⟩))).sI _ (fun _ => (Or.inr (Or.inl ⟨rfl, rfl⟩)))).sI _ (fun _ => (Or.inr (Or.inr ⟨rfl, rfl⟩)))).tJ _ _ (fun _ => rfl)), (rd_sIf (S := (sI (sI S 1000 (ad 24) 1) 1001 (ad 24) 1)) (g := 1002) (a := (ad 24)) (v := 0) (by decide) (rd_sIf (S := (sI S 1000 (ad 24) 1)) (g := 1001) (a := (ad 24)) (v := 1) (by decide) (rd_sI (S := S) (g := 1000) (a := (ad 24)) (v := 1)))), (rd_sIf (S := (sI (sI S 1000 (ad 24) 1) 1001 (ad 24) 1)) (g := 1002) (a := (ad 24)) (v := 0) (by decide) (rd_sI (S := (sI S 1000 (ad 24) 1)) (g := 1001) (a := (ad 24)) (v := 1))), (rd_sI (S := (sI (sI S 1000 (ad 24) 1) 1001 (ad 24) 1)) (g := 1002) (a := (ad 24)) (v := 0)), (til_one (c := true) (by exact up2_self _ _ _ _) (fun _ _ => rfl))⟩

set_option maxRecDepth 100000 in
set_option maxHeartbeats 4000000 in
theorem c_st1 (S : Hp) (ad : Nat → Nat) (hW : Wd ad S) (pn : Nat) (hI_118_ad26 : hI S 118 (ad 26) = nI pn) (h1 : 1 ≤ pn) (h2 : pn ≤ 100) : Ct 4 yX9_setTile cX9_setTile 4 (some .boolean) 0 0 [.ref (ad 6), .ref (ad 24), .int 1] S (fun r S' => r = some (.int 1) ∧ Fm (fun f9 b9 => (f9 = 1000 ∧ b9 = (ad 24)) ∨ (f9 = 1001 ∧ b9 = (ad 24)) ∨ (f9 = 1002 ∧ b9 = (ad 24))) (fun _ _ => False) (fun b9 => b9 = (ad 25)) S S' ∧ hI S' 1000 (ad 24) = 1 ∧ hI S' 1001 (ad 24) = 1 ∧ hI S' 1002 (ad 24) = 1 ∧ TIL (aJ S' (ad 25)) 1 1 pn) := by
  refine ct_of (by decide) (Nat.le_of_ble_eq_true rfl) fun x hn9 C M hm9 => ?_
  have C : CB x RX9 cX9_setTile := C
  refine J.eq (lv' := [(0, .ref (ad 6)), (1, .ref (ad 24)), (2, .int 1)]) rfl rfl rfl ?_
  refine j_aload_n C dX9_setTile_0 rfl 0 rfl ?_
  refine j_getr (f := 909) (v := (ad 26)) C flX9_57 dX9_setTile_1 (wm_6 (S := S) hW) (wk_6 (S := S) hW) (by decide) rfl (wr_909_6 (S := S) hW) ?_
  refine j_geti (f := 118) (v := nI pn) C flX9_587 dX9_setTile_4 (wm_26 (S := S) hW) (wk_26 (S := S) hW) (by decide) (by decide) rfl hI_118_ad26 ?_
  refine j_istore_n (lv' := [(3, .int (nI pn)), (0, .ref (ad 6)), (1, .ref (ad 24)), (2, .int 1)]) C dX9_setTile_7 rfl (by rw [hn9]; decide) rfl ?_
  refine j_iload_n C dX9_setTile_8 rfl 3 rfl ?_
  refine j_tabIn (off := 41) (tgt := 50) C dX9_setTile_9 (by decide) (by decide) (by decide) (by decide) ?_
  refine j_aload_n C dX9_setTile_50 rfl 2 rfl ?_
  refine j_callV (ci := 10) C [] [] mlX9_634 mcX10_white (c_X10_white S (ad 24) (wm_24 (S := S) hW) (wk_24 (S := S) hW) (ad 25) (wr_1003_24 (S := S) hW) (wm_25 (S := S) hW) (wk_25 (S := S) hW) (wl_25 (S := S) hW)) (wm_24 (S := S) hW) (wk_24 (S := S) hW) rfl (M.rm (by decide) (by decide) (Nat.le_of_ble_eq_true rfl) (Nat.le_of_ble_eq_true rfl)) rfl rfl (Nat.le_of_ble_eq_true rfl) dX9_setTile_51 (fun r_1 S_2 hp_3 => ?_)
  obtain ⟨rfl, e_4⟩ := hp_3
  refine J.eq (S' := (sI (tJ (sI (sI (sI S 1000 (ad 24) 1) 1001 (ad 24) 1) 1002 (ad 24) 0) (ad 25) 0 (rw1 false)) 1002 (ad 24) 1)) (st' := []) (lv' := [(3, .int (nI pn)), (0, .ref (ad 6)), (1, .ref (ad 24)), (2, .int 1)]) e_4 rfl rfl ?_
  show J _ _ _ _ _ 54 _
  refine j_iconst (v := 1) C dX9_setTile_54 (by decide) ?_
  exact j_zret C M rfl dX9_setTile_55 (Nat.le_of_ble_eq_true rfl) (Nat.le_of_ble_eq_true rfl) ⟨rfl, ((((((Fm.refl (WI := (fun f9 b9 => (f9 = 1000 ∧ b9 = (ad 24)) ∨ (f9 = 1001 ∧ b9 = (ad 24)) ∨ (f9 = 1002 ∧ b9 = (ad 24)))) (WR := (fun _ _ => False)) (WA := (fun b9 => b9 = (ad 25)))).sI _ (fun _ => (Or.inl ⟨rfl, rfl⟩))).sI _ (fun _ => (Or.inr (Or.inl ⟨rfl, rfl⟩)))).sI _ (fun _ => (Or.inr (Or.inr ⟨rfl, rfl⟩)))).tJ _ _ (fun _ => rfl)).sI _ (fun _ => (Or.inr (Or.inr ⟨rfl, rfl⟩)))), (rd_sIf (S := (tJ (sI (sI (sI S 1000 (ad 24) 1) 1001 (ad 24) 1) 1002 (ad 24) 0) (ad 25) 0 (rw1 false))) (g := 1002) (a := (ad 24)) (v := 1) (by decide) (rd_sIf (S := (sI (sI S 1000 (ad 24) 1) 1001 (ad 24) 1)) (g := 1002) (a := (ad 24)) (v := 0) (by decide) (rd_sIf (S := (sI S 1000 (ad 24) 1)) (g := 1001) (a := (ad 24)) (v := 1) (by decide) (rd_sI (S := S) (g := 1000) (a := (ad 24)) (v := 1))))), (rd_sIf (S := (tJ (sI (sI (sI S 1000 (ad 24) 1) 1001 (ad 24) 1) 1002 (ad 24) 0) (ad 25) 0 (rw1 false))) (g := 1002) (a := (ad 24)) (v := 1) (by decide) (rd_sIf (S := (sI (sI S 1000 (ad 24) 1) 1001 (ad 24) 1)) (g := 1002) (a := (ad 24)) (v := 0) (by decide) (rd_sI (S := (sI S 1000 (ad 24) 1)) (g := 1001) (a := (ad 24)) (v := 1)))), (rd_sI (S := (tJ (sI (sI (sI S 1000 (ad 24) 1) 1001 (ad 24) 1) 1002 (ad 24) 0) (ad 25) 0 (rw1 false))) (g := 1002) (a := (ad 24)) (v := 1)), (til_one (c := false) (by exact up2_self _ _ _ _) (fun _ _ => rfl))⟩

set_option maxRecDepth 100000 in
set_option maxHeartbeats 4000000 in
theorem c_st2 (S : Hp) (ad : Nat → Nat) (hW : Wd ad S) (pn : Nat) (hI_118_ad26 : hI S 118 (ad 26) = nI pn) (h1 : 1 ≤ pn) (h2 : pn ≤ 100) : Ct 4 yX9_setTile cX9_setTile 4 (some .boolean) 0 0 [.ref (ad 6), .ref (ad 24), .int 2] S (fun r S' => r = some (.int 1) ∧ Fm (fun f9 b9 => (f9 = 1000 ∧ b9 = (ad 24)) ∨ (f9 = 1001 ∧ b9 = (ad 24)) ∨ (f9 = 1002 ∧ b9 = (ad 24))) (fun _ _ => False) (fun b9 => b9 = (ad 25)) S S' ∧ hI S' 1000 (ad 24) = 4 ∧ hI S' 1001 (ad 24) = 4 ∧ hI S' 1002 (ad 24) = 0 ∧ TIL (aJ S' (ad 25)) 4 2 pn) := by
  refine ct_of (by decide) (Nat.le_of_ble_eq_true rfl) fun x hn9 C M hm9 => ?_
  have C : CB x RX9 cX9_setTile := C
  refine J.eq (lv' := [(0, .ref (ad 6)), (1, .ref (ad 24)), (2, .int 2)]) rfl rfl rfl ?_
  refine j_aload_n C dX9_setTile_0 rfl 0 rfl ?_
  refine j_getr (f := 909) (v := (ad 26)) C flX9_57 dX9_setTile_1 (wm_6 (S := S) hW) (wk_6 (S := S) hW) (by decide) rfl (wr_909_6 (S := S) hW) ?_
  refine j_geti (f := 118) (v := nI pn) C flX9_587 dX9_setTile_4 (wm_26 (S := S) hW) (wk_26 (S := S) hW) (by decide) (by decide) rfl hI_118_ad26 ?_
  refine j_istore_n (lv' := [(3, .int (nI pn)), (0, .ref (ad 6)), (1, .ref (ad 24)), (2, .int 2)]) C dX9_setTile_7 rfl (by rw [hn9]; decide) rfl ?_
  refine j_iload_n C dX9_setTile_8 rfl 3 rfl ?_
  refine j_tabIn (off := 47) (tgt := 56) C dX9_setTile_9 (by decide) (by decide) (by decide) (by decide) ?_
  refine j_iload_n C dX9_setTile_56 rfl 0 rfl ?_
  refine j_iconst (v := 1) C dX9_setTile_57 (by decide) ?_
  show J _ _ _ _ _ 58 _
  refine j_ic_lt (tgt := 74) C dX9_setTile_58 (by decide) (fun c_58 => absurd c_58 (nI_nlt (a := pn) (b := 1) h1 (by omega))) (fun c_58 => ?_)
  refine j_iload_n C dX9_setTile_61 rfl 0 rfl ?_
  refine j_bipush (v := 100) C dX9_setTile_62 (by decide) ?_
  refine j_ic_gt (tgt := 74) C dX9_setTile_64 (by decide) (fun c_64 => absurd c_64 (nI_nlt (b := pn) (a := 100) h2 (by decide))) (fun c_64 => ?_)
  refine j_aload_n C dX9_setTile_67 rfl 2 rfl ?_
  refine j_iload_n C dX9_setTile_68 rfl 0 rfl ?_
  refine j_callV (ci := 10) C [.int (nI pn)] [] mlX9_637 mcX10_shade (c_X10_shade S (ad 24) (wm_24 (S := S) hW) (wk_24 (S := S) hW) (ad 25) (wr_1003_24 (S := S) hW) (wm_25 (S := S) hW) (wk_25 (S := S) hW) (wl_25 (S := S) hW) pn (by omega)) (wm_24 (S := S) hW) (wk_24 (S := S) hW) rfl (M.rm (by decide) (by decide) (Nat.le_of_ble_eq_true rfl) (Nat.le_of_ble_eq_true rfl)) rfl rfl (Nat.le_of_ble_eq_true rfl) dX9_setTile_69 (fun r_1 S_2 hp_3 => ?_)
  obtain ⟨rfl, e_4⟩ := hp_3
  refine J.eq (S' := (tJ (tJ (tJ (tJ (sI (sI (sI S 1000 (ad 24) 4) 1001 (ad 24) 4) 1002 (ad 24) 0) (ad 25) 0 (rw4 (nibP pn 0 4))) (ad 25) 1 (rw4 (nibP pn 1 4))) (ad 25) 2 (rw4 (nibP pn 2 4))) (ad 25) 3 (rw4 (nibP pn 3 4)))) (st' := []) (lv' := [(3, .int (nI pn)), (0, .ref (ad 6)), (1, .ref (ad 24)), (2, .int 2)]) e_4 rfl rfl ?_
  refine j_iconst (v := 1) C dX9_setTile_72 (by decide) ?_
  show J _ _ _ _ _ 73 _
  exact j_zret C M rfl dX9_setTile_73 (Nat.le_of_ble_eq_true rfl) (Nat.le_of_ble_eq_true rfl) ⟨rfl, ((((((((Fm.refl (WI := (fun f9 b9 => (f9 = 1000 ∧ b9 = (ad 24)) ∨ (f9 = 1001 ∧ b9 = (ad 24)) ∨ (f9 = 1002 ∧ b9 = (ad 24)))) (WR := (fun _ _ => False)) (WA := (fun b9 => b9 = (ad 25)))).sI _ (fun _ => (Or.inl ⟨rfl, rfl⟩))).sI _ (fun _ => (Or.inr (Or.inl ⟨rfl, rfl⟩)))).sI _ (fun _ => (Or.inr (Or.inr ⟨rfl, rfl⟩)))).tJ _ _ (fun _ => rfl)).tJ _ _ (fun _ => rfl)).tJ _ _ (fun _ => rfl)).tJ _ _ (fun _ => rfl)), (rd_sIf (S := (sI (sI S 1000 (ad 24) 4) 1001 (ad 24) 4)) (g := 1002) (a := (ad 24)) (v := 0) (by decide) (rd_sIf (S := (sI S 1000 (ad 24) 4)) (g := 1001) (a := (ad 24)) (v := 4) (by decide) (rd_sI (S := S) (g := 1000) (a := (ad 24)) (v := 4)))), (rd_sIf (S := (sI (sI S 1000 (ad 24) 4) 1001 (ad 24) 4)) (g := 1002) (a := (ad 24)) (v := 0) (by decide) (rd_sI (S := (sI S 1000 (ad 24) 4)) (g := 1001) (a := (ad 24)) (v := 4))), (rd_sI (S := (sI (sI S 1000 (ad 24) 4) 1001 (ad 24) 4)) (g := 1002) (a := (ad 24)) (v := 0)), (til_shade (fun b9 hb9 => (aJ4 b9 hb9).trans (by rcases (show b9 = 0 ∨ b9 = 1 ∨ b9 = 2 ∨ b9 = 3 by omega) with rfl | rfl | rfl | rfl <;> rfl)))⟩

theorem dX9_box_0 : decode cX9_box 0 = .ok (.iload_n 1, 1) := by decide +kernel
theorem dX9_box_1 : decode cX9_box 1 = .ok (.iconst 5, 1) := by decide +kernel
theorem dX9_box_2 : decode cX9_box 2 = .ok (.if_icmp .eq 15, 3) := by decide +kernel
theorem dX9_box_5 : decode cX9_box 5 = .ok (.aload_n 0, 1) := by decide +kernel
theorem dX9_box_6 : decode cX9_box 6 = .ok (.aload_n 0, 1) := by decide +kernel
theorem dX9_box_7 : decode cX9_box 7 = .ok (.getfield 39, 3) := by decide +kernel
theorem dX9_box_10 : decode cX9_box 10 = .ok (.iload_n 1, 1) := by decide +kernel
theorem dX9_box_11 : decode cX9_box 11 = .ok (.invokevirtual 610, 3) := by decide +kernel
theorem dX9_box_14 : decode cX9_box 14 = .ok (.ifCond .eq 7, 3) := by decide +kernel
theorem dX9_box_17 : decode cX9_box 17 = .ok (.iconst 1, 1) := by decide +kernel
theorem dX9_box_18 : decode cX9_box 18 = .ok (.goto 4, 3) := by decide +kernel
theorem dX9_box_21 : decode cX9_box 21 = .ok (.iconst 0, 1) := by decide +kernel
theorem dX9_box_22 : decode cX9_box 22 = .ok (.istore_n 2, 1) := by decide +kernel
theorem dX9_box_23 : decode cX9_box 23 = .ok (.iload_n 2, 1) := by decide +kernel
theorem dX9_box_24 : decode cX9_box 24 = .ok (.ifCond .eq 99, 3) := by decide +kernel
theorem dX9_box_27 : decode cX9_box 27 = .ok (.aload_n 0, 1) := by decide +kernel
theorem dX9_box_28 : decode cX9_box 28 = .ok (.getfield 57, 3) := by decide +kernel
theorem dX9_box_31 : decode cX9_box 31 = .ok (.getfield 596, 3) := by decide +kernel
theorem dX9_box_34 : decode cX9_box 34 = .ok (.ifCond .le 89, 3) := by decide +kernel
theorem dX9_box_37 : decode cX9_box 37 = .ok (.aload_n 0, 1) := by decide +kernel
theorem dX9_box_38 : decode cX9_box 38 = .ok (.getfield 57, 3) := by decide +kernel
theorem dX9_box_41 : decode cX9_box 41 = .ok (.getfield 599, 3) := by decide +kernel
theorem dX9_box_44 : decode cX9_box 44 = .ok (.ifCond .le 79, 3) := by decide +kernel
theorem dX9_box_47 : decode cX9_box 47 = .ok (.aload_n 0, 1) := by decide +kernel
theorem dX9_box_48 : decode cX9_box 48 = .ok (.getfield 12, 3) := by decide +kernel
theorem dX9_box_51 : decode cX9_box 51 = .ok (.invokevirtual 614, 3) := by decide +kernel
theorem dX9_box_54 : decode cX9_box 54 = .ok (.aload_n 0, 1) := by decide +kernel
theorem dX9_box_55 : decode cX9_box 55 = .ok (.getfield 57, 3) := by decide +kernel
theorem dX9_box_58 : decode cX9_box 58 = .ok (.getfield 129, 3) := by decide +kernel
theorem dX9_box_61 : decode cX9_box 61 = .ok (.getfield 133, 3) := by decide +kernel
theorem dX9_box_64 : decode cX9_box 64 = .ok (.bipush 96, 2) := by decide +kernel
theorem dX9_box_66 : decode cX9_box 66 = .ok (.idiv, 1) := by decide +kernel
theorem dX9_box_67 : decode cX9_box 67 = .ok (.istore_n 3, 1) := by decide +kernel
theorem dX9_box_68 : decode cX9_box 68 = .ok (.aload_n 0, 1) := by decide +kernel
theorem dX9_box_69 : decode cX9_box 69 = .ok (.getfield 57, 3) := by decide +kernel
theorem dX9_box_72 : decode cX9_box 72 = .ok (.getfield 129, 3) := by decide +kernel
theorem dX9_box_75 : decode cX9_box 75 = .ok (.getfield 138, 3) := by decide +kernel
theorem dX9_box_78 : decode cX9_box 78 = .ok (.bipush 96, 2) := by decide +kernel
theorem dX9_box_80 : decode cX9_box 80 = .ok (.idiv, 1) := by decide +kernel
theorem dX9_box_81 : decode cX9_box 81 = .ok (.istore 4, 2) := by decide +kernel
theorem dX9_box_83 : decode cX9_box 83 = .ok (.aload_n 0, 1) := by decide +kernel
theorem dX9_box_84 : decode cX9_box 84 = .ok (.iload_n 3, 1) := by decide +kernel
theorem dX9_box_85 : decode cX9_box 85 = .ok (.iload 4, 2) := by decide +kernel
theorem dX9_box_87 : decode cX9_box 87 = .ok (.aload_n 0, 1) := by decide +kernel
theorem dX9_box_88 : decode cX9_box 88 = .ok (.getfield 57, 3) := by decide +kernel
theorem dX9_box_91 : decode cX9_box 91 = .ok (.getfield 596, 3) := by decide +kernel
theorem dX9_box_94 : decode cX9_box 94 = .ok (.aload_n 0, 1) := by decide +kernel
theorem dX9_box_95 : decode cX9_box 95 = .ok (.getfield 57, 3) := by decide +kernel
theorem dX9_box_98 : decode cX9_box 98 = .ok (.getfield 599, 3) := by decide +kernel
theorem dX9_box_101 : decode cX9_box 101 = .ok (.iload_n 1, 1) := by decide +kernel
theorem dX9_box_102 : decode cX9_box 102 = .ok (.iconst 5, 1) := by decide +kernel
theorem dX9_box_103 : decode cX9_box 103 = .ok (.if_icmp .ne 13, 3) := by decide +kernel
theorem dX9_box_106 : decode cX9_box 106 = .ok (.aload_n 0, 1) := by decide +kernel
theorem dX9_box_107 : decode cX9_box 107 = .ok (.getfield 57, 3) := by decide +kernel
theorem dX9_box_110 : decode cX9_box 110 = .ok (.getfield 539, 3) := by decide +kernel
theorem dX9_box_113 : decode cX9_box 113 = .ok (.goto 7, 3) := by decide +kernel
theorem dX9_box_116 : decode cX9_box 116 = .ok (.aload_n 0, 1) := by decide +kernel
theorem dX9_box_117 : decode cX9_box 117 = .ok (.getfield 39, 3) := by decide +kernel
theorem dX9_box_120 : decode cX9_box 120 = .ok (.invokevirtual 617, 3) := by decide +kernel
theorem dX9_box_123 : decode cX9_box 123 = .ok (.return_, 1) := by decide +kernel

set_option maxRecDepth 100000 in
set_option maxHeartbeats 4000000 in
theorem c_box0 (S : Hp) (ad : Nat → Nat) (hW : Wd ad S) (xu : Nat) (yu : Nat) (bw : Nat) (bh : Nat) (cv : Nat) (mk : Nat) (gn : Nat) (pn : Nat) (po : Bool) (P : Nat → Nat → Bool) (hI_700_ad27 : hI S 700 (ad 27) = 0) (hI_701_ad27 : hI S 701 (ad 27) = 0) (hI_706_ad27 : hI S 706 (ad 27) = nI xu) (hI_707_ad27 : hI S 707 (ad 27) = nI yu) (hI_2_ad12 : hI S 2 (ad 12) = nI mk) (hI_3_ad12 : hI S 3 (ad 12) = nI mk) (hI_4_ad12 : hI S 4 (ad 12) = nI cv) (hI_916_ad6 : hI S 916 (ad 6) = nI gn) (hI_5_ad12 : hI S 5 (ad 12) = 0) (hI_603_ad5 : hI S 603 (ad 5) = 0) (hI_110_ad26 : hI S 110 (ad 26) = 0) (hI_111_ad26 : hI S 111 (ad 26) = cI po) (hI_112_ad26 : hI S 112 (ad 26) = 0) (hI_113_ad26 : hI S 113 (ad 26) = 0) (hI_114_ad26 : hI S 114 (ad 26) = nI bw) (hI_115_ad26 : hI S 115 (ad 26) = nI bh) (hI_118_ad26 : hI S 118 (ad 26) = nI pn) (hcv : CVP (aI S (ad 13)) P) (h1 : 1 ≤ pn) (h2 : pn ≤ 100) (hx : xu / 96 + bw ≤ 200) (hy : yu / 96 + bh ≤ 240) (hw : 0 < bw) (hh : 0 < bh) (hc : cv + bw * bh ≤ 5000000) (hm : mk < 2000) (hg : gn ≤ 60000) (hxu : xu < 100000) (hyu : yu < 100000) : Ct 5 yX9_box cX9_box 5 none 0 0 [.ref (ad 6), .int 0] S (fun r S' => r = none ∧ Fm (fun f9 b9 => (f9 = 1000 ∧ b9 = (ad 24)) ∨ (f9 = 1001 ∧ b9 = (ad 24)) ∨ (f9 = 1002 ∧ b9 = (ad 24)) ∨ (f9 = 2 ∧ b9 = (ad 12)) ∨ (f9 = 3 ∧ b9 = (ad 12)) ∨ (f9 = 4 ∧ b9 = (ad 12)) ∨ (f9 = 6 ∧ b9 = (ad 12)) ∨ (f9 = 7 ∧ b9 = (ad 12)) ∨ (f9 = 8 ∧ b9 = (ad 12)) ∨ (f9 = 9 ∧ b9 = (ad 12)) ∨ (f9 = 11 ∧ b9 = (ad 12)) ∨ (f9 = 12 ∧ b9 = (ad 12)) ∨ (f9 = 13 ∧ b9 = (ad 12)) ∨ (f9 = 14 ∧ b9 = (ad 12))) (fun f9 b9 => (f9 = 10 ∧ b9 = (ad 12))) (fun b9 => b9 = (ad 25) ∨ b9 = (ad 14) ∨ b9 = (ad 13)) S S' ∧ hI S' 2 (ad 12) = nI (mk + 1) ∧ hI S' 3 (ad 12) = nI (mk + 1) ∧ hI S' 4 (ad 12) = nI (cv + bw * bh) ∧ CVP (aI S' (ad 13)) (boxP 0 pn po (xu / 96) (yu / 96) bw bh P)) := by
  refine ct_of (by decide) (Nat.le_of_ble_eq_true rfl) fun x hn9 C M hm9 => ?_
  have C : CB x RX9 cX9_box := C
  refine J.eq (lv' := [(0, .ref (ad 6)), (1, .int 0)]) rfl rfl rfl ?_
  have hth : (0 : Nat) < 1 ∧ (1 : Nat) ≤ 16 := by decide
  have htw : (1 : Nat) = 1 ∨ (1 : Nat) = 4 := by decide
  refine j_iload_n C dX9_box_0 rfl 1 rfl ?_
  refine j_iconst (v := 5) C dX9_box_1 (by decide) ?_
  refine j_ic_eq (tgt := 17) C dX9_box_2 (by decide) (fun c9 => absurd c9 (by decide)) (fun c9 => ?_)
  refine j_aload_n C dX9_box_5 rfl 0 rfl ?_
  refine j_aload_n C dX9_box_6 rfl 0 rfl ?_
  refine j_getr (f := 905) (v := (ad 24)) C flX9_39 dX9_box_7 (wm_6 (S := S) hW) (wk_6 (S := S) hW) (by decide) rfl (wr_905_6 (S := S) hW) ?_
  refine j_iload_n C dX9_box_10 rfl 1 rfl ?_
  refine j_callV (ci := 9) C [.ref (ad 24), .int 0] [] mlX9_610 mcX9_setTile (c_st0 S ad hW pn hI_118_ad26 (by omega) (by omega)) (wm_6 (S := S) hW) (wk_6 (S := S) hW) rfl (M.rm (by decide) (by decide) (Nat.le_of_ble_eq_true rfl) (Nat.le_of_ble_eq_true rfl)) rfl rfl (Nat.le_of_ble_eq_true rfl) dX9_box_11 (fun r_5 S_6 hp_7 => ?_)
  obtain ⟨rfl, hf_8, e_1, e_2, e_3, x_4⟩ := hp_7
  refine J.eq (st' := [.int 1]) rfl rfl rfl ?_
  have hv_9 : hI S_6 110 (ad 26) = 0 := hf_8.fi (wm_26 (S := S) hW) (fun h9 => h9.elim (fun q9 => absurd q9.1 (by decide)) (fun h9 => h9.elim (fun q9 => absurd q9.1 (by decide)) (fun q9 => absurd q9.1 (by decide)))) hI_110_ad26
  have hv_10 : hI S_6 111 (ad 26) = cI po := hf_8.fi (wm_26 (S := S) hW) (fun h9 => h9.elim (fun q9 => absurd q9.1 (by decide)) (fun h9 => h9.elim (fun q9 => absurd q9.1 (by decide)) (fun q9 => absurd q9.1 (by decide)))) hI_111_ad26
  have hv_11 : hI S_6 112 (ad 26) = 0 := hf_8.fi (wm_26 (S := S) hW) (fun h9 => h9.elim (fun q9 => absurd q9.1 (by decide)) (fun h9 => h9.elim (fun q9 => absurd q9.1 (by decide)) (fun q9 => absurd q9.1 (by decide)))) hI_112_ad26
  have hv_12 : hI S_6 113 (ad 26) = 0 := hf_8.fi (wm_26 (S := S) hW) (fun h9 => h9.elim (fun q9 => absurd q9.1 (by decide)) (fun h9 => h9.elim (fun q9 => absurd q9.1 (by decide)) (fun q9 => absurd q9.1 (by decide)))) hI_113_ad26
  have hv_13 : hI S_6 114 (ad 26) = nI bw := hf_8.fi (wm_26 (S := S) hW) (fun h9 => h9.elim (fun q9 => absurd q9.1 (by decide)) (fun h9 => h9.elim (fun q9 => absurd q9.1 (by decide)) (fun q9 => absurd q9.1 (by decide)))) hI_114_ad26
  have hv_14 : hI S_6 115 (ad 26) = nI bh := hf_8.fi (wm_26 (S := S) hW) (fun h9 => h9.elim (fun q9 => absurd q9.1 (by decide)) (fun h9 => h9.elim (fun q9 => absurd q9.1 (by decide)) (fun q9 => absurd q9.1 (by decide)))) hI_115_ad26
  have hv_15 : hI S_6 118 (ad 26) = nI pn := hf_8.fi (wm_26 (S := S) hW) (fun h9 => h9.elim (fun q9 => absurd q9.1 (by decide)) (fun h9 => h9.elim (fun q9 => absurd q9.1 (by decide)) (fun q9 => absurd q9.1 (by decide)))) hI_118_ad26
  have hv_16 : hI S_6 2 (ad 12) = nI mk := hf_8.fi (wm_12 (S := S) hW) (fun h9 => h9.elim (fun q9 => absurd q9.1 (by decide)) (fun h9 => h9.elim (fun q9 => absurd q9.1 (by decide)) (fun q9 => absurd q9.1 (by decide)))) hI_2_ad12
  have hv_17 : hI S_6 3 (ad 12) = nI mk := hf_8.fi (wm_12 (S := S) hW) (fun h9 => h9.elim (fun q9 => absurd q9.1 (by decide)) (fun h9 => h9.elim (fun q9 => absurd q9.1 (by decide)) (fun q9 => absurd q9.1 (by decide)))) hI_3_ad12
  have hv_18 : hI S_6 4 (ad 12) = nI cv := hf_8.fi (wm_12 (S := S) hW) (fun h9 => h9.elim (fun q9 => absurd q9.1 (by decide)) (fun h9 => h9.elim (fun q9 => absurd q9.1 (by decide)) (fun q9 => absurd q9.1 (by decide)))) hI_4_ad12
  have hv_19 : hI S_6 5 (ad 12) = 0 := hf_8.fi (wm_12 (S := S) hW) (fun h9 => h9.elim (fun q9 => absurd q9.1 (by decide)) (fun h9 => h9.elim (fun q9 => absurd q9.1 (by decide)) (fun q9 => absurd q9.1 (by decide)))) hI_5_ad12
  have hv_20 : hI S_6 603 (ad 5) = 0 := hf_8.fi (wm_5 (S := S) hW) (fun h9 => h9.elim (fun q9 => absurd q9.1 (by decide)) (fun h9 => h9.elim (fun q9 => absurd q9.1 (by decide)) (fun q9 => absurd q9.1 (by decide)))) hI_603_ad5
  have hv_21 : hI S_6 700 (ad 27) = 0 := hf_8.fi (wm_27 (S := S) hW) (fun h9 => h9.elim (fun q9 => absurd q9.1 (by decide)) (fun h9 => h9.elim (fun q9 => absurd q9.1 (by decide)) (fun q9 => absurd q9.1 (by decide)))) hI_700_ad27
  have hv_22 : hI S_6 701 (ad 27) = 0 := hf_8.fi (wm_27 (S := S) hW) (fun h9 => h9.elim (fun q9 => absurd q9.1 (by decide)) (fun h9 => h9.elim (fun q9 => absurd q9.1 (by decide)) (fun q9 => absurd q9.1 (by decide)))) hI_701_ad27
  have hv_23 : hI S_6 706 (ad 27) = nI xu := hf_8.fi (wm_27 (S := S) hW) (fun h9 => h9.elim (fun q9 => absurd q9.1 (by decide)) (fun h9 => h9.elim (fun q9 => absurd q9.1 (by decide)) (fun q9 => absurd q9.1 (by decide)))) hI_706_ad27
  have hv_24 : hI S_6 707 (ad 27) = nI yu := hf_8.fi (wm_27 (S := S) hW) (fun h9 => h9.elim (fun q9 => absurd q9.1 (by decide)) (fun h9 => h9.elim (fun q9 => absurd q9.1 (by decide)) (fun q9 => absurd q9.1 (by decide)))) hI_707_ad27
  have hv_25 : hI S_6 916 (ad 6) = nI gn := hf_8.fi (wm_6 (S := S) hW) (fun h9 => h9.elim (fun q9 => absurd q9.1 (by decide)) (fun h9 => h9.elim (fun q9 => absurd q9.1 (by decide)) (fun q9 => absurd q9.1 (by decide)))) hI_916_ad6
  have hf_26 : Fm (fun f9 b9 => (f9 = 1000 ∧ b9 = (ad 24)) ∨ (f9 = 1001 ∧ b9 = (ad 24)) ∨ (f9 = 1002 ∧ b9 = (ad 24)) ∨ (f9 = 2 ∧ b9 = (ad 12)) ∨ (f9 = 3 ∧ b9 = (ad 12)) ∨ (f9 = 4 ∧ b9 = (ad 12)) ∨ (f9 = 6 ∧ b9 = (ad 12)) ∨ (f9 = 7 ∧ b9 = (ad 12)) ∨ (f9 = 8 ∧ b9 = (ad 12)) ∨ (f9 = 9 ∧ b9 = (ad 12)) ∨ (f9 = 11 ∧ b9 = (ad 12)) ∨ (f9 = 12 ∧ b9 = (ad 12)) ∨ (f9 = 13 ∧ b9 = (ad 12)) ∨ (f9 = 14 ∧ b9 = (ad 12))) (fun f9 b9 => (f9 = 10 ∧ b9 = (ad 12))) (fun b9 => b9 = (ad 25) ∨ b9 = (ad 14) ∨ b9 = (ad 13)) S S_6 := (Fm.refl (WI := (fun f9 b9 => (f9 = 1000 ∧ b9 = (ad 24)) ∨ (f9 = 1001 ∧ b9 = (ad 24)) ∨ (f9 = 1002 ∧ b9 = (ad 24)) ∨ (f9 = 2 ∧ b9 = (ad 12)) ∨ (f9 = 3 ∧ b9 = (ad 12)) ∨ (f9 = 4 ∧ b9 = (ad 12)) ∨ (f9 = 6 ∧ b9 = (ad 12)) ∨ (f9 = 7 ∧ b9 = (ad 12)) ∨ (f9 = 8 ∧ b9 = (ad 12)) ∨ (f9 = 9 ∧ b9 = (ad 12)) ∨ (f9 = 11 ∧ b9 = (ad 12)) ∨ (f9 = 12 ∧ b9 = (ad 12)) ∨ (f9 = 13 ∧ b9 = (ad 12)) ∨ (f9 = 14 ∧ b9 = (ad 12)))) (WR := (fun f9 b9 => (f9 = 10 ∧ b9 = (ad 12)))) (WA := (fun b9 => b9 = (ad 25) ∨ b9 = (ad 14) ∨ b9 = (ad 13)))).then hf_8 (fun a9 ha9 => ⟨(fun f9 h9 => (fun h9 => h9.elim (fun h8 => (Or.inl h8)) (fun h9 => h9.elim (fun h8 => (Or.inr (Or.inl h8))) (fun h8 => (Or.inr (Or.inr (Or.inl h8)))))) h9), (fun f9 h9 => h9.elim), (fun h9 => (fun h8 => (Or.inl h8)) h9)⟩)
  have hW_27 : Wd ad S_6 := hW.fm hf_8 (by intro _ _ h9; exact h9) (by intro p9 hp9; simp only [wqL, List.mem_cons, List.not_mem_nil, or_false] at hp9; rcases hp9 with rfl | rfl <;> intro h9 <;> skip <;> exact absurd h9 (wn hW (by decide) (by decide) (by decide)))
  have hx_28 : CVP (aI S_6 (ad 13)) P := by
    have e0_9 : (aI S_6 (ad 13)) = (aI S (ad 13)) := funext fun j9 => hf_8.ai (wm_13 (S := S) hW) (fun q9 => (wn (S := S) hW (i := 13) (j := 25) (by decide) (by decide) (by decide)) q9) j9
    first | (rw [e0_9]; exact hcv) | rw [e0_9]
  show J _ _ _ _ _ 14 _
  refine j_if_eq (tgt := 21) C dX9_box_14 (by decide) (fun c9 => absurd c9 (by decide)) (fun c9 => ?_)
  refine j_iconst (v := 1) C dX9_box_17 (by decide) ?_
  refine j_goto (tgt := 22) C dX9_box_18 (by decide) ?_
  refine j_istore_n (lv' := [(2, .int 1), (0, .ref (ad 6)), (1, .int 0)]) C dX9_box_22 rfl (by rw [hn9]; decide) rfl ?_
  refine j_iload_n C dX9_box_23 rfl 0 rfl ?_
  refine j_if_eq (tgt := 123) C dX9_box_24 (by decide) (fun c9 => absurd c9 (by decide)) (fun c9 => ?_)
  refine j_aload_n C dX9_box_27 rfl 1 rfl ?_
  refine j_getr (f := 909) (v := (ad 26)) C flX9_57 dX9_box_28 (wm_6 (S := S_6) hW_27) (wk_6 (S := S_6) hW_27) (by decide) rfl (wr_909_6 (S := S_6) hW_27) ?_
  show J _ _ _ _ _ 31 _
  refine j_geti (f := 114) (v := nI bw) C flX9_596 dX9_box_31 (wm_26 (S := S_6) hW_27) (wk_26 (S := S_6) hW_27) (by decide) (by decide) rfl hv_13 ?_
  refine j_if_le (tgt := 123) C dX9_box_34 (by decide) (fun c_34 => absurd c_34 (nI_nle hw (by omega))) (fun c_34 => ?_)
  refine j_aload_n C dX9_box_37 rfl 1 rfl ?_
  refine j_getr (f := 909) (v := (ad 26)) C flX9_57 dX9_box_38 (wm_6 (S := S_6) hW_27) (wk_6 (S := S_6) hW_27) (by decide) rfl (wr_909_6 (S := S_6) hW_27) ?_
  refine j_geti (f := 115) (v := nI bh) C flX9_599 dX9_box_41 (wm_26 (S := S_6) hW_27) (wk_26 (S := S_6) hW_27) (by decide) (by decide) rfl hv_14 ?_
  refine j_if_le (tgt := 123) C dX9_box_44 (by decide) (fun c_44 => absurd c_44 (nI_nle hh (by omega))) (fun c_44 => ?_)
  refine j_aload_n C dX9_box_47 rfl 1 rfl ?_
  refine j_getr (f := 901) (v := (ad 12)) C flX9_12 dX9_box_48 (wm_6 (S := S_6) hW_27) (wk_6 (S := S_6) hW_27) (by decide) rfl (wr_901_6 (S := S_6) hW_27) ?_
  show J _ _ _ _ _ 51 _
  refine j_callV (ci := 0) C [] [] mlX9_614 mcX0_layBlack (c_X0_layBlack S_6 ad hW_27) (wm_12 (S := S_6) hW_27) (wk_12 (S := S_6) hW_27) rfl (M.rm (by decide) (by decide) (Nat.le_of_ble_eq_true rfl) (Nat.le_of_ble_eq_true rfl)) rfl rfl (Nat.le_of_ble_eq_true rfl) dX9_box_51 (fun r_29 S_30 hp_31 => ?_)
  obtain ⟨rfl, e_32⟩ := hp_31
  refine J.eq (S' := (rI S_6 (ad 14) (fillN (aI S_6 (ad 14)) 25 (-1)))) (st' := []) (lv' := [(2, .int 1), (0, .ref (ad 6)), (1, .int 0)]) e_32 rfl rfl ?_
  have hf_35 : Fm (fun f9 b9 => (f9 = 1000 ∧ b9 = (ad 24)) ∨ (f9 = 1001 ∧ b9 = (ad 24)) ∨ (f9 = 1002 ∧ b9 = (ad 24)) ∨ (f9 = 2 ∧ b9 = (ad 12)) ∨ (f9 = 3 ∧ b9 = (ad 12)) ∨ (f9 = 4 ∧ b9 = (ad 12)) ∨ (f9 = 6 ∧ b9 = (ad 12)) ∨ (f9 = 7 ∧ b9 = (ad 12)) ∨ (f9 = 8 ∧ b9 = (ad 12)) ∨ (f9 = 9 ∧ b9 = (ad 12)) ∨ (f9 = 11 ∧ b9 = (ad 12)) ∨ (f9 = 12 ∧ b9 = (ad 12)) ∨ (f9 = 13 ∧ b9 = (ad 12)) ∨ (f9 = 14 ∧ b9 = (ad 12))) (fun f9 b9 => (f9 = 10 ∧ b9 = (ad 12))) (fun b9 => b9 = (ad 25) ∨ b9 = (ad 14) ∨ b9 = (ad 13)) S (rI S_6 (ad 14) (fillN (aI S_6 (ad 14)) 25 (-1))) := (hf_26.rI _ (fun _ => (Or.inr (Or.inl rfl))))
  obtain ⟨S_33, eS_34⟩ : ∃ S9 : Hp, S9 = (rI S_6 (ad 14) (fillN (aI S_6 (ad 14)) 25 (-1))) := ⟨_, rfl⟩
  refine J.eq (S' := S_33) eS_34.symm rfl rfl ?_
  have hv_36 : hI S_33 1000 (ad 24) = 1 := by rw [eS_34]; exact e_1
  have hv_37 : hI S_33 1001 (ad 24) = 1 := by rw [eS_34]; exact e_2
  have hv_38 : hI S_33 1002 (ad 24) = 0 := by rw [eS_34]; exact e_3
  have hv_39 : hI S_33 110 (ad 26) = 0 := by rw [eS_34]; exact hv_9
  have hv_40 : hI S_33 111 (ad 26) = cI po := by rw [eS_34]; exact hv_10
  have hv_41 : hI S_33 112 (ad 26) = 0 := by rw [eS_34]; exact hv_11
  have hv_42 : hI S_33 113 (ad 26) = 0 := by rw [eS_34]; exact hv_12
  have hv_43 : hI S_33 114 (ad 26) = nI bw := by rw [eS_34]; exact hv_13
  have hv_44 : hI S_33 115 (ad 26) = nI bh := by rw [eS_34]; exact hv_14
  have hv_45 : hI S_33 118 (ad 26) = nI pn := by rw [eS_34]; exact hv_15
  have hv_46 : hI S_33 2 (ad 12) = nI mk := by rw [eS_34]; exact hv_16
  have hv_47 : hI S_33 3 (ad 12) = nI mk := by rw [eS_34]; exact hv_17
  have hv_48 : hI S_33 4 (ad 12) = nI cv := by rw [eS_34]; exact hv_18
  have hv_49 : hI S_33 5 (ad 12) = 0 := by rw [eS_34]; exact hv_19
  have hv_50 : hI S_33 603 (ad 5) = 0 := by rw [eS_34]; exact hv_20
  have hv_51 : hI S_33 700 (ad 27) = 0 := by rw [eS_34]; exact hv_21
  have hv_52 : hI S_33 701 (ad 27) = 0 := by rw [eS_34]; exact hv_22
  have hv_53 : hI S_33 706 (ad 27) = nI xu := by rw [eS_34]; exact hv_23
  have hv_54 : hI S_33 707 (ad 27) = nI yu := by rw [eS_34]; exact hv_24
  have hv_55 : hI S_33 916 (ad 6) = nI gn := by rw [eS_34]; exact hv_25
  have hf_56 : Fm (fun f9 b9 => (f9 = 1000 ∧ b9 = (ad 24)) ∨ (f9 = 1001 ∧ b9 = (ad 24)) ∨ (f9 = 1002 ∧ b9 = (ad 24)) ∨ (f9 = 2 ∧ b9 = (ad 12)) ∨ (f9 = 3 ∧ b9 = (ad 12)) ∨ (f9 = 4 ∧ b9 = (ad 12)) ∨ (f9 = 6 ∧ b9 = (ad 12)) ∨ (f9 = 7 ∧ b9 = (ad 12)) ∨ (f9 = 8 ∧ b9 = (ad 12)) ∨ (f9 = 9 ∧ b9 = (ad 12)) ∨ (f9 = 11 ∧ b9 = (ad 12)) ∨ (f9 = 12 ∧ b9 = (ad 12)) ∨ (f9 = 13 ∧ b9 = (ad 12)) ∨ (f9 = 14 ∧ b9 = (ad 12))) (fun f9 b9 => (f9 = 10 ∧ b9 = (ad 12))) (fun b9 => b9 = (ad 25) ∨ b9 = (ad 14) ∨ b9 = (ad 13)) S S_33 := by rw [eS_34]; exact hf_35
  have hW_57 : Wd ad S_33 := by rw [eS_34]; exact (Wd.rI hW_27)
  have hx_58 : CVP (aI S_33 (ad 13)) P := by rw [eS_34]; exact (by rw [show aI (rI S_6 (ad 14) (fillN (aI S_6 (ad 14)) 25 (-1))) (ad 13) = aI S_6 (ad 13) from (ar_rI (S := S_6) (wn (S := S_6) hW_27 (i := 13) (j := 14) (by decide) (by decide) (by decide)))]; exact hx_28)
  have hx_59 : TIL (aJ S_33 (ad 25)) 1 0 pn := by rw [eS_34]; exact (by rw [show aJ (rI S_6 (ad 14) (fillN (aI S_6 (ad 14)) 25 (-1))) (ad 25) = aJ S_6 (ad 25) from (arJ_rI (S := S_6))]; exact x_4)
  have hx_60 : ∀ j, j < 25 → aI S_33 (ad 14) j = -1 := by rw [eS_34]; exact fun j9 hj9 => rd_fill hj9
  have hx_61 : aI S_33 (ad 13) = aI S_33 (ad 13) := rfl
  have hx_62 : aJ S_33 (ad 25) = aJ S_33 (ad 25) := rfl
  refine j_aload_n C dX9_box_54 rfl 1 rfl ?_
  refine j_getr (f := 909) (v := (ad 26)) C flX9_57 dX9_box_55 (wm_6 (S := S_33) hW_57) (wk_6 (S := S_33) hW_57) (by decide) rfl (wr_909_6 (S := S_33) hW_57) ?_
  refine j_getr (f := 100) (v := (ad 27)) C flX9_129 dX9_box_58 (wm_26 (S := S_33) hW_57) (wk_26 (S := S_33) hW_57) (by decide) rfl (wr_100_26 (S := S_33) hW_57) ?_
  refine j_geti (f := 706) (v := nI xu) C flX9_133 dX9_box_61 (wm_27 (S := S_33) hW_57) (wk_27 (S := S_33) hW_57) (by decide) (by decide) rfl hv_53 ?_
  refine j_bipush (v := 96) C dX9_box_64 (by decide) ?_
  refine j_idiv (v := nI (xu / 96)) C dX9_box_66 (by decide) (pk_div (d := 96) (by omega) (by decide) (by decide)) ?_
  refine j_istore_n (lv' := [(3, .int (nI (xu / 96))), (2, .int 1), (0, .ref (ad 6)), (1, .int 0)]) C dX9_box_67 rfl (by rw [hn9]; decide) rfl ?_
  show J _ _ _ _ _ 68 _
  refine j_aload_n C dX9_box_68 rfl 2 rfl ?_
  refine j_getr (f := 909) (v := (ad 26)) C flX9_57 dX9_box_69 (wm_6 (S := S_33) hW_57) (wk_6 (S := S_33) hW_57) (by decide) rfl (wr_909_6 (S := S_33) hW_57) ?_
  refine j_getr (f := 100) (v := (ad 27)) C flX9_129 dX9_box_72 (wm_26 (S := S_33) hW_57) (wk_26 (S := S_33) hW_57) (by decide) rfl (wr_100_26 (S := S_33) hW_57) ?_
  refine j_geti (f := 707) (v := nI yu) C flX9_138 dX9_box_75 (wm_27 (S := S_33) hW_57) (wk_27 (S := S_33) hW_57) (by decide) (by decide) rfl hv_54 ?_
  refine j_bipush (v := 96) C dX9_box_78 (by decide) ?_
  refine j_idiv (v := nI (yu / 96)) C dX9_box_80 (by decide) (pk_div (d := 96) (by omega) (by decide) (by decide)) ?_
  refine j_istore (lv' := [(4, .int (nI (yu / 96))), (3, .int (nI (xu / 96))), (2, .int 1), (0, .ref (ad 6)), (1, .int 0)]) C dX9_box_81 (by rw [hn9]; decide) rfl ?_
  refine j_aload_n C dX9_box_83 rfl 3 rfl ?_
  show J _ _ _ _ _ 84 _
  refine j_iload_n C dX9_box_84 rfl 1 rfl ?_
  refine j_iload C dX9_box_85 0 rfl ?_
  refine j_aload_n C dX9_box_87 rfl 3 rfl ?_
  refine j_getr (f := 909) (v := (ad 26)) C flX9_57 dX9_box_88 (wm_6 (S := S_33) hW_57) (wk_6 (S := S_33) hW_57) (by decide) rfl (wr_909_6 (S := S_33) hW_57) ?_
  refine j_geti (f := 114) (v := nI bw) C flX9_596 dX9_box_91 (wm_26 (S := S_33) hW_57) (wk_26 (S := S_33) hW_57) (by decide) (by decide) rfl hv_43 ?_
  refine j_aload_n C dX9_box_94 rfl 3 rfl ?_
  refine j_getr (f := 909) (v := (ad 26)) C flX9_57 dX9_box_95 (wm_6 (S := S_33) hW_57) (wk_6 (S := S_33) hW_57) (by decide) rfl (wr_909_6 (S := S_33) hW_57) ?_
  refine j_geti (f := 115) (v := nI bh) C flX9_599 dX9_box_98 (wm_26 (S := S_33) hW_57) (wk_26 (S := S_33) hW_57) (by decide) (by decide) rfl hv_44 ?_
  show J _ _ _ _ _ 101 _
  refine j_iload_n C dX9_box_101 rfl 4 rfl ?_
  refine j_iconst (v := 5) C dX9_box_102 (by decide) ?_
  refine j_ic_ne (tgt := 116) C dX9_box_103 (by decide) (fun c9 => ?_) (fun c9 => absurd c9 (by decide))
  refine j_aload_n C dX9_box_116 rfl 3 rfl ?_
  refine j_getr (f := 905) (v := (ad 24)) C flX9_39 dX9_box_117 (wm_6 (S := S_33) hW_57) (wk_6 (S := S_33) hW_57) (by decide) rfl (wr_905_6 (S := S_33) hW_57) ?_
  refine j_callV (ci := 9) C [.int (nI (xu / 96)), .int (nI (yu / 96)), .int (nI bw), .int (nI bh), .ref (ad 24)] [] mlX9_617 mcX9_markBox (c_X9_markBox S_33 ad hW_57 (xu / 96) (yu / 96) bw bh cv mk 1 1 gn po false hv_51 hv_52 hv_46 hv_47 hv_48 hv_55 hv_49 hv_50 hv_39 hv_40 hv_41 hv_42 hv_36 hv_37 hv_38 hx hy hw hh hc hm hg hth htw hx_60 (aI S_33 (ad 13)) (aJ S_33 (ad 25)) hx_61 hx_62) (wm_6 (S := S_33) hW_57) (wk_6 (S := S_33) hW_57) rfl (M.rm (by decide) (by decide) (Nat.le_of_ble_eq_true rfl) (Nat.le_of_ble_eq_true rfl)) rfl rfl (Nat.le_of_ble_eq_true rfl) dX9_box_120 (fun r_67 S_68 hp_69 => ?_)
  obtain ⟨rfl, hf_70, e_63, e_64, e_65, x_66⟩ := hp_69
  refine J.eq (st' := []) rfl rfl rfl ?_
  have hv_71 : hI S_68 1000 (ad 24) = 1 := hf_70.fi (wm_24 (S := S_33) hW_57) (fun h9 => h9.elim (fun q9 => absurd q9.1 (by decide)) (fun h9 => h9.elim (fun q9 => absurd q9.1 (by decide)) (fun h9 => h9.elim (fun q9 => absurd q9.1 (by decide)) (fun h9 => h9.elim (fun q9 => absurd q9.1 (by decide)) (fun h9 => h9.elim (fun q9 => absurd q9.1 (by decide)) (fun h9 => h9.elim (fun q9 => absurd q9.1 (by decide)) (fun h9 => h9.elim (fun q9 => absurd q9.1 (by decide)) (fun h9 => h9.elim (fun q9 => absurd q9.1 (by decide)) (fun h9 => h9.elim (fun q9 => absurd q9.1 (by decide)) (fun h9 => h9.elim (fun q9 => absurd q9.1 (by decide)) (fun q9 => absurd q9.1 (by decide)))))))))))) hv_36
  have hv_72 : hI S_68 1001 (ad 24) = 1 := hf_70.fi (wm_24 (S := S_33) hW_57) (fun h9 => h9.elim (fun q9 => absurd q9.1 (by decide)) (fun h9 => h9.elim (fun q9 => absurd q9.1 (by decide)) (fun h9 => h9.elim (fun q9 => absurd q9.1 (by decide)) (fun h9 => h9.elim (fun q9 => absurd q9.1 (by decide)) (fun h9 => h9.elim (fun q9 => absurd q9.1 (by decide)) (fun h9 => h9.elim (fun q9 => absurd q9.1 (by decide)) (fun h9 => h9.elim (fun q9 => absurd q9.1 (by decide)) (fun h9 => h9.elim (fun q9 => absurd q9.1 (by decide)) (fun h9 => h9.elim (fun q9 => absurd q9.1 (by decide)) (fun h9 => h9.elim (fun q9 => absurd q9.1 (by decide)) (fun q9 => absurd q9.1 (by decide)))))))))))) hv_37
  have hv_73 : hI S_68 1002 (ad 24) = 0 := hf_70.fi (wm_24 (S := S_33) hW_57) (fun h9 => h9.elim (fun q9 => absurd q9.1 (by decide)) (fun h9 => h9.elim (fun q9 => absurd q9.1 (by decide)) (fun h9 => h9.elim (fun q9 => absurd q9.1 (by decide)) (fun h9 => h9.elim (fun q9 => absurd q9.1 (by decide)) (fun h9 => h9.elim (fun q9 => absurd q9.1 (by decide)) (fun h9 => h9.elim (fun q9 => absurd q9.1 (by decide)) (fun h9 => h9.elim (fun q9 => absurd q9.1 (by decide)) (fun h9 => h9.elim (fun q9 => absurd q9.1 (by decide)) (fun h9 => h9.elim (fun q9 => absurd q9.1 (by decide)) (fun h9 => h9.elim (fun q9 => absurd q9.1 (by decide)) (fun q9 => absurd q9.1 (by decide)))))))))))) hv_38
  have hv_74 : hI S_68 110 (ad 26) = 0 := hf_70.fi (wm_26 (S := S_33) hW_57) (fun h9 => h9.elim (fun q9 => absurd q9.1 (by decide)) (fun h9 => h9.elim (fun q9 => absurd q9.1 (by decide)) (fun h9 => h9.elim (fun q9 => absurd q9.1 (by decide)) (fun h9 => h9.elim (fun q9 => absurd q9.1 (by decide)) (fun h9 => h9.elim (fun q9 => absurd q9.1 (by decide)) (fun h9 => h9.elim (fun q9 => absurd q9.1 (by decide)) (fun h9 => h9.elim (fun q9 => absurd q9.1 (by decide)) (fun h9 => h9.elim (fun q9 => absurd q9.1 (by decide)) (fun h9 => h9.elim (fun q9 => absurd q9.1 (by decide)) (fun h9 => h9.elim (fun q9 => absurd q9.1 (by decide)) (fun q9 => absurd q9.1 (by decide)))))))))))) hv_39
  have hv_75 : hI S_68 111 (ad 26) = cI po := hf_70.fi (wm_26 (S := S_33) hW_57) (fun h9 => h9.elim (fun q9 => absurd q9.1 (by decide)) (fun h9 => h9.elim (fun q9 => absurd q9.1 (by decide)) (fun h9 => h9.elim (fun q9 => absurd q9.1 (by decide)) (fun h9 => h9.elim (fun q9 => absurd q9.1 (by decide)) (fun h9 => h9.elim (fun q9 => absurd q9.1 (by decide)) (fun h9 => h9.elim (fun q9 => absurd q9.1 (by decide)) (fun h9 => h9.elim (fun q9 => absurd q9.1 (by decide)) (fun h9 => h9.elim (fun q9 => absurd q9.1 (by decide)) (fun h9 => h9.elim (fun q9 => absurd q9.1 (by decide)) (fun h9 => h9.elim (fun q9 => absurd q9.1 (by decide)) (fun q9 => absurd q9.1 (by decide)))))))))))) hv_40
  have hv_76 : hI S_68 112 (ad 26) = 0 := hf_70.fi (wm_26 (S := S_33) hW_57) (fun h9 => h9.elim (fun q9 => absurd q9.1 (by decide)) (fun h9 => h9.elim (fun q9 => absurd q9.1 (by decide)) (fun h9 => h9.elim (fun q9 => absurd q9.1 (by decide)) (fun h9 => h9.elim (fun q9 => absurd q9.1 (by decide)) (fun h9 => h9.elim (fun q9 => absurd q9.1 (by decide)) (fun h9 => h9.elim (fun q9 => absurd q9.1 (by decide)) (fun h9 => h9.elim (fun q9 => absurd q9.1 (by decide)) (fun h9 => h9.elim (fun q9 => absurd q9.1 (by decide)) (fun h9 => h9.elim (fun q9 => absurd q9.1 (by decide)) (fun h9 => h9.elim (fun q9 => absurd q9.1 (by decide)) (fun q9 => absurd q9.1 (by decide)))))))))))) hv_41
  have hv_77 : hI S_68 113 (ad 26) = 0 := hf_70.fi (wm_26 (S := S_33) hW_57) (fun h9 => h9.elim (fun q9 => absurd q9.1 (by decide)) (fun h9 => h9.elim (fun q9 => absurd q9.1 (by decide)) (fun h9 => h9.elim (fun q9 => absurd q9.1 (by decide)) (fun h9 => h9.elim (fun q9 => absurd q9.1 (by decide)) (fun h9 => h9.elim (fun q9 => absurd q9.1 (by decide)) (fun h9 => h9.elim (fun q9 => absurd q9.1 (by decide)) (fun h9 => h9.elim (fun q9 => absurd q9.1 (by decide)) (fun h9 => h9.elim (fun q9 => absurd q9.1 (by decide)) (fun h9 => h9.elim (fun q9 => absurd q9.1 (by decide)) (fun h9 => h9.elim (fun q9 => absurd q9.1 (by decide)) (fun q9 => absurd q9.1 (by decide)))))))))))) hv_42
  have hv_78 : hI S_68 114 (ad 26) = nI bw := hf_70.fi (wm_26 (S := S_33) hW_57) (fun h9 => h9.elim (fun q9 => absurd q9.1 (by decide)) (fun h9 => h9.elim (fun q9 => absurd q9.1 (by decide)) (fun h9 => h9.elim (fun q9 => absurd q9.1 (by decide)) (fun h9 => h9.elim (fun q9 => absurd q9.1 (by decide)) (fun h9 => h9.elim (fun q9 => absurd q9.1 (by decide)) (fun h9 => h9.elim (fun q9 => absurd q9.1 (by decide)) (fun h9 => h9.elim (fun q9 => absurd q9.1 (by decide)) (fun h9 => h9.elim (fun q9 => absurd q9.1 (by decide)) (fun h9 => h9.elim (fun q9 => absurd q9.1 (by decide)) (fun h9 => h9.elim (fun q9 => absurd q9.1 (by decide)) (fun q9 => absurd q9.1 (by decide)))))))))))) hv_43
  have hv_79 : hI S_68 115 (ad 26) = nI bh := hf_70.fi (wm_26 (S := S_33) hW_57) (fun h9 => h9.elim (fun q9 => absurd q9.1 (by decide)) (fun h9 => h9.elim (fun q9 => absurd q9.1 (by decide)) (fun h9 => h9.elim (fun q9 => absurd q9.1 (by decide)) (fun h9 => h9.elim (fun q9 => absurd q9.1 (by decide)) (fun h9 => h9.elim (fun q9 => absurd q9.1 (by decide)) (fun h9 => h9.elim (fun q9 => absurd q9.1 (by decide)) (fun h9 => h9.elim (fun q9 => absurd q9.1 (by decide)) (fun h9 => h9.elim (fun q9 => absurd q9.1 (by decide)) (fun h9 => h9.elim (fun q9 => absurd q9.1 (by decide)) (fun h9 => h9.elim (fun q9 => absurd q9.1 (by decide)) (fun q9 => absurd q9.1 (by decide)))))))))))) hv_44
  have hv_80 : hI S_68 118 (ad 26) = nI pn := hf_70.fi (wm_26 (S := S_33) hW_57) (fun h9 => h9.elim (fun q9 => absurd q9.1 (by decide)) (fun h9 => h9.elim (fun q9 => absurd q9.1 (by decide)) (fun h9 => h9.elim (fun q9 => absurd q9.1 (by decide)) (fun h9 => h9.elim (fun q9 => absurd q9.1 (by decide)) (fun h9 => h9.elim (fun q9 => absurd q9.1 (by decide)) (fun h9 => h9.elim (fun q9 => absurd q9.1 (by decide)) (fun h9 => h9.elim (fun q9 => absurd q9.1 (by decide)) (fun h9 => h9.elim (fun q9 => absurd q9.1 (by decide)) (fun h9 => h9.elim (fun q9 => absurd q9.1 (by decide)) (fun h9 => h9.elim (fun q9 => absurd q9.1 (by decide)) (fun q9 => absurd q9.1 (by decide)))))))))))) hv_45
  have hv_81 : hI S_68 5 (ad 12) = 0 := hf_70.fi (wm_12 (S := S_33) hW_57) (fun h9 => h9.elim (fun q9 => absurd q9.1 (by decide)) (fun h9 => h9.elim (fun q9 => absurd q9.1 (by decide)) (fun h9 => h9.elim (fun q9 => absurd q9.1 (by decide)) (fun h9 => h9.elim (fun q9 => absurd q9.1 (by decide)) (fun h9 => h9.elim (fun q9 => absurd q9.1 (by decide)) (fun h9 => h9.elim (fun q9 => absurd q9.1 (by decide)) (fun h9 => h9.elim (fun q9 => absurd q9.1 (by decide)) (fun h9 => h9.elim (fun q9 => absurd q9.1 (by decide)) (fun h9 => h9.elim (fun q9 => absurd q9.1 (by decide)) (fun h9 => h9.elim (fun q9 => absurd q9.1 (by decide)) (fun q9 => absurd q9.1 (by decide)))))))))))) hv_49
  have hv_82 : hI S_68 603 (ad 5) = 0 := hf_70.fi (wm_5 (S := S_33) hW_57) (fun h9 => h9.elim (fun q9 => absurd q9.1 (by decide)) (fun h9 => h9.elim (fun q9 => absurd q9.1 (by decide)) (fun h9 => h9.elim (fun q9 => absurd q9.1 (by decide)) (fun h9 => h9.elim (fun q9 => absurd q9.1 (by decide)) (fun h9 => h9.elim (fun q9 => absurd q9.1 (by decide)) (fun h9 => h9.elim (fun q9 => absurd q9.1 (by decide)) (fun h9 => h9.elim (fun q9 => absurd q9.1 (by decide)) (fun h9 => h9.elim (fun q9 => absurd q9.1 (by decide)) (fun h9 => h9.elim (fun q9 => absurd q9.1 (by decide)) (fun h9 => h9.elim (fun q9 => absurd q9.1 (by decide)) (fun q9 => absurd q9.1 (by decide)))))))))))) hv_50
  have hv_83 : hI S_68 700 (ad 27) = 0 := hf_70.fi (wm_27 (S := S_33) hW_57) (fun h9 => h9.elim (fun q9 => absurd q9.1 (by decide)) (fun h9 => h9.elim (fun q9 => absurd q9.1 (by decide)) (fun h9 => h9.elim (fun q9 => absurd q9.1 (by decide)) (fun h9 => h9.elim (fun q9 => absurd q9.1 (by decide)) (fun h9 => h9.elim (fun q9 => absurd q9.1 (by decide)) (fun h9 => h9.elim (fun q9 => absurd q9.1 (by decide)) (fun h9 => h9.elim (fun q9 => absurd q9.1 (by decide)) (fun h9 => h9.elim (fun q9 => absurd q9.1 (by decide)) (fun h9 => h9.elim (fun q9 => absurd q9.1 (by decide)) (fun h9 => h9.elim (fun q9 => absurd q9.1 (by decide)) (fun q9 => absurd q9.1 (by decide)))))))))))) hv_51
  have hv_84 : hI S_68 701 (ad 27) = 0 := hf_70.fi (wm_27 (S := S_33) hW_57) (fun h9 => h9.elim (fun q9 => absurd q9.1 (by decide)) (fun h9 => h9.elim (fun q9 => absurd q9.1 (by decide)) (fun h9 => h9.elim (fun q9 => absurd q9.1 (by decide)) (fun h9 => h9.elim (fun q9 => absurd q9.1 (by decide)) (fun h9 => h9.elim (fun q9 => absurd q9.1 (by decide)) (fun h9 => h9.elim (fun q9 => absurd q9.1 (by decide)) (fun h9 => h9.elim (fun q9 => absurd q9.1 (by decide)) (fun h9 => h9.elim (fun q9 => absurd q9.1 (by decide)) (fun h9 => h9.elim (fun q9 => absurd q9.1 (by decide)) (fun h9 => h9.elim (fun q9 => absurd q9.1 (by decide)) (fun q9 => absurd q9.1 (by decide)))))))))))) hv_52
  have hv_85 : hI S_68 706 (ad 27) = nI xu := hf_70.fi (wm_27 (S := S_33) hW_57) (fun h9 => h9.elim (fun q9 => absurd q9.1 (by decide)) (fun h9 => h9.elim (fun q9 => absurd q9.1 (by decide)) (fun h9 => h9.elim (fun q9 => absurd q9.1 (by decide)) (fun h9 => h9.elim (fun q9 => absurd q9.1 (by decide)) (fun h9 => h9.elim (fun q9 => absurd q9.1 (by decide)) (fun h9 => h9.elim (fun q9 => absurd q9.1 (by decide)) (fun h9 => h9.elim (fun q9 => absurd q9.1 (by decide)) (fun h9 => h9.elim (fun q9 => absurd q9.1 (by decide)) (fun h9 => h9.elim (fun q9 => absurd q9.1 (by decide)) (fun h9 => h9.elim (fun q9 => absurd q9.1 (by decide)) (fun q9 => absurd q9.1 (by decide)))))))))))) hv_53
  have hv_86 : hI S_68 707 (ad 27) = nI yu := hf_70.fi (wm_27 (S := S_33) hW_57) (fun h9 => h9.elim (fun q9 => absurd q9.1 (by decide)) (fun h9 => h9.elim (fun q9 => absurd q9.1 (by decide)) (fun h9 => h9.elim (fun q9 => absurd q9.1 (by decide)) (fun h9 => h9.elim (fun q9 => absurd q9.1 (by decide)) (fun h9 => h9.elim (fun q9 => absurd q9.1 (by decide)) (fun h9 => h9.elim (fun q9 => absurd q9.1 (by decide)) (fun h9 => h9.elim (fun q9 => absurd q9.1 (by decide)) (fun h9 => h9.elim (fun q9 => absurd q9.1 (by decide)) (fun h9 => h9.elim (fun q9 => absurd q9.1 (by decide)) (fun h9 => h9.elim (fun q9 => absurd q9.1 (by decide)) (fun q9 => absurd q9.1 (by decide)))))))))))) hv_54
  have hv_87 : hI S_68 916 (ad 6) = nI gn := hf_70.fi (wm_6 (S := S_33) hW_57) (fun h9 => h9.elim (fun q9 => absurd q9.1 (by decide)) (fun h9 => h9.elim (fun q9 => absurd q9.1 (by decide)) (fun h9 => h9.elim (fun q9 => absurd q9.1 (by decide)) (fun h9 => h9.elim (fun q9 => absurd q9.1 (by decide)) (fun h9 => h9.elim (fun q9 => absurd q9.1 (by decide)) (fun h9 => h9.elim (fun q9 => absurd q9.1 (by decide)) (fun h9 => h9.elim (fun q9 => absurd q9.1 (by decide)) (fun h9 => h9.elim (fun q9 => absurd q9.1 (by decide)) (fun h9 => h9.elim (fun q9 => absurd q9.1 (by decide)) (fun h9 => h9.elim (fun q9 => absurd q9.1 (by decide)) (fun q9 => absurd q9.1 (by decide)))))))))))) hv_55
  have hf_88 : Fm (fun f9 b9 => (f9 = 1000 ∧ b9 = (ad 24)) ∨ (f9 = 1001 ∧ b9 = (ad 24)) ∨ (f9 = 1002 ∧ b9 = (ad 24)) ∨ (f9 = 2 ∧ b9 = (ad 12)) ∨ (f9 = 3 ∧ b9 = (ad 12)) ∨ (f9 = 4 ∧ b9 = (ad 12)) ∨ (f9 = 6 ∧ b9 = (ad 12)) ∨ (f9 = 7 ∧ b9 = (ad 12)) ∨ (f9 = 8 ∧ b9 = (ad 12)) ∨ (f9 = 9 ∧ b9 = (ad 12)) ∨ (f9 = 11 ∧ b9 = (ad 12)) ∨ (f9 = 12 ∧ b9 = (ad 12)) ∨ (f9 = 13 ∧ b9 = (ad 12)) ∨ (f9 = 14 ∧ b9 = (ad 12))) (fun f9 b9 => (f9 = 10 ∧ b9 = (ad 12))) (fun b9 => b9 = (ad 25) ∨ b9 = (ad 14) ∨ b9 = (ad 13)) S S_68 := hf_56.then hf_70 (fun a9 ha9 => ⟨(fun f9 h9 => (fun h9 => h9.elim (fun h8 => (Or.inr (Or.inr (Or.inr (Or.inl h8))))) (fun h9 => h9.elim (fun h8 => (Or.inr (Or.inr (Or.inr (Or.inr (Or.inl h8)))))) (fun h9 => h9.elim (fun h8 => (Or.inr (Or.inr (Or.inr (Or.inr (Or.inr (Or.inl h8))))))) (fun h9 => h9.elim (fun h8 => (Or.inr (Or.inr (Or.inr (Or.inr (Or.inr (Or.inr (Or.inl h8)))))))) (fun h9 => h9.elim (fun h8 => (Or.inr (Or.inr (Or.inr (Or.inr (Or.inr (Or.inr (Or.inr (Or.inl h8))))))))) (fun h9 => h9.elim (fun h8 => (Or.inr (Or.inr (Or.inr (Or.inr (Or.inr (Or.inr (Or.inr (Or.inr (Or.inl h8)))))))))) (fun h9 => h9.elim (fun h8 => (Or.inr (Or.inr (Or.inr (Or.inr (Or.inr (Or.inr (Or.inr (Or.inr (Or.inr (Or.inl h8))))))))))) (fun h9 => h9.elim (fun h8 => (Or.inr (Or.inr (Or.inr (Or.inr (Or.inr (Or.inr (Or.inr (Or.inr (Or.inr (Or.inr (Or.inl h8)))))))))))) (fun h9 => h9.elim (fun h8 => (Or.inr (Or.inr (Or.inr (Or.inr (Or.inr (Or.inr (Or.inr (Or.inr (Or.inr (Or.inr (Or.inr (Or.inl h8))))))))))))) (fun h9 => h9.elim (fun h8 => (Or.inr (Or.inr (Or.inr (Or.inr (Or.inr (Or.inr (Or.inr (Or.inr (Or.inr (Or.inr (Or.inr (Or.inr (Or.inl h8)))))))))))))) (fun h8 => (Or.inr (Or.inr (Or.inr (Or.inr (Or.inr (Or.inr (Or.inr (Or.inr (Or.inr (Or.inr (Or.inr (Or.inr (Or.inr h8)))))))))))))))))))))))) h9), (fun f9 h9 => (fun h8 => h8) h9), (fun h9 => (fun h8 => (Or.inr (Or.inr h8))) h9)⟩)
  have hW_89 : Wd ad S_68 := hW_57.fm hf_70 (by intro p9 hp9 h9; obtain ⟨e1, e2⟩ := h9 <;> exact wp_dyn p9 hp9 (by rw [e1]; decide)) (by intro p9 hp9; simp only [wqL, List.mem_cons, List.not_mem_nil, or_false] at hp9; rcases hp9 with rfl | rfl <;> intro h9 <;> skip <;> exact absurd h9 (wn hW_57 (by decide) (by decide) (by decide)))
  have hx_90 : TIL (aJ S_68 (ad 25)) 1 0 pn := by
    have e0_9 : (aJ S_68 (ad 25)) = (aJ S_33 (ad 25)) := funext fun j9 => hf_70.aj (wm_25 (S := S_33) hW_57) (fun q9 => (wn (S := S_33) hW_57 (i := 25) (j := 13) (by decide) (by decide) (by decide)) q9) j9
    first | (rw [e0_9]; exact hx_59) | rw [e0_9]
  have hx_91 : ∀ j, j < 25 → aI S_68 (ad 14) j = -1 := by
    have e0_9 : (aI S_68 (ad 14)) = (aI S_33 (ad 14)) := funext fun j9 => hf_70.ai (wm_14 (S := S_33) hW_57) (fun q9 => (wn (S := S_33) hW_57 (i := 14) (j := 13) (by decide) (by decide) (by decide)) q9) j9
    first | (rw [e0_9]; exact hx_60) | rw [e0_9]
  have hx_92 : aJ S_68 (ad 25) = aJ S_33 (ad 25) := by
    have e0_9 : (aJ S_68 (ad 25)) = (aJ S_33 (ad 25)) := funext fun j9 => hf_70.aj (wm_25 (S := S_33) hW_57) (fun q9 => (wn (S := S_33) hW_57 (i := 25) (j := 13) (by decide) (by decide) (by decide)) q9) j9
    first | (rw [e0_9]; exact hx_62) | rw [e0_9]
  exact j_vret C M dX9_box_123 (Nat.le_of_ble_eq_true rfl) (Nat.le_of_ble_eq_true rfl) ⟨rfl, hf_88, e_63, e_64, e_65, (by rw [x_66]; exact cvp_box hx_58 hw (by omega) hx_59 rfl)⟩

set_option maxRecDepth 100000 in
set_option maxHeartbeats 4000000 in
theorem c_box1 (S : Hp) (ad : Nat → Nat) (hW : Wd ad S) (xu : Nat) (yu : Nat) (bw : Nat) (bh : Nat) (cv : Nat) (mk : Nat) (gn : Nat) (pn : Nat) (po : Bool) (P : Nat → Nat → Bool) (hI_700_ad27 : hI S 700 (ad 27) = 0) (hI_701_ad27 : hI S 701 (ad 27) = 0) (hI_706_ad27 : hI S 706 (ad 27) = nI xu) (hI_707_ad27 : hI S 707 (ad 27) = nI yu) (hI_2_ad12 : hI S 2 (ad 12) = nI mk) (hI_3_ad12 : hI S 3 (ad 12) = nI mk) (hI_4_ad12 : hI S 4 (ad 12) = nI cv) (hI_916_ad6 : hI S 916 (ad 6) = nI gn) (hI_5_ad12 : hI S 5 (ad 12) = 0) (hI_603_ad5 : hI S 603 (ad 5) = 0) (hI_110_ad26 : hI S 110 (ad 26) = 0) (hI_111_ad26 : hI S 111 (ad 26) = cI po) (hI_112_ad26 : hI S 112 (ad 26) = 0) (hI_113_ad26 : hI S 113 (ad 26) = 0) (hI_114_ad26 : hI S 114 (ad 26) = nI bw) (hI_115_ad26 : hI S 115 (ad 26) = nI bh) (hI_118_ad26 : hI S 118 (ad 26) = nI pn) (hcv : CVP (aI S (ad 13)) P) (h1 : 1 ≤ pn) (h2 : pn ≤ 100) (hx : xu / 96 + bw ≤ 200) (hy : yu / 96 + bh ≤ 240) (hw : 0 < bw) (hh : 0 < bh) (hc : cv + bw * bh ≤ 5000000) (hm : mk < 2000) (hg : gn ≤ 60000) (hxu : xu < 100000) (hyu : yu < 100000) : Ct 5 yX9_box cX9_box 5 none 0 0 [.ref (ad 6), .int 1] S (fun r S' => r = none ∧ Fm (fun f9 b9 => (f9 = 1000 ∧ b9 = (ad 24)) ∨ (f9 = 1001 ∧ b9 = (ad 24)) ∨ (f9 = 1002 ∧ b9 = (ad 24)) ∨ (f9 = 2 ∧ b9 = (ad 12)) ∨ (f9 = 3 ∧ b9 = (ad 12)) ∨ (f9 = 4 ∧ b9 = (ad 12)) ∨ (f9 = 6 ∧ b9 = (ad 12)) ∨ (f9 = 7 ∧ b9 = (ad 12)) ∨ (f9 = 8 ∧ b9 = (ad 12)) ∨ (f9 = 9 ∧ b9 = (ad 12)) ∨ (f9 = 11 ∧ b9 = (ad 12)) ∨ (f9 = 12 ∧ b9 = (ad 12)) ∨ (f9 = 13 ∧ b9 = (ad 12)) ∨ (f9 = 14 ∧ b9 = (ad 12))) (fun f9 b9 => (f9 = 10 ∧ b9 = (ad 12))) (fun b9 => b9 = (ad 25) ∨ b9 = (ad 14) ∨ b9 = (ad 13)) S S' ∧ hI S' 2 (ad 12) = nI (mk + 1) ∧ hI S' 3 (ad 12) = nI (mk + 1) ∧ hI S' 4 (ad 12) = nI (cv + bw * bh) ∧ CVP (aI S' (ad 13)) (boxP 1 pn po (xu / 96) (yu / 96) bw bh P)) := by
  refine ct_of (by decide) (Nat.le_of_ble_eq_true rfl) fun x hn9 C M hm9 => ?_
  have C : CB x RX9 cX9_box := C
  refine J.eq (lv' := [(0, .ref (ad 6)), (1, .int 1)]) rfl rfl rfl ?_
  have hth : (0 : Nat) < 1 ∧ (1 : Nat) ≤ 16 := by decide
  have htw : (1 : Nat) = 1 ∨ (1 : Nat) = 4 := by decide
  refine j_iload_n C dX9_box_0 rfl 1 rfl ?_
  refine j_iconst (v := 5) C dX9_box_1 (by decide) ?_
  refine j_ic_eq (tgt := 17) C dX9_box_2 (by decide) (fun c9 => absurd c9 (by decide)) (fun c9 => ?_)
  refine j_aload_n C dX9_box_5 rfl 0 rfl ?_
  refine j_aload_n C dX9_box_6 rfl 0 rfl ?_
  refine j_getr (f := 905) (v := (ad 24)) C flX9_39 dX9_box_7 (wm_6 (S := S) hW) (wk_6 (S := S) hW) (by decide) rfl (wr_905_6 (S := S) hW) ?_
  refine j_iload_n C dX9_box_10 rfl 1 rfl ?_
  refine j_callV (ci := 9) C [.ref (ad 24), .int 1] [] mlX9_610 mcX9_setTile (c_st1 S ad hW pn hI_118_ad26 (by omega) (by omega)) (wm_6 (S := S) hW) (wk_6 (S := S) hW) rfl (M.rm (by decide) (by decide) (Nat.le_of_ble_eq_true rfl) (Nat.le_of_ble_eq_true rfl)) rfl rfl (Nat.le_of_ble_eq_true rfl) dX9_box_11 (fun r_5 S_6 hp_7 => ?_)
  obtain ⟨rfl, hf_8, e_1, e_2, e_3, x_4⟩ := hp_7
  refine J.eq (st' := [.int 1]) rfl rfl rfl ?_
  have hv_9 : hI S_6 110 (ad 26) = 0 := hf_8.fi (wm_26 (S := S) hW) (fun h9 => h9.elim (fun q9 => absurd q9.1 (by decide)) (fun h9 => h9.elim (fun q9 => absurd q9.1 (by decide)) (fun q9 => absurd q9.1 (by decide)))) hI_110_ad26
  have hv_10 : hI S_6 111 (ad 26) = cI po := hf_8.fi (wm_26 (S := S) hW) (fun h9 => h9.elim (fun q9 => absurd q9.1 (by decide)) (fun h9 => h9.elim (fun q9 => absurd q9.1 (by decide)) (fun q9 => absurd q9.1 (by decide)))) hI_111_ad26
  have hv_11 : hI S_6 112 (ad 26) = 0 := hf_8.fi (wm_26 (S := S) hW) (fun h9 => h9.elim (fun q9 => absurd q9.1 (by decide)) (fun h9 => h9.elim (fun q9 => absurd q9.1 (by decide)) (fun q9 => absurd q9.1 (by decide)))) hI_112_ad26
  have hv_12 : hI S_6 113 (ad 26) = 0 := hf_8.fi (wm_26 (S := S) hW) (fun h9 => h9.elim (fun q9 => absurd q9.1 (by decide)) (fun h9 => h9.elim (fun q9 => absurd q9.1 (by decide)) (fun q9 => absurd q9.1 (by decide)))) hI_113_ad26
  have hv_13 : hI S_6 114 (ad 26) = nI bw := hf_8.fi (wm_26 (S := S) hW) (fun h9 => h9.elim (fun q9 => absurd q9.1 (by decide)) (fun h9 => h9.elim (fun q9 => absurd q9.1 (by decide)) (fun q9 => absurd q9.1 (by decide)))) hI_114_ad26
  have hv_14 : hI S_6 115 (ad 26) = nI bh := hf_8.fi (wm_26 (S := S) hW) (fun h9 => h9.elim (fun q9 => absurd q9.1 (by decide)) (fun h9 => h9.elim (fun q9 => absurd q9.1 (by decide)) (fun q9 => absurd q9.1 (by decide)))) hI_115_ad26
  have hv_15 : hI S_6 118 (ad 26) = nI pn := hf_8.fi (wm_26 (S := S) hW) (fun h9 => h9.elim (fun q9 => absurd q9.1 (by decide)) (fun h9 => h9.elim (fun q9 => absurd q9.1 (by decide)) (fun q9 => absurd q9.1 (by decide)))) hI_118_ad26
  have hv_16 : hI S_6 2 (ad 12) = nI mk := hf_8.fi (wm_12 (S := S) hW) (fun h9 => h9.elim (fun q9 => absurd q9.1 (by decide)) (fun h9 => h9.elim (fun q9 => absurd q9.1 (by decide)) (fun q9 => absurd q9.1 (by decide)))) hI_2_ad12
  have hv_17 : hI S_6 3 (ad 12) = nI mk := hf_8.fi (wm_12 (S := S) hW) (fun h9 => h9.elim (fun q9 => absurd q9.1 (by decide)) (fun h9 => h9.elim (fun q9 => absurd q9.1 (by decide)) (fun q9 => absurd q9.1 (by decide)))) hI_3_ad12
  have hv_18 : hI S_6 4 (ad 12) = nI cv := hf_8.fi (wm_12 (S := S) hW) (fun h9 => h9.elim (fun q9 => absurd q9.1 (by decide)) (fun h9 => h9.elim (fun q9 => absurd q9.1 (by decide)) (fun q9 => absurd q9.1 (by decide)))) hI_4_ad12
  have hv_19 : hI S_6 5 (ad 12) = 0 := hf_8.fi (wm_12 (S := S) hW) (fun h9 => h9.elim (fun q9 => absurd q9.1 (by decide)) (fun h9 => h9.elim (fun q9 => absurd q9.1 (by decide)) (fun q9 => absurd q9.1 (by decide)))) hI_5_ad12
  have hv_20 : hI S_6 603 (ad 5) = 0 := hf_8.fi (wm_5 (S := S) hW) (fun h9 => h9.elim (fun q9 => absurd q9.1 (by decide)) (fun h9 => h9.elim (fun q9 => absurd q9.1 (by decide)) (fun q9 => absurd q9.1 (by decide)))) hI_603_ad5
  have hv_21 : hI S_6 700 (ad 27) = 0 := hf_8.fi (wm_27 (S := S) hW) (fun h9 => h9.elim (fun q9 => absurd q9.1 (by decide)) (fun h9 => h9.elim (fun q9 => absurd q9.1 (by decide)) (fun q9 => absurd q9.1 (by decide)))) hI_700_ad27
  have hv_22 : hI S_6 701 (ad 27) = 0 := hf_8.fi (wm_27 (S := S) hW) (fun h9 => h9.elim (fun q9 => absurd q9.1 (by decide)) (fun h9 => h9.elim (fun q9 => absurd q9.1 (by decide)) (fun q9 => absurd q9.1 (by decide)))) hI_701_ad27
  have hv_23 : hI S_6 706 (ad 27) = nI xu := hf_8.fi (wm_27 (S := S) hW) (fun h9 => h9.elim (fun q9 => absurd q9.1 (by decide)) (fun h9 => h9.elim (fun q9 => absurd q9.1 (by decide)) (fun q9 => absurd q9.1 (by decide)))) hI_706_ad27
  have hv_24 : hI S_6 707 (ad 27) = nI yu := hf_8.fi (wm_27 (S := S) hW) (fun h9 => h9.elim (fun q9 => absurd q9.1 (by decide)) (fun h9 => h9.elim (fun q9 => absurd q9.1 (by decide)) (fun q9 => absurd q9.1 (by decide)))) hI_707_ad27
  have hv_25 : hI S_6 916 (ad 6) = nI gn := hf_8.fi (wm_6 (S := S) hW) (fun h9 => h9.elim (fun q9 => absurd q9.1 (by decide)) (fun h9 => h9.elim (fun q9 => absurd q9.1 (by decide)) (fun q9 => absurd q9.1 (by decide)))) hI_916_ad6
  have hf_26 : Fm (fun f9 b9 => (f9 = 1000 ∧ b9 = (ad 24)) ∨ (f9 = 1001 ∧ b9 = (ad 24)) ∨ (f9 = 1002 ∧ b9 = (ad 24)) ∨ (f9 = 2 ∧ b9 = (ad 12)) ∨ (f9 = 3 ∧ b9 = (ad 12)) ∨ (f9 = 4 ∧ b9 = (ad 12)) ∨ (f9 = 6 ∧ b9 = (ad 12)) ∨ (f9 = 7 ∧ b9 = (ad 12)) ∨ (f9 = 8 ∧ b9 = (ad 12)) ∨ (f9 = 9 ∧ b9 = (ad 12)) ∨ (f9 = 11 ∧ b9 = (ad 12)) ∨ (f9 = 12 ∧ b9 = (ad 12)) ∨ (f9 = 13 ∧ b9 = (ad 12)) ∨ (f9 = 14 ∧ b9 = (ad 12))) (fun f9 b9 => (f9 = 10 ∧ b9 = (ad 12))) (fun b9 => b9 = (ad 25) ∨ b9 = (ad 14) ∨ b9 = (ad 13)) S S_6 := (Fm.refl (WI := (fun f9 b9 => (f9 = 1000 ∧ b9 = (ad 24)) ∨ (f9 = 1001 ∧ b9 = (ad 24)) ∨ (f9 = 1002 ∧ b9 = (ad 24)) ∨ (f9 = 2 ∧ b9 = (ad 12)) ∨ (f9 = 3 ∧ b9 = (ad 12)) ∨ (f9 = 4 ∧ b9 = (ad 12)) ∨ (f9 = 6 ∧ b9 = (ad 12)) ∨ (f9 = 7 ∧ b9 = (ad 12)) ∨ (f9 = 8 ∧ b9 = (ad 12)) ∨ (f9 = 9 ∧ b9 = (ad 12)) ∨ (f9 = 11 ∧ b9 = (ad 12)) ∨ (f9 = 12 ∧ b9 = (ad 12)) ∨ (f9 = 13 ∧ b9 = (ad 12)) ∨ (f9 = 14 ∧ b9 = (ad 12)))) (WR := (fun f9 b9 => (f9 = 10 ∧ b9 = (ad 12)))) (WA := (fun b9 => b9 = (ad 25) ∨ b9 = (ad 14) ∨ b9 = (ad 13)))).then hf_8 (fun a9 ha9 => ⟨(fun f9 h9 => (fun h9 => h9.elim (fun h8 => (Or.inl h8)) (fun h9 => h9.elim (fun h8 => (Or.inr (Or.inl h8))) (fun h8 => (Or.inr (Or.inr (Or.inl h8)))))) h9), (fun f9 h9 => h9.elim), (fun h9 => (fun h8 => (Or.inl h8)) h9)⟩)
  have hW_27 : Wd ad S_6 := hW.fm hf_8 (by intro _ _ h9; exact h9) (by intro p9 hp9; simp only [wqL, List.mem_cons, List.not_mem_nil, or_false] at hp9; rcases hp9 with rfl | rfl <;> intro h9 <;> skip <;> exact absurd h9 (wn hW (by decide) (by decide) (by decide)))
  have hx_28 : CVP (aI S_6 (ad 13)) P := by
    have e0_9 : (aI S_6 (ad 13)) = (aI S (ad 13)) := funext fun j9 => hf_8.ai (wm_13 (S := S) hW) (fun q9 => (wn (S := S) hW (i := 13) (j := 25) (by decide) (by decide) (by decide)) q9) j9
    first | (rw [e0_9]; exact hcv) | rw [e0_9]
  show J _ _ _ _ _ 14 _
  refine j_if_eq (tgt := 21) C dX9_box_14 (by decide) (fun c9 => absurd c9 (by decide)) (fun c9 => ?_)
  refine j_iconst (v := 1) C dX9_box_17 (by decide) ?_
  refine j_goto (tgt := 22) C dX9_box_18 (by decide) ?_
  refine j_istore_n (lv' := [(2, .int 1), (0, .ref (ad 6)), (1, .int 1)]) C dX9_box_22 rfl (by rw [hn9]; decide) rfl ?_
  refine j_iload_n C dX9_box_23 rfl 0 rfl ?_
  refine j_if_eq (tgt := 123) C dX9_box_24 (by decide) (fun c9 => absurd c9 (by decide)) (fun c9 => ?_)
  refine j_aload_n C dX9_box_27 rfl 1 rfl ?_
  refine j_getr (f := 909) (v := (ad 26)) C flX9_57 dX9_box_28 (wm_6 (S := S_6) hW_27) (wk_6 (S := S_6) hW_27) (by decide) rfl (wr_909_6 (S := S_6) hW_27) ?_
  show J _ _ _ _ _ 31 _
  refine j_geti (f := 114) (v := nI bw) C flX9_596 dX9_box_31 (wm_26 (S := S_6) hW_27) (wk_26 (S := S_6) hW_27) (by decide) (by decide) rfl hv_13 ?_
  refine j_if_le (tgt := 123) C dX9_box_34 (by decide) (fun c_34 => absurd c_34 (nI_nle hw (by omega))) (fun c_34 => ?_)
  refine j_aload_n C dX9_box_37 rfl 1 rfl ?_
  refine j_getr (f := 909) (v := (ad 26)) C flX9_57 dX9_box_38 (wm_6 (S := S_6) hW_27) (wk_6 (S := S_6) hW_27) (by decide) rfl (wr_909_6 (S := S_6) hW_27) ?_
  refine j_geti (f := 115) (v := nI bh) C flX9_599 dX9_box_41 (wm_26 (S := S_6) hW_27) (wk_26 (S := S_6) hW_27) (by decide) (by decide) rfl hv_14 ?_
  refine j_if_le (tgt := 123) C dX9_box_44 (by decide) (fun c_44 => absurd c_44 (nI_nle hh (by omega))) (fun c_44 => ?_)
  refine j_aload_n C dX9_box_47 rfl 1 rfl ?_
  refine j_getr (f := 901) (v := (ad 12)) C flX9_12 dX9_box_48 (wm_6 (S := S_6) hW_27) (wk_6 (S := S_6) hW_27) (by decide) rfl (wr_901_6 (S := S_6) hW_27) ?_
  show J _ _ _ _ _ 51 _
  refine j_callV (ci := 0) C [] [] mlX9_614 mcX0_layBlack (c_X0_layBlack S_6 ad hW_27) (wm_12 (S := S_6) hW_27) (wk_12 (S := S_6) hW_27) rfl (M.rm (by decide) (by decide) (Nat.le_of_ble_eq_true rfl) (Nat.le_of_ble_eq_true rfl)) rfl rfl (Nat.le_of_ble_eq_true rfl) dX9_box_51 (fun r_29 S_30 hp_31 => ?_)
  obtain ⟨rfl, e_32⟩ := hp_31
  refine J.eq (S' := (rI S_6 (ad 14) (fillN (aI S_6 (ad 14)) 25 (-1)))) (st' := []) (lv' := [(2, .int 1), (0, .ref (ad 6)), (1, .int 1)]) e_32 rfl rfl ?_
  have hf_35 : Fm (fun f9 b9 => (f9 = 1000 ∧ b9 = (ad 24)) ∨ (f9 = 1001 ∧ b9 = (ad 24)) ∨ (f9 = 1002 ∧ b9 = (ad 24)) ∨ (f9 = 2 ∧ b9 = (ad 12)) ∨ (f9 = 3 ∧ b9 = (ad 12)) ∨ (f9 = 4 ∧ b9 = (ad 12)) ∨ (f9 = 6 ∧ b9 = (ad 12)) ∨ (f9 = 7 ∧ b9 = (ad 12)) ∨ (f9 = 8 ∧ b9 = (ad 12)) ∨ (f9 = 9 ∧ b9 = (ad 12)) ∨ (f9 = 11 ∧ b9 = (ad 12)) ∨ (f9 = 12 ∧ b9 = (ad 12)) ∨ (f9 = 13 ∧ b9 = (ad 12)) ∨ (f9 = 14 ∧ b9 = (ad 12))) (fun f9 b9 => (f9 = 10 ∧ b9 = (ad 12))) (fun b9 => b9 = (ad 25) ∨ b9 = (ad 14) ∨ b9 = (ad 13)) S (rI S_6 (ad 14) (fillN (aI S_6 (ad 14)) 25 (-1))) := (hf_26.rI _ (fun _ => (Or.inr (Or.inl rfl))))
  obtain ⟨S_33, eS_34⟩ : ∃ S9 : Hp, S9 = (rI S_6 (ad 14) (fillN (aI S_6 (ad 14)) 25 (-1))) := ⟨_, rfl⟩
  refine J.eq (S' := S_33) eS_34.symm rfl rfl ?_
  have hv_36 : hI S_33 1000 (ad 24) = 1 := by rw [eS_34]; exact e_1
  have hv_37 : hI S_33 1001 (ad 24) = 1 := by rw [eS_34]; exact e_2
  have hv_38 : hI S_33 1002 (ad 24) = 1 := by rw [eS_34]; exact e_3
  have hv_39 : hI S_33 110 (ad 26) = 0 := by rw [eS_34]; exact hv_9
  have hv_40 : hI S_33 111 (ad 26) = cI po := by rw [eS_34]; exact hv_10
  have hv_41 : hI S_33 112 (ad 26) = 0 := by rw [eS_34]; exact hv_11
  have hv_42 : hI S_33 113 (ad 26) = 0 := by rw [eS_34]; exact hv_12
  have hv_43 : hI S_33 114 (ad 26) = nI bw := by rw [eS_34]; exact hv_13
  have hv_44 : hI S_33 115 (ad 26) = nI bh := by rw [eS_34]; exact hv_14
  have hv_45 : hI S_33 118 (ad 26) = nI pn := by rw [eS_34]; exact hv_15
  have hv_46 : hI S_33 2 (ad 12) = nI mk := by rw [eS_34]; exact hv_16
  have hv_47 : hI S_33 3 (ad 12) = nI mk := by rw [eS_34]; exact hv_17
  have hv_48 : hI S_33 4 (ad 12) = nI cv := by rw [eS_34]; exact hv_18
  have hv_49 : hI S_33 5 (ad 12) = 0 := by rw [eS_34]; exact hv_19
  have hv_50 : hI S_33 603 (ad 5) = 0 := by rw [eS_34]; exact hv_20
  have hv_51 : hI S_33 700 (ad 27) = 0 := by rw [eS_34]; exact hv_21
  have hv_52 : hI S_33 701 (ad 27) = 0 := by rw [eS_34]; exact hv_22
  have hv_53 : hI S_33 706 (ad 27) = nI xu := by rw [eS_34]; exact hv_23
  have hv_54 : hI S_33 707 (ad 27) = nI yu := by rw [eS_34]; exact hv_24
  have hv_55 : hI S_33 916 (ad 6) = nI gn := by rw [eS_34]; exact hv_25
  have hf_56 : Fm (fun f9 b9 => (f9 = 1000 ∧ b9 = (ad 24)) ∨ (f9 = 1001 ∧ b9 = (ad 24)) ∨ (f9 = 1002 ∧ b9 = (ad 24)) ∨ (f9 = 2 ∧ b9 = (ad 12)) ∨ (f9 = 3 ∧ b9 = (ad 12)) ∨ (f9 = 4 ∧ b9 = (ad 12)) ∨ (f9 = 6 ∧ b9 = (ad 12)) ∨ (f9 = 7 ∧ b9 = (ad 12)) ∨ (f9 = 8 ∧ b9 = (ad 12)) ∨ (f9 = 9 ∧ b9 = (ad 12)) ∨ (f9 = 11 ∧ b9 = (ad 12)) ∨ (f9 = 12 ∧ b9 = (ad 12)) ∨ (f9 = 13 ∧ b9 = (ad 12)) ∨ (f9 = 14 ∧ b9 = (ad 12))) (fun f9 b9 => (f9 = 10 ∧ b9 = (ad 12))) (fun b9 => b9 = (ad 25) ∨ b9 = (ad 14) ∨ b9 = (ad 13)) S S_33 := by rw [eS_34]; exact hf_35
  have hW_57 : Wd ad S_33 := by rw [eS_34]; exact (Wd.rI hW_27)
  have hx_58 : CVP (aI S_33 (ad 13)) P := by rw [eS_34]; exact (by rw [show aI (rI S_6 (ad 14) (fillN (aI S_6 (ad 14)) 25 (-1))) (ad 13) = aI S_6 (ad 13) from (ar_rI (S := S_6) (wn (S := S_6) hW_27 (i := 13) (j := 14) (by decide) (by decide) (by decide)))]; exact hx_28)
  have hx_59 : TIL (aJ S_33 (ad 25)) 1 1 pn := by rw [eS_34]; exact (by rw [show aJ (rI S_6 (ad 14) (fillN (aI S_6 (ad 14)) 25 (-1))) (ad 25) = aJ S_6 (ad 25) from (arJ_rI (S := S_6))]; exact x_4)
  have hx_60 : ∀ j, j < 25 → aI S_33 (ad 14) j = -1 := by rw [eS_34]; exact fun j9 hj9 => rd_fill hj9
  have hx_61 : aI S_33 (ad 13) = aI S_33 (ad 13) := rfl
  have hx_62 : aJ S_33 (ad 25) = aJ S_33 (ad 25) := rfl
  refine j_aload_n C dX9_box_54 rfl 1 rfl ?_
  refine j_getr (f := 909) (v := (ad 26)) C flX9_57 dX9_box_55 (wm_6 (S := S_33) hW_57) (wk_6 (S := S_33) hW_57) (by decide) rfl (wr_909_6 (S := S_33) hW_57) ?_
  refine j_getr (f := 100) (v := (ad 27)) C flX9_129 dX9_box_58 (wm_26 (S := S_33) hW_57) (wk_26 (S := S_33) hW_57) (by decide) rfl (wr_100_26 (S := S_33) hW_57) ?_
  refine j_geti (f := 706) (v := nI xu) C flX9_133 dX9_box_61 (wm_27 (S := S_33) hW_57) (wk_27 (S := S_33) hW_57) (by decide) (by decide) rfl hv_53 ?_
  refine j_bipush (v := 96) C dX9_box_64 (by decide) ?_
  refine j_idiv (v := nI (xu / 96)) C dX9_box_66 (by decide) (pk_div (d := 96) (by omega) (by decide) (by decide)) ?_
  refine j_istore_n (lv' := [(3, .int (nI (xu / 96))), (2, .int 1), (0, .ref (ad 6)), (1, .int 1)]) C dX9_box_67 rfl (by rw [hn9]; decide) rfl ?_
  show J _ _ _ _ _ 68 _
  refine j_aload_n C dX9_box_68 rfl 2 rfl ?_
  refine j_getr (f := 909) (v := (ad 26)) C flX9_57 dX9_box_69 (wm_6 (S := S_33) hW_57) (wk_6 (S := S_33) hW_57) (by decide) rfl (wr_909_6 (S := S_33) hW_57) ?_
  refine j_getr (f := 100) (v := (ad 27)) C flX9_129 dX9_box_72 (wm_26 (S := S_33) hW_57) (wk_26 (S := S_33) hW_57) (by decide) rfl (wr_100_26 (S := S_33) hW_57) ?_
  refine j_geti (f := 707) (v := nI yu) C flX9_138 dX9_box_75 (wm_27 (S := S_33) hW_57) (wk_27 (S := S_33) hW_57) (by decide) (by decide) rfl hv_54 ?_
  refine j_bipush (v := 96) C dX9_box_78 (by decide) ?_
  refine j_idiv (v := nI (yu / 96)) C dX9_box_80 (by decide) (pk_div (d := 96) (by omega) (by decide) (by decide)) ?_
  refine j_istore (lv' := [(4, .int (nI (yu / 96))), (3, .int (nI (xu / 96))), (2, .int 1), (0, .ref (ad 6)), (1, .int 1)]) C dX9_box_81 (by rw [hn9]; decide) rfl ?_
  refine j_aload_n C dX9_box_83 rfl 3 rfl ?_
  show J _ _ _ _ _ 84 _
  refine j_iload_n C dX9_box_84 rfl 1 rfl ?_
  refine j_iload C dX9_box_85 0 rfl ?_
  refine j_aload_n C dX9_box_87 rfl 3 rfl ?_
  refine j_getr (f := 909) (v := (ad 26)) C flX9_57 dX9_box_88 (wm_6 (S := S_33) hW_57) (wk_6 (S := S_33) hW_57) (by decide) rfl (wr_909_6 (S := S_33) hW_57) ?_
  refine j_geti (f := 114) (v := nI bw) C flX9_596 dX9_box_91 (wm_26 (S := S_33) hW_57) (wk_26 (S := S_33) hW_57) (by decide) (by decide) rfl hv_43 ?_
  refine j_aload_n C dX9_box_94 rfl 3 rfl ?_
  refine j_getr (f := 909) (v := (ad 26)) C flX9_57 dX9_box_95 (wm_6 (S := S_33) hW_57) (wk_6 (S := S_33) hW_57) (by decide) rfl (wr_909_6 (S := S_33) hW_57) ?_
  refine j_geti (f := 115) (v := nI bh) C flX9_599 dX9_box_98 (wm_26 (S := S_33) hW_57) (wk_26 (S := S_33) hW_57) (by decide) (by decide) rfl hv_44 ?_
  show J _ _ _ _ _ 101 _
  refine j_iload_n C dX9_box_101 rfl 4 rfl ?_
  refine j_iconst (v := 5) C dX9_box_102 (by decide) ?_
  refine j_ic_ne (tgt := 116) C dX9_box_103 (by decide) (fun c9 => ?_) (fun c9 => absurd c9 (by decide))
  refine j_aload_n C dX9_box_116 rfl 3 rfl ?_
  refine j_getr (f := 905) (v := (ad 24)) C flX9_39 dX9_box_117 (wm_6 (S := S_33) hW_57) (wk_6 (S := S_33) hW_57) (by decide) rfl (wr_905_6 (S := S_33) hW_57) ?_
  refine j_callV (ci := 9) C [.int (nI (xu / 96)), .int (nI (yu / 96)), .int (nI bw), .int (nI bh), .ref (ad 24)] [] mlX9_617 mcX9_markBox (c_X9_markBox S_33 ad hW_57 (xu / 96) (yu / 96) bw bh cv mk 1 1 gn po true hv_51 hv_52 hv_46 hv_47 hv_48 hv_55 hv_49 hv_50 hv_39 hv_40 hv_41 hv_42 hv_36 hv_37 hv_38 hx hy hw hh hc hm hg hth htw hx_60 (aI S_33 (ad 13)) (aJ S_33 (ad 25)) hx_61 hx_62) (wm_6 (S := S_33) hW_57) (wk_6 (S := S_33) hW_57) rfl (M.rm (by decide) (by decide) (Nat.le_of_ble_eq_true rfl) (Nat.le_of_ble_eq_true rfl)) rfl rfl (Nat.le_of_ble_eq_true rfl) dX9_box_120 (fun r_67 S_68 hp_69 => ?_)
  obtain ⟨rfl, hf_70, e_63, e_64, e_65, x_66⟩ := hp_69
  refine J.eq (st' := []) rfl rfl rfl ?_
  have hv_71 : hI S_68 1000 (ad 24) = 1 := hf_70.fi (wm_24 (S := S_33) hW_57) (fun h9 => h9.elim (fun q9 => absurd q9.1 (by decide)) (fun h9 => h9.elim (fun q9 => absurd q9.1 (by decide)) (fun h9 => h9.elim (fun q9 => absurd q9.1 (by decide)) (fun h9 => h9.elim (fun q9 => absurd q9.1 (by decide)) (fun h9 => h9.elim (fun q9 => absurd q9.1 (by decide)) (fun h9 => h9.elim (fun q9 => absurd q9.1 (by decide)) (fun h9 => h9.elim (fun q9 => absurd q9.1 (by decide)) (fun h9 => h9.elim (fun q9 => absurd q9.1 (by decide)) (fun h9 => h9.elim (fun q9 => absurd q9.1 (by decide)) (fun h9 => h9.elim (fun q9 => absurd q9.1 (by decide)) (fun q9 => absurd q9.1 (by decide)))))))))))) hv_36
  have hv_72 : hI S_68 1001 (ad 24) = 1 := hf_70.fi (wm_24 (S := S_33) hW_57) (fun h9 => h9.elim (fun q9 => absurd q9.1 (by decide)) (fun h9 => h9.elim (fun q9 => absurd q9.1 (by decide)) (fun h9 => h9.elim (fun q9 => absurd q9.1 (by decide)) (fun h9 => h9.elim (fun q9 => absurd q9.1 (by decide)) (fun h9 => h9.elim (fun q9 => absurd q9.1 (by decide)) (fun h9 => h9.elim (fun q9 => absurd q9.1 (by decide)) (fun h9 => h9.elim (fun q9 => absurd q9.1 (by decide)) (fun h9 => h9.elim (fun q9 => absurd q9.1 (by decide)) (fun h9 => h9.elim (fun q9 => absurd q9.1 (by decide)) (fun h9 => h9.elim (fun q9 => absurd q9.1 (by decide)) (fun q9 => absurd q9.1 (by decide)))))))))))) hv_37
  have hv_73 : hI S_68 1002 (ad 24) = 1 := hf_70.fi (wm_24 (S := S_33) hW_57) (fun h9 => h9.elim (fun q9 => absurd q9.1 (by decide)) (fun h9 => h9.elim (fun q9 => absurd q9.1 (by decide)) (fun h9 => h9.elim (fun q9 => absurd q9.1 (by decide)) (fun h9 => h9.elim (fun q9 => absurd q9.1 (by decide)) (fun h9 => h9.elim (fun q9 => absurd q9.1 (by decide)) (fun h9 => h9.elim (fun q9 => absurd q9.1 (by decide)) (fun h9 => h9.elim (fun q9 => absurd q9.1 (by decide)) (fun h9 => h9.elim (fun q9 => absurd q9.1 (by decide)) (fun h9 => h9.elim (fun q9 => absurd q9.1 (by decide)) (fun h9 => h9.elim (fun q9 => absurd q9.1 (by decide)) (fun q9 => absurd q9.1 (by decide)))))))))))) hv_38
  have hv_74 : hI S_68 110 (ad 26) = 0 := hf_70.fi (wm_26 (S := S_33) hW_57) (fun h9 => h9.elim (fun q9 => absurd q9.1 (by decide)) (fun h9 => h9.elim (fun q9 => absurd q9.1 (by decide)) (fun h9 => h9.elim (fun q9 => absurd q9.1 (by decide)) (fun h9 => h9.elim (fun q9 => absurd q9.1 (by decide)) (fun h9 => h9.elim (fun q9 => absurd q9.1 (by decide)) (fun h9 => h9.elim (fun q9 => absurd q9.1 (by decide)) (fun h9 => h9.elim (fun q9 => absurd q9.1 (by decide)) (fun h9 => h9.elim (fun q9 => absurd q9.1 (by decide)) (fun h9 => h9.elim (fun q9 => absurd q9.1 (by decide)) (fun h9 => h9.elim (fun q9 => absurd q9.1 (by decide)) (fun q9 => absurd q9.1 (by decide)))))))))))) hv_39
  have hv_75 : hI S_68 111 (ad 26) = cI po := hf_70.fi (wm_26 (S := S_33) hW_57) (fun h9 => h9.elim (fun q9 => absurd q9.1 (by decide)) (fun h9 => h9.elim (fun q9 => absurd q9.1 (by decide)) (fun h9 => h9.elim (fun q9 => absurd q9.1 (by decide)) (fun h9 => h9.elim (fun q9 => absurd q9.1 (by decide)) (fun h9 => h9.elim (fun q9 => absurd q9.1 (by decide)) (fun h9 => h9.elim (fun q9 => absurd q9.1 (by decide)) (fun h9 => h9.elim (fun q9 => absurd q9.1 (by decide)) (fun h9 => h9.elim (fun q9 => absurd q9.1 (by decide)) (fun h9 => h9.elim (fun q9 => absurd q9.1 (by decide)) (fun h9 => h9.elim (fun q9 => absurd q9.1 (by decide)) (fun q9 => absurd q9.1 (by decide)))))))))))) hv_40
  have hv_76 : hI S_68 112 (ad 26) = 0 := hf_70.fi (wm_26 (S := S_33) hW_57) (fun h9 => h9.elim (fun q9 => absurd q9.1 (by decide)) (fun h9 => h9.elim (fun q9 => absurd q9.1 (by decide)) (fun h9 => h9.elim (fun q9 => absurd q9.1 (by decide)) (fun h9 => h9.elim (fun q9 => absurd q9.1 (by decide)) (fun h9 => h9.elim (fun q9 => absurd q9.1 (by decide)) (fun h9 => h9.elim (fun q9 => absurd q9.1 (by decide)) (fun h9 => h9.elim (fun q9 => absurd q9.1 (by decide)) (fun h9 => h9.elim (fun q9 => absurd q9.1 (by decide)) (fun h9 => h9.elim (fun q9 => absurd q9.1 (by decide)) (fun h9 => h9.elim (fun q9 => absurd q9.1 (by decide)) (fun q9 => absurd q9.1 (by decide)))))))))))) hv_41
  have hv_77 : hI S_68 113 (ad 26) = 0 := hf_70.fi (wm_26 (S := S_33) hW_57) (fun h9 => h9.elim (fun q9 => absurd q9.1 (by decide)) (fun h9 => h9.elim (fun q9 => absurd q9.1 (by decide)) (fun h9 => h9.elim (fun q9 => absurd q9.1 (by decide)) (fun h9 => h9.elim (fun q9 => absurd q9.1 (by decide)) (fun h9 => h9.elim (fun q9 => absurd q9.1 (by decide)) (fun h9 => h9.elim (fun q9 => absurd q9.1 (by decide)) (fun h9 => h9.elim (fun q9 => absurd q9.1 (by decide)) (fun h9 => h9.elim (fun q9 => absurd q9.1 (by decide)) (fun h9 => h9.elim (fun q9 => absurd q9.1 (by decide)) (fun h9 => h9.elim (fun q9 => absurd q9.1 (by decide)) (fun q9 => absurd q9.1 (by decide)))))))))))) hv_42
  have hv_78 : hI S_68 114 (ad 26) = nI bw := hf_70.fi (wm_26 (S := S_33) hW_57) (fun h9 => h9.elim (fun q9 => absurd q9.1 (by decide)) (fun h9 => h9.elim (fun q9 => absurd q9.1 (by decide)) (fun h9 => h9.elim (fun q9 => absurd q9.1 (by decide)) (fun h9 => h9.elim (fun q9 => absurd q9.1 (by decide)) (fun h9 => h9.elim (fun q9 => absurd q9.1 (by decide)) (fun h9 => h9.elim (fun q9 => absurd q9.1 (by decide)) (fun h9 => h9.elim (fun q9 => absurd q9.1 (by decide)) (fun h9 => h9.elim (fun q9 => absurd q9.1 (by decide)) (fun h9 => h9.elim (fun q9 => absurd q9.1 (by decide)) (fun h9 => h9.elim (fun q9 => absurd q9.1 (by decide)) (fun q9 => absurd q9.1 (by decide)))))))))))) hv_43
  have hv_79 : hI S_68 115 (ad 26) = nI bh := hf_70.fi (wm_26 (S := S_33) hW_57) (fun h9 => h9.elim (fun q9 => absurd q9.1 (by decide)) (fun h9 => h9.elim (fun q9 => absurd q9.1 (by decide)) (fun h9 => h9.elim (fun q9 => absurd q9.1 (by decide)) (fun h9 => h9.elim (fun q9 => absurd q9.1 (by decide)) (fun h9 => h9.elim (fun q9 => absurd q9.1 (by decide)) (fun h9 => h9.elim (fun q9 => absurd q9.1 (by decide)) (fun h9 => h9.elim (fun q9 => absurd q9.1 (by decide)) (fun h9 => h9.elim (fun q9 => absurd q9.1 (by decide)) (fun h9 => h9.elim (fun q9 => absurd q9.1 (by decide)) (fun h9 => h9.elim (fun q9 => absurd q9.1 (by decide)) (fun q9 => absurd q9.1 (by decide)))))))))))) hv_44
  have hv_80 : hI S_68 118 (ad 26) = nI pn := hf_70.fi (wm_26 (S := S_33) hW_57) (fun h9 => h9.elim (fun q9 => absurd q9.1 (by decide)) (fun h9 => h9.elim (fun q9 => absurd q9.1 (by decide)) (fun h9 => h9.elim (fun q9 => absurd q9.1 (by decide)) (fun h9 => h9.elim (fun q9 => absurd q9.1 (by decide)) (fun h9 => h9.elim (fun q9 => absurd q9.1 (by decide)) (fun h9 => h9.elim (fun q9 => absurd q9.1 (by decide)) (fun h9 => h9.elim (fun q9 => absurd q9.1 (by decide)) (fun h9 => h9.elim (fun q9 => absurd q9.1 (by decide)) (fun h9 => h9.elim (fun q9 => absurd q9.1 (by decide)) (fun h9 => h9.elim (fun q9 => absurd q9.1 (by decide)) (fun q9 => absurd q9.1 (by decide)))))))))))) hv_45
  have hv_81 : hI S_68 5 (ad 12) = 0 := hf_70.fi (wm_12 (S := S_33) hW_57) (fun h9 => h9.elim (fun q9 => absurd q9.1 (by decide)) (fun h9 => h9.elim (fun q9 => absurd q9.1 (by decide)) (fun h9 => h9.elim (fun q9 => absurd q9.1 (by decide)) (fun h9 => h9.elim (fun q9 => absurd q9.1 (by decide)) (fun h9 => h9.elim (fun q9 => absurd q9.1 (by decide)) (fun h9 => h9.elim (fun q9 => absurd q9.1 (by decide)) (fun h9 => h9.elim (fun q9 => absurd q9.1 (by decide)) (fun h9 => h9.elim (fun q9 => absurd q9.1 (by decide)) (fun h9 => h9.elim (fun q9 => absurd q9.1 (by decide)) (fun h9 => h9.elim (fun q9 => absurd q9.1 (by decide)) (fun q9 => absurd q9.1 (by decide)))))))))))) hv_49
  have hv_82 : hI S_68 603 (ad 5) = 0 := hf_70.fi (wm_5 (S := S_33) hW_57) (fun h9 => h9.elim (fun q9 => absurd q9.1 (by decide)) (fun h9 => h9.elim (fun q9 => absurd q9.1 (by decide)) (fun h9 => h9.elim (fun q9 => absurd q9.1 (by decide)) (fun h9 => h9.elim (fun q9 => absurd q9.1 (by decide)) (fun h9 => h9.elim (fun q9 => absurd q9.1 (by decide)) (fun h9 => h9.elim (fun q9 => absurd q9.1 (by decide)) (fun h9 => h9.elim (fun q9 => absurd q9.1 (by decide)) (fun h9 => h9.elim (fun q9 => absurd q9.1 (by decide)) (fun h9 => h9.elim (fun q9 => absurd q9.1 (by decide)) (fun h9 => h9.elim (fun q9 => absurd q9.1 (by decide)) (fun q9 => absurd q9.1 (by decide)))))))))))) hv_50
  have hv_83 : hI S_68 700 (ad 27) = 0 := hf_70.fi (wm_27 (S := S_33) hW_57) (fun h9 => h9.elim (fun q9 => absurd q9.1 (by decide)) (fun h9 => h9.elim (fun q9 => absurd q9.1 (by decide)) (fun h9 => h9.elim (fun q9 => absurd q9.1 (by decide)) (fun h9 => h9.elim (fun q9 => absurd q9.1 (by decide)) (fun h9 => h9.elim (fun q9 => absurd q9.1 (by decide)) (fun h9 => h9.elim (fun q9 => absurd q9.1 (by decide)) (fun h9 => h9.elim (fun q9 => absurd q9.1 (by decide)) (fun h9 => h9.elim (fun q9 => absurd q9.1 (by decide)) (fun h9 => h9.elim (fun q9 => absurd q9.1 (by decide)) (fun h9 => h9.elim (fun q9 => absurd q9.1 (by decide)) (fun q9 => absurd q9.1 (by decide)))))))))))) hv_51
  have hv_84 : hI S_68 701 (ad 27) = 0 := hf_70.fi (wm_27 (S := S_33) hW_57) (fun h9 => h9.elim (fun q9 => absurd q9.1 (by decide)) (fun h9 => h9.elim (fun q9 => absurd q9.1 (by decide)) (fun h9 => h9.elim (fun q9 => absurd q9.1 (by decide)) (fun h9 => h9.elim (fun q9 => absurd q9.1 (by decide)) (fun h9 => h9.elim (fun q9 => absurd q9.1 (by decide)) (fun h9 => h9.elim (fun q9 => absurd q9.1 (by decide)) (fun h9 => h9.elim (fun q9 => absurd q9.1 (by decide)) (fun h9 => h9.elim (fun q9 => absurd q9.1 (by decide)) (fun h9 => h9.elim (fun q9 => absurd q9.1 (by decide)) (fun h9 => h9.elim (fun q9 => absurd q9.1 (by decide)) (fun q9 => absurd q9.1 (by decide)))))))))))) hv_52
  have hv_85 : hI S_68 706 (ad 27) = nI xu := hf_70.fi (wm_27 (S := S_33) hW_57) (fun h9 => h9.elim (fun q9 => absurd q9.1 (by decide)) (fun h9 => h9.elim (fun q9 => absurd q9.1 (by decide)) (fun h9 => h9.elim (fun q9 => absurd q9.1 (by decide)) (fun h9 => h9.elim (fun q9 => absurd q9.1 (by decide)) (fun h9 => h9.elim (fun q9 => absurd q9.1 (by decide)) (fun h9 => h9.elim (fun q9 => absurd q9.1 (by decide)) (fun h9 => h9.elim (fun q9 => absurd q9.1 (by decide)) (fun h9 => h9.elim (fun q9 => absurd q9.1 (by decide)) (fun h9 => h9.elim (fun q9 => absurd q9.1 (by decide)) (fun h9 => h9.elim (fun q9 => absurd q9.1 (by decide)) (fun q9 => absurd q9.1 (by decide)))))))))))) hv_53
  have hv_86 : hI S_68 707 (ad 27) = nI yu := hf_70.fi (wm_27 (S := S_33) hW_57) (fun h9 => h9.elim (fun q9 => absurd q9.1 (by decide)) (fun h9 => h9.elim (fun q9 => absurd q9.1 (by decide)) (fun h9 => h9.elim (fun q9 => absurd q9.1 (by decide)) (fun h9 => h9.elim (fun q9 => absurd q9.1 (by decide)) (fun h9 => h9.elim (fun q9 => absurd q9.1 (by decide)) (fun h9 => h9.elim (fun q9 => absurd q9.1 (by decide)) (fun h9 => h9.elim (fun q9 => absurd q9.1 (by decide)) (fun h9 => h9.elim (fun q9 => absurd q9.1 (by decide)) (fun h9 => h9.elim (fun q9 => absurd q9.1 (by decide)) (fun h9 => h9.elim (fun q9 => absurd q9.1 (by decide)) (fun q9 => absurd q9.1 (by decide)))))))))))) hv_54
  have hv_87 : hI S_68 916 (ad 6) = nI gn := hf_70.fi (wm_6 (S := S_33) hW_57) (fun h9 => h9.elim (fun q9 => absurd q9.1 (by decide)) (fun h9 => h9.elim (fun q9 => absurd q9.1 (by decide)) (fun h9 => h9.elim (fun q9 => absurd q9.1 (by decide)) (fun h9 => h9.elim (fun q9 => absurd q9.1 (by decide)) (fun h9 => h9.elim (fun q9 => absurd q9.1 (by decide)) (fun h9 => h9.elim (fun q9 => absurd q9.1 (by decide)) (fun h9 => h9.elim (fun q9 => absurd q9.1 (by decide)) (fun h9 => h9.elim (fun q9 => absurd q9.1 (by decide)) (fun h9 => h9.elim (fun q9 => absurd q9.1 (by decide)) (fun h9 => h9.elim (fun q9 => absurd q9.1 (by decide)) (fun q9 => absurd q9.1 (by decide)))))))))))) hv_55
  have hf_88 : Fm (fun f9 b9 => (f9 = 1000 ∧ b9 = (ad 24)) ∨ (f9 = 1001 ∧ b9 = (ad 24)) ∨ (f9 = 1002 ∧ b9 = (ad 24)) ∨ (f9 = 2 ∧ b9 = (ad 12)) ∨ (f9 = 3 ∧ b9 = (ad 12)) ∨ (f9 = 4 ∧ b9 = (ad 12)) ∨ (f9 = 6 ∧ b9 = (ad 12)) ∨ (f9 = 7 ∧ b9 = (ad 12)) ∨ (f9 = 8 ∧ b9 = (ad 12)) ∨ (f9 = 9 ∧ b9 = (ad 12)) ∨ (f9 = 11 ∧ b9 = (ad 12)) ∨ (f9 = 12 ∧ b9 = (ad 12)) ∨ (f9 = 13 ∧ b9 = (ad 12)) ∨ (f9 = 14 ∧ b9 = (ad 12))) (fun f9 b9 => (f9 = 10 ∧ b9 = (ad 12))) (fun b9 => b9 = (ad 25) ∨ b9 = (ad 14) ∨ b9 = (ad 13)) S S_68 := hf_56.then hf_70 (fun a9 ha9 => ⟨(fun f9 h9 => (fun h9 => h9.elim (fun h8 => (Or.inr (Or.inr (Or.inr (Or.inl h8))))) (fun h9 => h9.elim (fun h8 => (Or.inr (Or.inr (Or.inr (Or.inr (Or.inl h8)))))) (fun h9 => h9.elim (fun h8 => (Or.inr (Or.inr (Or.inr (Or.inr (Or.inr (Or.inl h8))))))) (fun h9 => h9.elim (fun h8 => (Or.inr (Or.inr (Or.inr (Or.inr (Or.inr (Or.inr (Or.inl h8)))))))) (fun h9 => h9.elim (fun h8 => (Or.inr (Or.inr (Or.inr (Or.inr (Or.inr (Or.inr (Or.inr (Or.inl h8))))))))) (fun h9 => h9.elim (fun h8 => (Or.inr (Or.inr (Or.inr (Or.inr (Or.inr (Or.inr (Or.inr (Or.inr (Or.inl h8)))))))))) (fun h9 => h9.elim (fun h8 => (Or.inr (Or.inr (Or.inr (Or.inr (Or.inr (Or.inr (Or.inr (Or.inr (Or.inr (Or.inl h8))))))))))) (fun h9 => h9.elim (fun h8 => (Or.inr (Or.inr (Or.inr (Or.inr (Or.inr (Or.inr (Or.inr (Or.inr (Or.inr (Or.inr (Or.inl h8)))))))))))) (fun h9 => h9.elim (fun h8 => (Or.inr (Or.inr (Or.inr (Or.inr (Or.inr (Or.inr (Or.inr (Or.inr (Or.inr (Or.inr (Or.inr (Or.inl h8))))))))))))) (fun h9 => h9.elim (fun h8 => (Or.inr (Or.inr (Or.inr (Or.inr (Or.inr (Or.inr (Or.inr (Or.inr (Or.inr (Or.inr (Or.inr (Or.inr (Or.inl h8)))))))))))))) (fun h8 => (Or.inr (Or.inr (Or.inr (Or.inr (Or.inr (Or.inr (Or.inr (Or.inr (Or.inr (Or.inr (Or.inr (Or.inr (Or.inr h8)))))))))))))))))))))))) h9), (fun f9 h9 => (fun h8 => h8) h9), (fun h9 => (fun h8 => (Or.inr (Or.inr h8))) h9)⟩)
  have hW_89 : Wd ad S_68 := hW_57.fm hf_70 (by intro p9 hp9 h9; obtain ⟨e1, e2⟩ := h9 <;> exact wp_dyn p9 hp9 (by rw [e1]; decide)) (by intro p9 hp9; simp only [wqL, List.mem_cons, List.not_mem_nil, or_false] at hp9; rcases hp9 with rfl | rfl <;> intro h9 <;> skip <;> exact absurd h9 (wn hW_57 (by decide) (by decide) (by decide)))
  have hx_90 : TIL (aJ S_68 (ad 25)) 1 1 pn := by
    have e0_9 : (aJ S_68 (ad 25)) = (aJ S_33 (ad 25)) := funext fun j9 => hf_70.aj (wm_25 (S := S_33) hW_57) (fun q9 => (wn (S := S_33) hW_57 (i := 25) (j := 13) (by decide) (by decide) (by decide)) q9) j9
    first | (rw [e0_9]; exact hx_59) | rw [e0_9]
  have hx_91 : ∀ j, j < 25 → aI S_68 (ad 14) j = -1 := by
    have e0_9 : (aI S_68 (ad 14)) = (aI S_33 (ad 14)) := funext fun j9 => hf_70.ai (wm_14 (S := S_33) hW_57) (fun q9 => (wn (S := S_33) hW_57 (i := 14) (j := 13) (by decide) (by decide) (by decide)) q9) j9
    first | (rw [e0_9]; exact hx_60) | rw [e0_9]
  have hx_92 : aJ S_68 (ad 25) = aJ S_33 (ad 25) := by
    have e0_9 : (aJ S_68 (ad 25)) = (aJ S_33 (ad 25)) := funext fun j9 => hf_70.aj (wm_25 (S := S_33) hW_57) (fun q9 => (wn (S := S_33) hW_57 (i := 25) (j := 13) (by decide) (by decide) (by decide)) q9) j9
    first | (rw [e0_9]; exact hx_62) | rw [e0_9]
  exact j_vret C M dX9_box_123 (Nat.le_of_ble_eq_true rfl) (Nat.le_of_ble_eq_true rfl) ⟨rfl, hf_88, e_63, e_64, e_65, (by rw [x_66]; exact cvp_box hx_58 hw (by omega) hx_59 rfl)⟩

set_option maxRecDepth 100000 in
set_option maxHeartbeats 4000000 in
theorem c_box2 (S : Hp) (ad : Nat → Nat) (hW : Wd ad S) (xu : Nat) (yu : Nat) (bw : Nat) (bh : Nat) (cv : Nat) (mk : Nat) (gn : Nat) (pn : Nat) (po : Bool) (P : Nat → Nat → Bool) (hI_700_ad27 : hI S 700 (ad 27) = 0) (hI_701_ad27 : hI S 701 (ad 27) = 0) (hI_706_ad27 : hI S 706 (ad 27) = nI xu) (hI_707_ad27 : hI S 707 (ad 27) = nI yu) (hI_2_ad12 : hI S 2 (ad 12) = nI mk) (hI_3_ad12 : hI S 3 (ad 12) = nI mk) (hI_4_ad12 : hI S 4 (ad 12) = nI cv) (hI_916_ad6 : hI S 916 (ad 6) = nI gn) (hI_5_ad12 : hI S 5 (ad 12) = 0) (hI_603_ad5 : hI S 603 (ad 5) = 0) (hI_110_ad26 : hI S 110 (ad 26) = 0) (hI_111_ad26 : hI S 111 (ad 26) = cI po) (hI_112_ad26 : hI S 112 (ad 26) = 0) (hI_113_ad26 : hI S 113 (ad 26) = 0) (hI_114_ad26 : hI S 114 (ad 26) = nI bw) (hI_115_ad26 : hI S 115 (ad 26) = nI bh) (hI_118_ad26 : hI S 118 (ad 26) = nI pn) (hcv : CVP (aI S (ad 13)) P) (h1 : 1 ≤ pn) (h2 : pn ≤ 100) (hx : xu / 96 + bw ≤ 200) (hy : yu / 96 + bh ≤ 240) (hw : 0 < bw) (hh : 0 < bh) (hc : cv + bw * bh ≤ 5000000) (hm : mk < 2000) (hg : gn ≤ 60000) (hxu : xu < 100000) (hyu : yu < 100000) : Ct 5 yX9_box cX9_box 5 none 0 0 [.ref (ad 6), .int 2] S (fun r S' => r = none ∧ Fm (fun f9 b9 => (f9 = 1000 ∧ b9 = (ad 24)) ∨ (f9 = 1001 ∧ b9 = (ad 24)) ∨ (f9 = 1002 ∧ b9 = (ad 24)) ∨ (f9 = 2 ∧ b9 = (ad 12)) ∨ (f9 = 3 ∧ b9 = (ad 12)) ∨ (f9 = 4 ∧ b9 = (ad 12)) ∨ (f9 = 6 ∧ b9 = (ad 12)) ∨ (f9 = 7 ∧ b9 = (ad 12)) ∨ (f9 = 8 ∧ b9 = (ad 12)) ∨ (f9 = 9 ∧ b9 = (ad 12)) ∨ (f9 = 11 ∧ b9 = (ad 12)) ∨ (f9 = 12 ∧ b9 = (ad 12)) ∨ (f9 = 13 ∧ b9 = (ad 12)) ∨ (f9 = 14 ∧ b9 = (ad 12))) (fun f9 b9 => (f9 = 10 ∧ b9 = (ad 12))) (fun b9 => b9 = (ad 25) ∨ b9 = (ad 14) ∨ b9 = (ad 13)) S S' ∧ hI S' 2 (ad 12) = nI (mk + 1) ∧ hI S' 3 (ad 12) = nI (mk + 1) ∧ hI S' 4 (ad 12) = nI (cv + bw * bh) ∧ CVP (aI S' (ad 13)) (boxP 2 pn po (xu / 96) (yu / 96) bw bh P)) := by
  refine ct_of (by decide) (Nat.le_of_ble_eq_true rfl) fun x hn9 C M hm9 => ?_
  have C : CB x RX9 cX9_box := C
  refine J.eq (lv' := [(0, .ref (ad 6)), (1, .int 2)]) rfl rfl rfl ?_
  have hth : (0 : Nat) < 4 ∧ (4 : Nat) ≤ 16 := by decide
  have htw : (4 : Nat) = 1 ∨ (4 : Nat) = 4 := by decide
  refine j_iload_n C dX9_box_0 rfl 1 rfl ?_
  refine j_iconst (v := 5) C dX9_box_1 (by decide) ?_
  refine j_ic_eq (tgt := 17) C dX9_box_2 (by decide) (fun c9 => absurd c9 (by decide)) (fun c9 => ?_)
  refine j_aload_n C dX9_box_5 rfl 0 rfl ?_
  refine j_aload_n C dX9_box_6 rfl 0 rfl ?_
  refine j_getr (f := 905) (v := (ad 24)) C flX9_39 dX9_box_7 (wm_6 (S := S) hW) (wk_6 (S := S) hW) (by decide) rfl (wr_905_6 (S := S) hW) ?_
  refine j_iload_n C dX9_box_10 rfl 1 rfl ?_
  refine j_callV (ci := 9) C [.ref (ad 24), .int 2] [] mlX9_610 mcX9_setTile (c_st2 S ad hW pn hI_118_ad26 (by omega) (by omega)) (wm_6 (S := S) hW) (wk_6 (S := S) hW) rfl (M.rm (by decide) (by decide) (Nat.le_of_ble_eq_true rfl) (Nat.le_of_ble_eq_true rfl)) rfl rfl (Nat.le_of_ble_eq_true rfl) dX9_box_11 (fun r_5 S_6 hp_7 => ?_)
  obtain ⟨rfl, hf_8, e_1, e_2, e_3, x_4⟩ := hp_7
  refine J.eq (st' := [.int 1]) rfl rfl rfl ?_
  have hv_9 : hI S_6 110 (ad 26) = 0 := hf_8.fi (wm_26 (S := S) hW) (fun h9 => h9.elim (fun q9 => absurd q9.1 (by decide)) (fun h9 => h9.elim (fun q9 => absurd q9.1 (by decide)) (fun q9 => absurd q9.1 (by decide)))) hI_110_ad26
  have hv_10 : hI S_6 111 (ad 26) = cI po := hf_8.fi (wm_26 (S := S) hW) (fun h9 => h9.elim (fun q9 => absurd q9.1 (by decide)) (fun h9 => h9.elim (fun q9 => absurd q9.1 (by decide)) (fun q9 => absurd q9.1 (by decide)))) hI_111_ad26
  have hv_11 : hI S_6 112 (ad 26) = 0 := hf_8.fi (wm_26 (S := S) hW) (fun h9 => h9.elim (fun q9 => absurd q9.1 (by decide)) (fun h9 => h9.elim (fun q9 => absurd q9.1 (by decide)) (fun q9 => absurd q9.1 (by decide)))) hI_112_ad26
  have hv_12 : hI S_6 113 (ad 26) = 0 := hf_8.fi (wm_26 (S := S) hW) (fun h9 => h9.elim (fun q9 => absurd q9.1 (by decide)) (fun h9 => h9.elim (fun q9 => absurd q9.1 (by decide)) (fun q9 => absurd q9.1 (by decide)))) hI_113_ad26
  have hv_13 : hI S_6 114 (ad 26) = nI bw := hf_8.fi (wm_26 (S := S) hW) (fun h9 => h9.elim (fun q9 => absurd q9.1 (by decide)) (fun h9 => h9.elim (fun q9 => absurd q9.1 (by decide)) (fun q9 => absurd q9.1 (by decide)))) hI_114_ad26
  have hv_14 : hI S_6 115 (ad 26) = nI bh := hf_8.fi (wm_26 (S := S) hW) (fun h9 => h9.elim (fun q9 => absurd q9.1 (by decide)) (fun h9 => h9.elim (fun q9 => absurd q9.1 (by decide)) (fun q9 => absurd q9.1 (by decide)))) hI_115_ad26
  have hv_15 : hI S_6 118 (ad 26) = nI pn := hf_8.fi (wm_26 (S := S) hW) (fun h9 => h9.elim (fun q9 => absurd q9.1 (by decide)) (fun h9 => h9.elim (fun q9 => absurd q9.1 (by decide)) (fun q9 => absurd q9.1 (by decide)))) hI_118_ad26
  have hv_16 : hI S_6 2 (ad 12) = nI mk := hf_8.fi (wm_12 (S := S) hW) (fun h9 => h9.elim (fun q9 => absurd q9.1 (by decide)) (fun h9 => h9.elim (fun q9 => absurd q9.1 (by decide)) (fun q9 => absurd q9.1 (by decide)))) hI_2_ad12
  have hv_17 : hI S_6 3 (ad 12) = nI mk := hf_8.fi (wm_12 (S := S) hW) (fun h9 => h9.elim (fun q9 => absurd q9.1 (by decide)) (fun h9 => h9.elim (fun q9 => absurd q9.1 (by decide)) (fun q9 => absurd q9.1 (by decide)))) hI_3_ad12
  have hv_18 : hI S_6 4 (ad 12) = nI cv := hf_8.fi (wm_12 (S := S) hW) (fun h9 => h9.elim (fun q9 => absurd q9.1 (by decide)) (fun h9 => h9.elim (fun q9 => absurd q9.1 (by decide)) (fun q9 => absurd q9.1 (by decide)))) hI_4_ad12
  have hv_19 : hI S_6 5 (ad 12) = 0 := hf_8.fi (wm_12 (S := S) hW) (fun h9 => h9.elim (fun q9 => absurd q9.1 (by decide)) (fun h9 => h9.elim (fun q9 => absurd q9.1 (by decide)) (fun q9 => absurd q9.1 (by decide)))) hI_5_ad12
  have hv_20 : hI S_6 603 (ad 5) = 0 := hf_8.fi (wm_5 (S := S) hW) (fun h9 => h9.elim (fun q9 => absurd q9.1 (by decide)) (fun h9 => h9.elim (fun q9 => absurd q9.1 (by decide)) (fun q9 => absurd q9.1 (by decide)))) hI_603_ad5
  have hv_21 : hI S_6 700 (ad 27) = 0 := hf_8.fi (wm_27 (S := S) hW) (fun h9 => h9.elim (fun q9 => absurd q9.1 (by decide)) (fun h9 => h9.elim (fun q9 => absurd q9.1 (by decide)) (fun q9 => absurd q9.1 (by decide)))) hI_700_ad27
  have hv_22 : hI S_6 701 (ad 27) = 0 := hf_8.fi (wm_27 (S := S) hW) (fun h9 => h9.elim (fun q9 => absurd q9.1 (by decide)) (fun h9 => h9.elim (fun q9 => absurd q9.1 (by decide)) (fun q9 => absurd q9.1 (by decide)))) hI_701_ad27
  have hv_23 : hI S_6 706 (ad 27) = nI xu := hf_8.fi (wm_27 (S := S) hW) (fun h9 => h9.elim (fun q9 => absurd q9.1 (by decide)) (fun h9 => h9.elim (fun q9 => absurd q9.1 (by decide)) (fun q9 => absurd q9.1 (by decide)))) hI_706_ad27
  have hv_24 : hI S_6 707 (ad 27) = nI yu := hf_8.fi (wm_27 (S := S) hW) (fun h9 => h9.elim (fun q9 => absurd q9.1 (by decide)) (fun h9 => h9.elim (fun q9 => absurd q9.1 (by decide)) (fun q9 => absurd q9.1 (by decide)))) hI_707_ad27
  have hv_25 : hI S_6 916 (ad 6) = nI gn := hf_8.fi (wm_6 (S := S) hW) (fun h9 => h9.elim (fun q9 => absurd q9.1 (by decide)) (fun h9 => h9.elim (fun q9 => absurd q9.1 (by decide)) (fun q9 => absurd q9.1 (by decide)))) hI_916_ad6
  have hf_26 : Fm (fun f9 b9 => (f9 = 1000 ∧ b9 = (ad 24)) ∨ (f9 = 1001 ∧ b9 = (ad 24)) ∨ (f9 = 1002 ∧ b9 = (ad 24)) ∨ (f9 = 2 ∧ b9 = (ad 12)) ∨ (f9 = 3 ∧ b9 = (ad 12)) ∨ (f9 = 4 ∧ b9 = (ad 12)) ∨ (f9 = 6 ∧ b9 = (ad 12)) ∨ (f9 = 7 ∧ b9 = (ad 12)) ∨ (f9 = 8 ∧ b9 = (ad 12)) ∨ (f9 = 9 ∧ b9 = (ad 12)) ∨ (f9 = 11 ∧ b9 = (ad 12)) ∨ (f9 = 12 ∧ b9 = (ad 12)) ∨ (f9 = 13 ∧ b9 = (ad 12)) ∨ (f9 = 14 ∧ b9 = (ad 12))) (fun f9 b9 => (f9 = 10 ∧ b9 = (ad 12))) (fun b9 => b9 = (ad 25) ∨ b9 = (ad 14) ∨ b9 = (ad 13)) S S_6 := (Fm.refl (WI := (fun f9 b9 => (f9 = 1000 ∧ b9 = (ad 24)) ∨ (f9 = 1001 ∧ b9 = (ad 24)) ∨ (f9 = 1002 ∧ b9 = (ad 24)) ∨ (f9 = 2 ∧ b9 = (ad 12)) ∨ (f9 = 3 ∧ b9 = (ad 12)) ∨ (f9 = 4 ∧ b9 = (ad 12)) ∨ (f9 = 6 ∧ b9 = (ad 12)) ∨ (f9 = 7 ∧ b9 = (ad 12)) ∨ (f9 = 8 ∧ b9 = (ad 12)) ∨ (f9 = 9 ∧ b9 = (ad 12)) ∨ (f9 = 11 ∧ b9 = (ad 12)) ∨ (f9 = 12 ∧ b9 = (ad 12)) ∨ (f9 = 13 ∧ b9 = (ad 12)) ∨ (f9 = 14 ∧ b9 = (ad 12)))) (WR := (fun f9 b9 => (f9 = 10 ∧ b9 = (ad 12)))) (WA := (fun b9 => b9 = (ad 25) ∨ b9 = (ad 14) ∨ b9 = (ad 13)))).then hf_8 (fun a9 ha9 => ⟨(fun f9 h9 => (fun h9 => h9.elim (fun h8 => (Or.inl h8)) (fun h9 => h9.elim (fun h8 => (Or.inr (Or.inl h8))) (fun h8 => (Or.inr (Or.inr (Or.inl h8)))))) h9), (fun f9 h9 => h9.elim), (fun h9 => (fun h8 => (Or.inl h8)) h9)⟩)
  have hW_27 : Wd ad S_6 := hW.fm hf_8 (by intro _ _ h9; exact h9) (by intro p9 hp9; simp only [wqL, List.mem_cons, List.not_mem_nil, or_false] at hp9; rcases hp9 with rfl | rfl <;> intro h9 <;> skip <;> exact absurd h9 (wn hW (by decide) (by decide) (by decide)))
  have hx_28 : CVP (aI S_6 (ad 13)) P := by
    have e0_9 : (aI S_6 (ad 13)) = (aI S (ad 13)) := funext fun j9 => hf_8.ai (wm_13 (S := S) hW) (fun q9 => (wn (S := S) hW (i := 13) (j := 25) (by decide) (by decide) (by decide)) q9) j9
    first | (rw [e0_9]; exact hcv) | rw [e0_9]
  show J _ _ _ _ _ 14 _
  refine j_if_eq (tgt := 21) C dX9_box_14 (by decide) (fun c9 => absurd c9 (by decide)) (fun c9 => ?_)
  refine j_iconst (v := 1) C dX9_box_17 (by decide) ?_
  refine j_goto (tgt := 22) C dX9_box_18 (by decide) ?_
  refine j_istore_n (lv' := [(2, .int 1), (0, .ref (ad 6)), (1, .int 2)]) C dX9_box_22 rfl (by rw [hn9]; decide) rfl ?_
  refine j_iload_n C dX9_box_23 rfl 0 rfl ?_
  refine j_if_eq (tgt := 123) C dX9_box_24 (by decide) (fun c9 => absurd c9 (by decide)) (fun c9 => ?_)
  refine j_aload_n C dX9_box_27 rfl 1 rfl ?_
  refine j_getr (f := 909) (v := (ad 26)) C flX9_57 dX9_box_28 (wm_6 (S := S_6) hW_27) (wk_6 (S := S_6) hW_27) (by decide) rfl (wr_909_6 (S := S_6) hW_27) ?_
  show J _ _ _ _ _ 31 _
  refine j_geti (f := 114) (v := nI bw) C flX9_596 dX9_box_31 (wm_26 (S := S_6) hW_27) (wk_26 (S := S_6) hW_27) (by decide) (by decide) rfl hv_13 ?_
  refine j_if_le (tgt := 123) C dX9_box_34 (by decide) (fun c_34 => absurd c_34 (nI_nle hw (by omega))) (fun c_34 => ?_)
  refine j_aload_n C dX9_box_37 rfl 1 rfl ?_
  refine j_getr (f := 909) (v := (ad 26)) C flX9_57 dX9_box_38 (wm_6 (S := S_6) hW_27) (wk_6 (S := S_6) hW_27) (by decide) rfl (wr_909_6 (S := S_6) hW_27) ?_
  refine j_geti (f := 115) (v := nI bh) C flX9_599 dX9_box_41 (wm_26 (S := S_6) hW_27) (wk_26 (S := S_6) hW_27) (by decide) (by decide) rfl hv_14 ?_
  refine j_if_le (tgt := 123) C dX9_box_44 (by decide) (fun c_44 => absurd c_44 (nI_nle hh (by omega))) (fun c_44 => ?_)
  refine j_aload_n C dX9_box_47 rfl 1 rfl ?_
  refine j_getr (f := 901) (v := (ad 12)) C flX9_12 dX9_box_48 (wm_6 (S := S_6) hW_27) (wk_6 (S := S_6) hW_27) (by decide) rfl (wr_901_6 (S := S_6) hW_27) ?_
  show J _ _ _ _ _ 51 _
  refine j_callV (ci := 0) C [] [] mlX9_614 mcX0_layBlack (c_X0_layBlack S_6 ad hW_27) (wm_12 (S := S_6) hW_27) (wk_12 (S := S_6) hW_27) rfl (M.rm (by decide) (by decide) (Nat.le_of_ble_eq_true rfl) (Nat.le_of_ble_eq_true rfl)) rfl rfl (Nat.le_of_ble_eq_true rfl) dX9_box_51 (fun r_29 S_30 hp_31 => ?_)
  obtain ⟨rfl, e_32⟩ := hp_31
  refine J.eq (S' := (rI S_6 (ad 14) (fillN (aI S_6 (ad 14)) 25 (-1)))) (st' := []) (lv' := [(2, .int 1), (0, .ref (ad 6)), (1, .int 2)]) e_32 rfl rfl ?_
  have hf_35 : Fm (fun f9 b9 => (f9 = 1000 ∧ b9 = (ad 24)) ∨ (f9 = 1001 ∧ b9 = (ad 24)) ∨ (f9 = 1002 ∧ b9 = (ad 24)) ∨ (f9 = 2 ∧ b9 = (ad 12)) ∨ (f9 = 3 ∧ b9 = (ad 12)) ∨ (f9 = 4 ∧ b9 = (ad 12)) ∨ (f9 = 6 ∧ b9 = (ad 12)) ∨ (f9 = 7 ∧ b9 = (ad 12)) ∨ (f9 = 8 ∧ b9 = (ad 12)) ∨ (f9 = 9 ∧ b9 = (ad 12)) ∨ (f9 = 11 ∧ b9 = (ad 12)) ∨ (f9 = 12 ∧ b9 = (ad 12)) ∨ (f9 = 13 ∧ b9 = (ad 12)) ∨ (f9 = 14 ∧ b9 = (ad 12))) (fun f9 b9 => (f9 = 10 ∧ b9 = (ad 12))) (fun b9 => b9 = (ad 25) ∨ b9 = (ad 14) ∨ b9 = (ad 13)) S (rI S_6 (ad 14) (fillN (aI S_6 (ad 14)) 25 (-1))) := (hf_26.rI _ (fun _ => (Or.inr (Or.inl rfl))))
  obtain ⟨S_33, eS_34⟩ : ∃ S9 : Hp, S9 = (rI S_6 (ad 14) (fillN (aI S_6 (ad 14)) 25 (-1))) := ⟨_, rfl⟩
  refine J.eq (S' := S_33) eS_34.symm rfl rfl ?_
  have hv_36 : hI S_33 1000 (ad 24) = 4 := by rw [eS_34]; exact e_1
  have hv_37 : hI S_33 1001 (ad 24) = 4 := by rw [eS_34]; exact e_2
  have hv_38 : hI S_33 1002 (ad 24) = 0 := by rw [eS_34]; exact e_3
  have hv_39 : hI S_33 110 (ad 26) = 0 := by rw [eS_34]; exact hv_9
  have hv_40 : hI S_33 111 (ad 26) = cI po := by rw [eS_34]; exact hv_10
  have hv_41 : hI S_33 112 (ad 26) = 0 := by rw [eS_34]; exact hv_11
  have hv_42 : hI S_33 113 (ad 26) = 0 := by rw [eS_34]; exact hv_12
  have hv_43 : hI S_33 114 (ad 26) = nI bw := by rw [eS_34]; exact hv_13
  have hv_44 : hI S_33 115 (ad 26) = nI bh := by rw [eS_34]; exact hv_14
  have hv_45 : hI S_33 118 (ad 26) = nI pn := by rw [eS_34]; exact hv_15
  have hv_46 : hI S_33 2 (ad 12) = nI mk := by rw [eS_34]; exact hv_16
  have hv_47 : hI S_33 3 (ad 12) = nI mk := by rw [eS_34]; exact hv_17
  have hv_48 : hI S_33 4 (ad 12) = nI cv := by rw [eS_34]; exact hv_18
  have hv_49 : hI S_33 5 (ad 12) = 0 := by rw [eS_34]; exact hv_19
  have hv_50 : hI S_33 603 (ad 5) = 0 := by rw [eS_34]; exact hv_20
  have hv_51 : hI S_33 700 (ad 27) = 0 := by rw [eS_34]; exact hv_21
  have hv_52 : hI S_33 701 (ad 27) = 0 := by rw [eS_34]; exact hv_22
  have hv_53 : hI S_33 706 (ad 27) = nI xu := by rw [eS_34]; exact hv_23
  have hv_54 : hI S_33 707 (ad 27) = nI yu := by rw [eS_34]; exact hv_24
  have hv_55 : hI S_33 916 (ad 6) = nI gn := by rw [eS_34]; exact hv_25
  have hf_56 : Fm (fun f9 b9 => (f9 = 1000 ∧ b9 = (ad 24)) ∨ (f9 = 1001 ∧ b9 = (ad 24)) ∨ (f9 = 1002 ∧ b9 = (ad 24)) ∨ (f9 = 2 ∧ b9 = (ad 12)) ∨ (f9 = 3 ∧ b9 = (ad 12)) ∨ (f9 = 4 ∧ b9 = (ad 12)) ∨ (f9 = 6 ∧ b9 = (ad 12)) ∨ (f9 = 7 ∧ b9 = (ad 12)) ∨ (f9 = 8 ∧ b9 = (ad 12)) ∨ (f9 = 9 ∧ b9 = (ad 12)) ∨ (f9 = 11 ∧ b9 = (ad 12)) ∨ (f9 = 12 ∧ b9 = (ad 12)) ∨ (f9 = 13 ∧ b9 = (ad 12)) ∨ (f9 = 14 ∧ b9 = (ad 12))) (fun f9 b9 => (f9 = 10 ∧ b9 = (ad 12))) (fun b9 => b9 = (ad 25) ∨ b9 = (ad 14) ∨ b9 = (ad 13)) S S_33 := by rw [eS_34]; exact hf_35
  have hW_57 : Wd ad S_33 := by rw [eS_34]; exact (Wd.rI hW_27)
  have hx_58 : CVP (aI S_33 (ad 13)) P := by rw [eS_34]; exact (by rw [show aI (rI S_6 (ad 14) (fillN (aI S_6 (ad 14)) 25 (-1))) (ad 13) = aI S_6 (ad 13) from (ar_rI (S := S_6) (wn (S := S_6) hW_27 (i := 13) (j := 14) (by decide) (by decide) (by decide)))]; exact hx_28)
  have hx_59 : TIL (aJ S_33 (ad 25)) 4 2 pn := by rw [eS_34]; exact (by rw [show aJ (rI S_6 (ad 14) (fillN (aI S_6 (ad 14)) 25 (-1))) (ad 25) = aJ S_6 (ad 25) from (arJ_rI (S := S_6))]; exact x_4)
  have hx_60 : ∀ j, j < 25 → aI S_33 (ad 14) j = -1 := by rw [eS_34]; exact fun j9 hj9 => rd_fill hj9
  have hx_61 : aI S_33 (ad 13) = aI S_33 (ad 13) := rfl
  have hx_62 : aJ S_33 (ad 25) = aJ S_33 (ad 25) := rfl
  refine j_aload_n C dX9_box_54 rfl 1 rfl ?_
  refine j_getr (f := 909) (v := (ad 26)) C flX9_57 dX9_box_55 (wm_6 (S := S_33) hW_57) (wk_6 (S := S_33) hW_57) (by decide) rfl (wr_909_6 (S := S_33) hW_57) ?_
  refine j_getr (f := 100) (v := (ad 27)) C flX9_129 dX9_box_58 (wm_26 (S := S_33) hW_57) (wk_26 (S := S_33) hW_57) (by decide) rfl (wr_100_26 (S := S_33) hW_57) ?_
  refine j_geti (f := 706) (v := nI xu) C flX9_133 dX9_box_61 (wm_27 (S := S_33) hW_57) (wk_27 (S := S_33) hW_57) (by decide) (by decide) rfl hv_53 ?_
  refine j_bipush (v := 96) C dX9_box_64 (by decide) ?_
  refine j_idiv (v := nI (xu / 96)) C dX9_box_66 (by decide) (pk_div (d := 96) (by omega) (by decide) (by decide)) ?_
  refine j_istore_n (lv' := [(3, .int (nI (xu / 96))), (2, .int 1), (0, .ref (ad 6)), (1, .int 2)]) C dX9_box_67 rfl (by rw [hn9]; decide) rfl ?_
  show J _ _ _ _ _ 68 _
  refine j_aload_n C dX9_box_68 rfl 2 rfl ?_
  refine j_getr (f := 909) (v := (ad 26)) C flX9_57 dX9_box_69 (wm_6 (S := S_33) hW_57) (wk_6 (S := S_33) hW_57) (by decide) rfl (wr_909_6 (S := S_33) hW_57) ?_
  refine j_getr (f := 100) (v := (ad 27)) C flX9_129 dX9_box_72 (wm_26 (S := S_33) hW_57) (wk_26 (S := S_33) hW_57) (by decide) rfl (wr_100_26 (S := S_33) hW_57) ?_
  refine j_geti (f := 707) (v := nI yu) C flX9_138 dX9_box_75 (wm_27 (S := S_33) hW_57) (wk_27 (S := S_33) hW_57) (by decide) (by decide) rfl hv_54 ?_
  refine j_bipush (v := 96) C dX9_box_78 (by decide) ?_
  refine j_idiv (v := nI (yu / 96)) C dX9_box_80 (by decide) (pk_div (d := 96) (by omega) (by decide) (by decide)) ?_
  refine j_istore (lv' := [(4, .int (nI (yu / 96))), (3, .int (nI (xu / 96))), (2, .int 1), (0, .ref (ad 6)), (1, .int 2)]) C dX9_box_81 (by rw [hn9]; decide) rfl ?_
  refine j_aload_n C dX9_box_83 rfl 3 rfl ?_
  show J _ _ _ _ _ 84 _
  refine j_iload_n C dX9_box_84 rfl 1 rfl ?_
  refine j_iload C dX9_box_85 0 rfl ?_
  refine j_aload_n C dX9_box_87 rfl 3 rfl ?_
  refine j_getr (f := 909) (v := (ad 26)) C flX9_57 dX9_box_88 (wm_6 (S := S_33) hW_57) (wk_6 (S := S_33) hW_57) (by decide) rfl (wr_909_6 (S := S_33) hW_57) ?_
  refine j_geti (f := 114) (v := nI bw) C flX9_596 dX9_box_91 (wm_26 (S := S_33) hW_57) (wk_26 (S := S_33) hW_57) (by decide) (by decide) rfl hv_43 ?_
  refine j_aload_n C dX9_box_94 rfl 3 rfl ?_
  refine j_getr (f := 909) (v := (ad 26)) C flX9_57 dX9_box_95 (wm_6 (S := S_33) hW_57) (wk_6 (S := S_33) hW_57) (by decide) rfl (wr_909_6 (S := S_33) hW_57) ?_
  refine j_geti (f := 115) (v := nI bh) C flX9_599 dX9_box_98 (wm_26 (S := S_33) hW_57) (wk_26 (S := S_33) hW_57) (by decide) (by decide) rfl hv_44 ?_
  show J _ _ _ _ _ 101 _
  refine j_iload_n C dX9_box_101 rfl 4 rfl ?_
  refine j_iconst (v := 5) C dX9_box_102 (by decide) ?_
  refine j_ic_ne (tgt := 116) C dX9_box_103 (by decide) (fun c9 => ?_) (fun c9 => absurd c9 (by decide))
  refine j_aload_n C dX9_box_116 rfl 3 rfl ?_
  refine j_getr (f := 905) (v := (ad 24)) C flX9_39 dX9_box_117 (wm_6 (S := S_33) hW_57) (wk_6 (S := S_33) hW_57) (by decide) rfl (wr_905_6 (S := S_33) hW_57) ?_
  refine j_callV (ci := 9) C [.int (nI (xu / 96)), .int (nI (yu / 96)), .int (nI bw), .int (nI bh), .ref (ad 24)] [] mlX9_617 mcX9_markBox (c_X9_markBox S_33 ad hW_57 (xu / 96) (yu / 96) bw bh cv mk 4 4 gn po false hv_51 hv_52 hv_46 hv_47 hv_48 hv_55 hv_49 hv_50 hv_39 hv_40 hv_41 hv_42 hv_36 hv_37 hv_38 hx hy hw hh hc hm hg hth htw hx_60 (aI S_33 (ad 13)) (aJ S_33 (ad 25)) hx_61 hx_62) (wm_6 (S := S_33) hW_57) (wk_6 (S := S_33) hW_57) rfl (M.rm (by decide) (by decide) (Nat.le_of_ble_eq_true rfl) (Nat.le_of_ble_eq_true rfl)) rfl rfl (Nat.le_of_ble_eq_true rfl) dX9_box_120 (fun r_67 S_68 hp_69 => ?_)
  obtain ⟨rfl, hf_70, e_63, e_64, e_65, x_66⟩ := hp_69
  refine J.eq (st' := []) rfl rfl rfl ?_
  have hv_71 : hI S_68 1000 (ad 24) = 4 := hf_70.fi (wm_24 (S := S_33) hW_57) (fun h9 => h9.elim (fun q9 => absurd q9.1 (by decide)) (fun h9 => h9.elim (fun q9 => absurd q9.1 (by decide)) (fun h9 => h9.elim (fun q9 => absurd q9.1 (by decide)) (fun h9 => h9.elim (fun q9 => absurd q9.1 (by decide)) (fun h9 => h9.elim (fun q9 => absurd q9.1 (by decide)) (fun h9 => h9.elim (fun q9 => absurd q9.1 (by decide)) (fun h9 => h9.elim (fun q9 => absurd q9.1 (by decide)) (fun h9 => h9.elim (fun q9 => absurd q9.1 (by decide)) (fun h9 => h9.elim (fun q9 => absurd q9.1 (by decide)) (fun h9 => h9.elim (fun q9 => absurd q9.1 (by decide)) (fun q9 => absurd q9.1 (by decide)))))))))))) hv_36
  have hv_72 : hI S_68 1001 (ad 24) = 4 := hf_70.fi (wm_24 (S := S_33) hW_57) (fun h9 => h9.elim (fun q9 => absurd q9.1 (by decide)) (fun h9 => h9.elim (fun q9 => absurd q9.1 (by decide)) (fun h9 => h9.elim (fun q9 => absurd q9.1 (by decide)) (fun h9 => h9.elim (fun q9 => absurd q9.1 (by decide)) (fun h9 => h9.elim (fun q9 => absurd q9.1 (by decide)) (fun h9 => h9.elim (fun q9 => absurd q9.1 (by decide)) (fun h9 => h9.elim (fun q9 => absurd q9.1 (by decide)) (fun h9 => h9.elim (fun q9 => absurd q9.1 (by decide)) (fun h9 => h9.elim (fun q9 => absurd q9.1 (by decide)) (fun h9 => h9.elim (fun q9 => absurd q9.1 (by decide)) (fun q9 => absurd q9.1 (by decide)))))))))))) hv_37
  have hv_73 : hI S_68 1002 (ad 24) = 0 := hf_70.fi (wm_24 (S := S_33) hW_57) (fun h9 => h9.elim (fun q9 => absurd q9.1 (by decide)) (fun h9 => h9.elim (fun q9 => absurd q9.1 (by decide)) (fun h9 => h9.elim (fun q9 => absurd q9.1 (by decide)) (fun h9 => h9.elim (fun q9 => absurd q9.1 (by decide)) (fun h9 => h9.elim (fun q9 => absurd q9.1 (by decide)) (fun h9 => h9.elim (fun q9 => absurd q9.1 (by decide)) (fun h9 => h9.elim (fun q9 => absurd q9.1 (by decide)) (fun h9 => h9.elim (fun q9 => absurd q9.1 (by decide)) (fun h9 => h9.elim (fun q9 => absurd q9.1 (by decide)) (fun h9 => h9.elim (fun q9 => absurd q9.1 (by decide)) (fun q9 => absurd q9.1 (by decide)))))))))))) hv_38
  have hv_74 : hI S_68 110 (ad 26) = 0 := hf_70.fi (wm_26 (S := S_33) hW_57) (fun h9 => h9.elim (fun q9 => absurd q9.1 (by decide)) (fun h9 => h9.elim (fun q9 => absurd q9.1 (by decide)) (fun h9 => h9.elim (fun q9 => absurd q9.1 (by decide)) (fun h9 => h9.elim (fun q9 => absurd q9.1 (by decide)) (fun h9 => h9.elim (fun q9 => absurd q9.1 (by decide)) (fun h9 => h9.elim (fun q9 => absurd q9.1 (by decide)) (fun h9 => h9.elim (fun q9 => absurd q9.1 (by decide)) (fun h9 => h9.elim (fun q9 => absurd q9.1 (by decide)) (fun h9 => h9.elim (fun q9 => absurd q9.1 (by decide)) (fun h9 => h9.elim (fun q9 => absurd q9.1 (by decide)) (fun q9 => absurd q9.1 (by decide)))))))))))) hv_39
  have hv_75 : hI S_68 111 (ad 26) = cI po := hf_70.fi (wm_26 (S := S_33) hW_57) (fun h9 => h9.elim (fun q9 => absurd q9.1 (by decide)) (fun h9 => h9.elim (fun q9 => absurd q9.1 (by decide)) (fun h9 => h9.elim (fun q9 => absurd q9.1 (by decide)) (fun h9 => h9.elim (fun q9 => absurd q9.1 (by decide)) (fun h9 => h9.elim (fun q9 => absurd q9.1 (by decide)) (fun h9 => h9.elim (fun q9 => absurd q9.1 (by decide)) (fun h9 => h9.elim (fun q9 => absurd q9.1 (by decide)) (fun h9 => h9.elim (fun q9 => absurd q9.1 (by decide)) (fun h9 => h9.elim (fun q9 => absurd q9.1 (by decide)) (fun h9 => h9.elim (fun q9 => absurd q9.1 (by decide)) (fun q9 => absurd q9.1 (by decide)))))))))))) hv_40
  have hv_76 : hI S_68 112 (ad 26) = 0 := hf_70.fi (wm_26 (S := S_33) hW_57) (fun h9 => h9.elim (fun q9 => absurd q9.1 (by decide)) (fun h9 => h9.elim (fun q9 => absurd q9.1 (by decide)) (fun h9 => h9.elim (fun q9 => absurd q9.1 (by decide)) (fun h9 => h9.elim (fun q9 => absurd q9.1 (by decide)) (fun h9 => h9.elim (fun q9 => absurd q9.1 (by decide)) (fun h9 => h9.elim (fun q9 => absurd q9.1 (by decide)) (fun h9 => h9.elim (fun q9 => absurd q9.1 (by decide)) (fun h9 => h9.elim (fun q9 => absurd q9.1 (by decide)) (fun h9 => h9.elim (fun q9 => absurd q9.1 (by decide)) (fun h9 => h9.elim (fun q9 => absurd q9.1 (by decide)) (fun q9 => absurd q9.1 (by decide)))))))))))) hv_41
  have hv_77 : hI S_68 113 (ad 26) = 0 := hf_70.fi (wm_26 (S := S_33) hW_57) (fun h9 => h9.elim (fun q9 => absurd q9.1 (by decide)) (fun h9 => h9.elim (fun q9 => absurd q9.1 (by decide)) (fun h9 => h9.elim (fun q9 => absurd q9.1 (by decide)) (fun h9 => h9.elim (fun q9 => absurd q9.1 (by decide)) (fun h9 => h9.elim (fun q9 => absurd q9.1 (by decide)) (fun h9 => h9.elim (fun q9 => absurd q9.1 (by decide)) (fun h9 => h9.elim (fun q9 => absurd q9.1 (by decide)) (fun h9 => h9.elim (fun q9 => absurd q9.1 (by decide)) (fun h9 => h9.elim (fun q9 => absurd q9.1 (by decide)) (fun h9 => h9.elim (fun q9 => absurd q9.1 (by decide)) (fun q9 => absurd q9.1 (by decide)))))))))))) hv_42
  have hv_78 : hI S_68 114 (ad 26) = nI bw := hf_70.fi (wm_26 (S := S_33) hW_57) (fun h9 => h9.elim (fun q9 => absurd q9.1 (by decide)) (fun h9 => h9.elim (fun q9 => absurd q9.1 (by decide)) (fun h9 => h9.elim (fun q9 => absurd q9.1 (by decide)) (fun h9 => h9.elim (fun q9 => absurd q9.1 (by decide)) (fun h9 => h9.elim (fun q9 => absurd q9.1 (by decide)) (fun h9 => h9.elim (fun q9 => absurd q9.1 (by decide)) (fun h9 => h9.elim (fun q9 => absurd q9.1 (by decide)) (fun h9 => h9.elim (fun q9 => absurd q9.1 (by decide)) (fun h9 => h9.elim (fun q9 => absurd q9.1 (by decide)) (fun h9 => h9.elim (fun q9 => absurd q9.1 (by decide)) (fun q9 => absurd q9.1 (by decide)))))))))))) hv_43
  have hv_79 : hI S_68 115 (ad 26) = nI bh := hf_70.fi (wm_26 (S := S_33) hW_57) (fun h9 => h9.elim (fun q9 => absurd q9.1 (by decide)) (fun h9 => h9.elim (fun q9 => absurd q9.1 (by decide)) (fun h9 => h9.elim (fun q9 => absurd q9.1 (by decide)) (fun h9 => h9.elim (fun q9 => absurd q9.1 (by decide)) (fun h9 => h9.elim (fun q9 => absurd q9.1 (by decide)) (fun h9 => h9.elim (fun q9 => absurd q9.1 (by decide)) (fun h9 => h9.elim (fun q9 => absurd q9.1 (by decide)) (fun h9 => h9.elim (fun q9 => absurd q9.1 (by decide)) (fun h9 => h9.elim (fun q9 => absurd q9.1 (by decide)) (fun h9 => h9.elim (fun q9 => absurd q9.1 (by decide)) (fun q9 => absurd q9.1 (by decide)))))))))))) hv_44
  have hv_80 : hI S_68 118 (ad 26) = nI pn := hf_70.fi (wm_26 (S := S_33) hW_57) (fun h9 => h9.elim (fun q9 => absurd q9.1 (by decide)) (fun h9 => h9.elim (fun q9 => absurd q9.1 (by decide)) (fun h9 => h9.elim (fun q9 => absurd q9.1 (by decide)) (fun h9 => h9.elim (fun q9 => absurd q9.1 (by decide)) (fun h9 => h9.elim (fun q9 => absurd q9.1 (by decide)) (fun h9 => h9.elim (fun q9 => absurd q9.1 (by decide)) (fun h9 => h9.elim (fun q9 => absurd q9.1 (by decide)) (fun h9 => h9.elim (fun q9 => absurd q9.1 (by decide)) (fun h9 => h9.elim (fun q9 => absurd q9.1 (by decide)) (fun h9 => h9.elim (fun q9 => absurd q9.1 (by decide)) (fun q9 => absurd q9.1 (by decide)))))))))))) hv_45
  have hv_81 : hI S_68 5 (ad 12) = 0 := hf_70.fi (wm_12 (S := S_33) hW_57) (fun h9 => h9.elim (fun q9 => absurd q9.1 (by decide)) (fun h9 => h9.elim (fun q9 => absurd q9.1 (by decide)) (fun h9 => h9.elim (fun q9 => absurd q9.1 (by decide)) (fun h9 => h9.elim (fun q9 => absurd q9.1 (by decide)) (fun h9 => h9.elim (fun q9 => absurd q9.1 (by decide)) (fun h9 => h9.elim (fun q9 => absurd q9.1 (by decide)) (fun h9 => h9.elim (fun q9 => absurd q9.1 (by decide)) (fun h9 => h9.elim (fun q9 => absurd q9.1 (by decide)) (fun h9 => h9.elim (fun q9 => absurd q9.1 (by decide)) (fun h9 => h9.elim (fun q9 => absurd q9.1 (by decide)) (fun q9 => absurd q9.1 (by decide)))))))))))) hv_49
  have hv_82 : hI S_68 603 (ad 5) = 0 := hf_70.fi (wm_5 (S := S_33) hW_57) (fun h9 => h9.elim (fun q9 => absurd q9.1 (by decide)) (fun h9 => h9.elim (fun q9 => absurd q9.1 (by decide)) (fun h9 => h9.elim (fun q9 => absurd q9.1 (by decide)) (fun h9 => h9.elim (fun q9 => absurd q9.1 (by decide)) (fun h9 => h9.elim (fun q9 => absurd q9.1 (by decide)) (fun h9 => h9.elim (fun q9 => absurd q9.1 (by decide)) (fun h9 => h9.elim (fun q9 => absurd q9.1 (by decide)) (fun h9 => h9.elim (fun q9 => absurd q9.1 (by decide)) (fun h9 => h9.elim (fun q9 => absurd q9.1 (by decide)) (fun h9 => h9.elim (fun q9 => absurd q9.1 (by decide)) (fun q9 => absurd q9.1 (by decide)))))))))))) hv_50
  have hv_83 : hI S_68 700 (ad 27) = 0 := hf_70.fi (wm_27 (S := S_33) hW_57) (fun h9 => h9.elim (fun q9 => absurd q9.1 (by decide)) (fun h9 => h9.elim (fun q9 => absurd q9.1 (by decide)) (fun h9 => h9.elim (fun q9 => absurd q9.1 (by decide)) (fun h9 => h9.elim (fun q9 => absurd q9.1 (by decide)) (fun h9 => h9.elim (fun q9 => absurd q9.1 (by decide)) (fun h9 => h9.elim (fun q9 => absurd q9.1 (by decide)) (fun h9 => h9.elim (fun q9 => absurd q9.1 (by decide)) (fun h9 => h9.elim (fun q9 => absurd q9.1 (by decide)) (fun h9 => h9.elim (fun q9 => absurd q9.1 (by decide)) (fun h9 => h9.elim (fun q9 => absurd q9.1 (by decide)) (fun q9 => absurd q9.1 (by decide)))))))))))) hv_51
  have hv_84 : hI S_68 701 (ad 27) = 0 := hf_70.fi (wm_27 (S := S_33) hW_57) (fun h9 => h9.elim (fun q9 => absurd q9.1 (by decide)) (fun h9 => h9.elim (fun q9 => absurd q9.1 (by decide)) (fun h9 => h9.elim (fun q9 => absurd q9.1 (by decide)) (fun h9 => h9.elim (fun q9 => absurd q9.1 (by decide)) (fun h9 => h9.elim (fun q9 => absurd q9.1 (by decide)) (fun h9 => h9.elim (fun q9 => absurd q9.1 (by decide)) (fun h9 => h9.elim (fun q9 => absurd q9.1 (by decide)) (fun h9 => h9.elim (fun q9 => absurd q9.1 (by decide)) (fun h9 => h9.elim (fun q9 => absurd q9.1 (by decide)) (fun h9 => h9.elim (fun q9 => absurd q9.1 (by decide)) (fun q9 => absurd q9.1 (by decide)))))))))))) hv_52
  have hv_85 : hI S_68 706 (ad 27) = nI xu := hf_70.fi (wm_27 (S := S_33) hW_57) (fun h9 => h9.elim (fun q9 => absurd q9.1 (by decide)) (fun h9 => h9.elim (fun q9 => absurd q9.1 (by decide)) (fun h9 => h9.elim (fun q9 => absurd q9.1 (by decide)) (fun h9 => h9.elim (fun q9 => absurd q9.1 (by decide)) (fun h9 => h9.elim (fun q9 => absurd q9.1 (by decide)) (fun h9 => h9.elim (fun q9 => absurd q9.1 (by decide)) (fun h9 => h9.elim (fun q9 => absurd q9.1 (by decide)) (fun h9 => h9.elim (fun q9 => absurd q9.1 (by decide)) (fun h9 => h9.elim (fun q9 => absurd q9.1 (by decide)) (fun h9 => h9.elim (fun q9 => absurd q9.1 (by decide)) (fun q9 => absurd q9.1 (by decide)))))))))))) hv_53
  have hv_86 : hI S_68 707 (ad 27) = nI yu := hf_70.fi (wm_27 (S := S_33) hW_57) (fun h9 => h9.elim (fun q9 => absurd q9.1 (by decide)) (fun h9 => h9.elim (fun q9 => absurd q9.1 (by decide)) (fun h9 => h9.elim (fun q9 => absurd q9.1 (by decide)) (fun h9 => h9.elim (fun q9 => absurd q9.1 (by decide)) (fun h9 => h9.elim (fun q9 => absurd q9.1 (by decide)) (fun h9 => h9.elim (fun q9 => absurd q9.1 (by decide)) (fun h9 => h9.elim (fun q9 => absurd q9.1 (by decide)) (fun h9 => h9.elim (fun q9 => absurd q9.1 (by decide)) (fun h9 => h9.elim (fun q9 => absurd q9.1 (by decide)) (fun h9 => h9.elim (fun q9 => absurd q9.1 (by decide)) (fun q9 => absurd q9.1 (by decide)))))))))))) hv_54
  have hv_87 : hI S_68 916 (ad 6) = nI gn := hf_70.fi (wm_6 (S := S_33) hW_57) (fun h9 => h9.elim (fun q9 => absurd q9.1 (by decide)) (fun h9 => h9.elim (fun q9 => absurd q9.1 (by decide)) (fun h9 => h9.elim (fun q9 => absurd q9.1 (by decide)) (fun h9 => h9.elim (fun q9 => absurd q9.1 (by decide)) (fun h9 => h9.elim (fun q9 => absurd q9.1 (by decide)) (fun h9 => h9.elim (fun q9 => absurd q9.1 (by decide)) (fun h9 => h9.elim (fun q9 => absurd q9.1 (by decide)) (fun h9 => h9.elim (fun q9 => absurd q9.1 (by decide)) (fun h9 => h9.elim (fun q9 => absurd q9.1 (by decide)) (fun h9 => h9.elim (fun q9 => absurd q9.1 (by decide)) (fun q9 => absurd q9.1 (by decide)))))))))))) hv_55
  have hf_88 : Fm (fun f9 b9 => (f9 = 1000 ∧ b9 = (ad 24)) ∨ (f9 = 1001 ∧ b9 = (ad 24)) ∨ (f9 = 1002 ∧ b9 = (ad 24)) ∨ (f9 = 2 ∧ b9 = (ad 12)) ∨ (f9 = 3 ∧ b9 = (ad 12)) ∨ (f9 = 4 ∧ b9 = (ad 12)) ∨ (f9 = 6 ∧ b9 = (ad 12)) ∨ (f9 = 7 ∧ b9 = (ad 12)) ∨ (f9 = 8 ∧ b9 = (ad 12)) ∨ (f9 = 9 ∧ b9 = (ad 12)) ∨ (f9 = 11 ∧ b9 = (ad 12)) ∨ (f9 = 12 ∧ b9 = (ad 12)) ∨ (f9 = 13 ∧ b9 = (ad 12)) ∨ (f9 = 14 ∧ b9 = (ad 12))) (fun f9 b9 => (f9 = 10 ∧ b9 = (ad 12))) (fun b9 => b9 = (ad 25) ∨ b9 = (ad 14) ∨ b9 = (ad 13)) S S_68 := hf_56.then hf_70 (fun a9 ha9 => ⟨(fun f9 h9 => (fun h9 => h9.elim (fun h8 => (Or.inr (Or.inr (Or.inr (Or.inl h8))))) (fun h9 => h9.elim (fun h8 => (Or.inr (Or.inr (Or.inr (Or.inr (Or.inl h8)))))) (fun h9 => h9.elim (fun h8 => (Or.inr (Or.inr (Or.inr (Or.inr (Or.inr (Or.inl h8))))))) (fun h9 => h9.elim (fun h8 => (Or.inr (Or.inr (Or.inr (Or.inr (Or.inr (Or.inr (Or.inl h8)))))))) (fun h9 => h9.elim (fun h8 => (Or.inr (Or.inr (Or.inr (Or.inr (Or.inr (Or.inr (Or.inr (Or.inl h8))))))))) (fun h9 => h9.elim (fun h8 => (Or.inr (Or.inr (Or.inr (Or.inr (Or.inr (Or.inr (Or.inr (Or.inr (Or.inl h8)))))))))) (fun h9 => h9.elim (fun h8 => (Or.inr (Or.inr (Or.inr (Or.inr (Or.inr (Or.inr (Or.inr (Or.inr (Or.inr (Or.inl h8))))))))))) (fun h9 => h9.elim (fun h8 => (Or.inr (Or.inr (Or.inr (Or.inr (Or.inr (Or.inr (Or.inr (Or.inr (Or.inr (Or.inr (Or.inl h8)))))))))))) (fun h9 => h9.elim (fun h8 => (Or.inr (Or.inr (Or.inr (Or.inr (Or.inr (Or.inr (Or.inr (Or.inr (Or.inr (Or.inr (Or.inr (Or.inl h8))))))))))))) (fun h9 => h9.elim (fun h8 => (Or.inr (Or.inr (Or.inr (Or.inr (Or.inr (Or.inr (Or.inr (Or.inr (Or.inr (Or.inr (Or.inr (Or.inr (Or.inl h8)))))))))))))) (fun h8 => (Or.inr (Or.inr (Or.inr (Or.inr (Or.inr (Or.inr (Or.inr (Or.inr (Or.inr (Or.inr (Or.inr (Or.inr (Or.inr h8)))))))))))))))))))))))) h9), (fun f9 h9 => (fun h8 => h8) h9), (fun h9 => (fun h8 => (Or.inr (Or.inr h8))) h9)⟩)
  have hW_89 : Wd ad S_68 := hW_57.fm hf_70 (by intro p9 hp9 h9; obtain ⟨e1, e2⟩ := h9 <;> exact wp_dyn p9 hp9 (by rw [e1]; decide)) (by intro p9 hp9; simp only [wqL, List.mem_cons, List.not_mem_nil, or_false] at hp9; rcases hp9 with rfl | rfl <;> intro h9 <;> skip <;> exact absurd h9 (wn hW_57 (by decide) (by decide) (by decide)))
  have hx_90 : TIL (aJ S_68 (ad 25)) 4 2 pn := by
    have e0_9 : (aJ S_68 (ad 25)) = (aJ S_33 (ad 25)) := funext fun j9 => hf_70.aj (wm_25 (S := S_33) hW_57) (fun q9 => (wn (S := S_33) hW_57 (i := 25) (j := 13) (by decide) (by decide) (by decide)) q9) j9
    first | (rw [e0_9]; exact hx_59) | rw [e0_9]
  have hx_91 : ∀ j, j < 25 → aI S_68 (ad 14) j = -1 := by
    have e0_9 : (aI S_68 (ad 14)) = (aI S_33 (ad 14)) := funext fun j9 => hf_70.ai (wm_14 (S := S_33) hW_57) (fun q9 => (wn (S := S_33) hW_57 (i := 14) (j := 13) (by decide) (by decide) (by decide)) q9) j9
    first | (rw [e0_9]; exact hx_60) | rw [e0_9]
  have hx_92 : aJ S_68 (ad 25) = aJ S_33 (ad 25) := by
    have e0_9 : (aJ S_68 (ad 25)) = (aJ S_33 (ad 25)) := funext fun j9 => hf_70.aj (wm_25 (S := S_33) hW_57) (fun q9 => (wn (S := S_33) hW_57 (i := 25) (j := 13) (by decide) (by decide) (by decide)) q9) j9
    first | (rw [e0_9]; exact hx_62) | rw [e0_9]
  exact j_vret C M dX9_box_123 (Nat.le_of_ble_eq_true rfl) (Nat.le_of_ble_eq_true rfl) ⟨rfl, hf_88, e_63, e_64, e_65, (by rw [x_66]; exact cvp_box hx_58 hw (by omega) hx_59 rfl)⟩
