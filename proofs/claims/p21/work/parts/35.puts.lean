theorem wN_put (x : Int32) {b : Nat} (hb : b < 256) : wN ((x <<< ((8 : Int32) &&& 31)) ||| nI b) = (wN x * 256 + b) % 4294967296 := by
  have e1 : (x <<< ((8 : Int32) &&& 31)).toBitVec = x.toBitVec <<< (8 : Nat) := by
    show x.toBitVec <<< ((((8 : Int32) &&& 31).toBitVec.smod 32).toNat) = _
    rw [show (((8 : Int32) &&& 31).toBitVec.smod 32).toNat = 8 by decide]
  unfold wN
  rw [Int32.toBitVec_or, e1, BitVec.toNat_or, BitVec.toNat_shiftLeft, show (nI b).toBitVec.toNat = b from by
    show (BitVec.ofNat 32 b).toNat = b
    rw [BitVec.toNat_ofNat]; omega]
  have hx : x.toBitVec.toNat < 4294967296 := x.toBitVec.isLt
  generalize x.toBitVec.toNat = n at hx
  rw [show n <<< 8 % 2 ^ 32 = (n % 16777216) <<< 8 from by rw [Nat.shiftLeft_eq, Nat.shiftLeft_eq]; omega, ← Nat.shiftLeft_add_eq_or_of_lt (show b < 2 ^ 8 from hb), Nat.shiftLeft_eq]
  omega
/-- of a word, the last c bytes stand in B from p on -/
def PWd (v : Nat) (B : Nat → Nat) (p : Nat) : Nat → Prop
  | 0 => True
  | 1 => v / 2 ^ 0 % 256 = B p
  | 2 => v / 2 ^ 8 % 256 = B p ∧ v / 2 ^ 0 % 256 = B (p + 1)
  | 3 => v / 2 ^ 16 % 256 = B p ∧ v / 2 ^ 8 % 256 = B (p + 1) ∧ v / 2 ^ 0 % 256 = B (p + 1 + 1)
  | _ => v / 2 ^ 24 % 256 = B p ∧ v / 2 ^ 16 % 256 = B (p + 1) ∧ v / 2 ^ 8 % 256 = B (p + 1 + 1) ∧ v / 2 ^ 0 % 256 = B (p + 1 + 1 + 1)
theorem pwd_s {v b c p : Nat} {B : Nat → Nat} (h : PWd v B p c) (hv : v < 4294967296) (hc : c < 4) (hb : B (p + c) = b) (hb8 : b < 256) : PWd ((v * 256 + b) % 4294967296) B p (c + 1) := by
  rcases (show c = 0 ∨ c = 1 ∨ c = 2 ∨ c = 3 by omega) with rfl | rfl | rfl | rfl
  · have e : B p = b := hb
    show _ / 2 ^ 0 % 256 = B p
    omega
  · have e : B (p + 1) = b := hb
    have h1 : v / 2 ^ 0 % 256 = B p := h
    refine ⟨?_, ?_⟩ <;> omega
  · have e : B (p + 1 + 1) = b := hb
    obtain ⟨h1, h2⟩ : v / 2 ^ 8 % 256 = B p ∧ v / 2 ^ 0 % 256 = B (p + 1) := h
    refine ⟨?_, ?_, ?_⟩ <;> omega
  · have e : B (p + 1 + 1 + 1) = b := hb
    obtain ⟨h1, h2, h3⟩ : v / 2 ^ 16 % 256 = B p ∧ v / 2 ^ 8 % 256 = B (p + 1) ∧ v / 2 ^ 0 % 256 = B (p + 1 + 1) := h
    refine ⟨?_, ?_, ?_, ?_⟩ <;> omega
/-- the law's seven ints when T bytes are told -/
def GS (D : Nat → Int32) (B : Nat → Nat) (T : Nat) : Prop := D 5 = nI (T % 20) ∧ D 6 = nI T ∧ ∀ k, k < 5 → PWd (wN (D k)) B (20 * (T / 20) + 4 * k) (min 4 (T % 20 - 4 * k))
theorem gs_step {D D' : Nat → Int32} {B : Nat → Nat} {T b : Nat} (h : GS D B T) (hb : B T = b) (hb8 : b < 256) (hw : D' (T % 20 / 4) = (D (T % 20 / 4) <<< ((8 : Int32) &&& 31)) ||| nI b) (ho : ∀ k, k < 5 → k ≠ T % 20 / 4 → D' k = D k) : ∀ k, k < 5 → PWd (wN (D' k)) B (20 * (T / 20) + 4 * k) (min 4 (T % 20 + 1 - 4 * k)) := fun k hk => by
  have hT : T % 20 < 20 := Nat.mod_lt _ (by decide)
  by_cases e : k = T % 20 / 4
  · rw [e, hw, wN_put _ hb8, show min 4 (T % 20 + 1 - 4 * (T % 20 / 4)) = T % 20 - 4 * (T % 20 / 4) + 1 by omega]
    have h1 := h.2.2 (T % 20 / 4) (by omega)
    rw [show min 4 (T % 20 - 4 * (T % 20 / 4)) = T % 20 - 4 * (T % 20 / 4) by omega] at h1
    exact pwd_s h1 (wN_lt _) (by omega) (by rw [show 20 * (T / 20) + 4 * (T % 20 / 4) + (T % 20 - 4 * (T % 20 / 4)) = T by omega]; exact hb) hb8
  · rw [ho k hk e]
    have h1 := h.2.2 k hk
    by_cases h2 : k < T % 20 / 4
    · rw [show min 4 (T % 20 - 4 * k) = 4 by omega] at h1
      rw [show min 4 (T % 20 + 1 - 4 * k) = 4 by omega]
      exact h1
    · rw [show min 4 (T % 20 + 1 - 4 * k) = 0 by omega]
      trivial
theorem gs_put {D D' : Nat → Int32} {B : Nat → Nat} {T b : Nat} (h : GS D B T) (hb : B T = b) (hb8 : b < 256) (hw : D' (T % 20 / 4) = (D (T % 20 / 4) <<< ((8 : Int32) &&& 31)) ||| nI b) (ho : ∀ k, k < 5 → k ≠ T % 20 / 4 → D' k = D k) (h5 : D' 5 = nI (T % 20 + 1)) (h6 : D' 6 = nI (T + 1)) (hm : T % 20 ≠ 19) : GS D' B (T + 1) := by
  have e1 : (T + 1) % 20 = T % 20 + 1 := by omega
  have e2 : (T + 1) / 20 = T / 20 := by omega
  refine ⟨by rw [e1]; exact h5, h6, fun k hk => ?_⟩
  rw [e1, e2]
  exact gs_step h hb hb8 hw ho k hk
theorem gs_full {D D' : Nat → Int32} {B : Nat → Nat} {T b : Nat} (h : GS D B T) (hb : B T = b) (hb8 : b < 256) (hw : D' (T % 20 / 4) = (D (T % 20 / 4) <<< ((8 : Int32) &&& 31)) ||| nI b) (ho : ∀ k, k < 5 → k ≠ T % 20 / 4 → D' k = D k) (hm : T % 20 = 19) : ∀ k, k < 5 → W4 (D' k) B (20 * (T / 20) + 4 * k) := fun k hk => by
  have h1 := gs_step h hb hb8 hw ho k hk
  rw [show min 4 (T % 20 + 1 - 4 * k) = 4 by omega] at h1
  exact h1
theorem gs_new {D : Nat → Int32} {B : Nat → Nat} {T : Nat} (h5 : D 5 = 0) (h6 : D 6 = nI T) (hm : T % 20 = 0) : GS D B T := by
  refine ⟨by rw [hm]; exact h5, h6, fun k hk => ?_⟩
  rw [show min 4 (T % 20 - 4 * k) = 0 by omega]
  trivial

theorem dL_put_0 : decode cL_put 0 = .ok (.aload_n 1, 1) := by decide +kernel
theorem dL_put_1 : decode cL_put 1 = .ok (.iconst 5, 1) := by decide +kernel
theorem dL_put_2 : decode cL_put 2 = .ok (.iaload, 1) := by decide +kernel
theorem dL_put_3 : decode cL_put 3 = .ok (.iconst 4, 1) := by decide +kernel
theorem dL_put_4 : decode cL_put 4 = .ok (.idiv, 1) := by decide +kernel
theorem dL_put_5 : decode cL_put 5 = .ok (.istore_n 3, 1) := by decide +kernel
theorem dL_put_6 : decode cL_put 6 = .ok (.aload_n 1, 1) := by decide +kernel
theorem dL_put_7 : decode cL_put 7 = .ok (.iload_n 3, 1) := by decide +kernel
theorem dL_put_8 : decode cL_put 8 = .ok (.aload_n 1, 1) := by decide +kernel
theorem dL_put_9 : decode cL_put 9 = .ok (.iload_n 3, 1) := by decide +kernel
theorem dL_put_10 : decode cL_put 10 = .ok (.iaload, 1) := by decide +kernel
theorem dL_put_11 : decode cL_put 11 = .ok (.bipush 8, 2) := by decide +kernel
theorem dL_put_13 : decode cL_put 13 = .ok (.ishl, 1) := by decide +kernel
theorem dL_put_14 : decode cL_put 14 = .ok (.iload_n 2, 1) := by decide +kernel
theorem dL_put_15 : decode cL_put 15 = .ok (.sipush 255, 3) := by decide +kernel
theorem dL_put_18 : decode cL_put 18 = .ok (.iand, 1) := by decide +kernel
theorem dL_put_19 : decode cL_put 19 = .ok (.ior, 1) := by decide +kernel
theorem dL_put_20 : decode cL_put 20 = .ok (.iastore, 1) := by decide +kernel
theorem dL_put_21 : decode cL_put 21 = .ok (.aload_n 1, 1) := by decide +kernel
theorem dL_put_22 : decode cL_put 22 = .ok (.iconst 5, 1) := by decide +kernel
theorem dL_put_23 : decode cL_put 23 = .ok (.aload_n 1, 1) := by decide +kernel
theorem dL_put_24 : decode cL_put 24 = .ok (.iconst 5, 1) := by decide +kernel
theorem dL_put_25 : decode cL_put 25 = .ok (.iaload, 1) := by decide +kernel
theorem dL_put_26 : decode cL_put 26 = .ok (.iconst 1, 1) := by decide +kernel
theorem dL_put_27 : decode cL_put 27 = .ok (.iadd, 1) := by decide +kernel
theorem dL_put_28 : decode cL_put 28 = .ok (.iastore, 1) := by decide +kernel
theorem dL_put_29 : decode cL_put 29 = .ok (.aload_n 1, 1) := by decide +kernel
theorem dL_put_30 : decode cL_put 30 = .ok (.bipush 6, 2) := by decide +kernel
theorem dL_put_32 : decode cL_put 32 = .ok (.aload_n 1, 1) := by decide +kernel
theorem dL_put_33 : decode cL_put 33 = .ok (.bipush 6, 2) := by decide +kernel
theorem dL_put_35 : decode cL_put 35 = .ok (.iaload, 1) := by decide +kernel
theorem dL_put_36 : decode cL_put 36 = .ok (.iconst 1, 1) := by decide +kernel
theorem dL_put_37 : decode cL_put 37 = .ok (.iadd, 1) := by decide +kernel
theorem dL_put_38 : decode cL_put 38 = .ok (.iastore, 1) := by decide +kernel
theorem dL_put_39 : decode cL_put 39 = .ok (.aload_n 1, 1) := by decide +kernel
theorem dL_put_40 : decode cL_put 40 = .ok (.iconst 5, 1) := by decide +kernel
theorem dL_put_41 : decode cL_put 41 = .ok (.iaload, 1) := by decide +kernel
theorem dL_put_42 : decode cL_put 42 = .ok (.bipush 20, 2) := by decide +kernel
theorem dL_put_44 : decode cL_put 44 = .ok (.if_icmp .ne 27, 3) := by decide +kernel
theorem dL_put_47 : decode cL_put 47 = .ok (.aload_n 0, 1) := by decide +kernel
theorem dL_put_48 : decode cL_put 48 = .ok (.aload_n 1, 1) := by decide +kernel
theorem dL_put_49 : decode cL_put 49 = .ok (.iconst 0, 1) := by decide +kernel
theorem dL_put_50 : decode cL_put 50 = .ok (.iaload, 1) := by decide +kernel
theorem dL_put_51 : decode cL_put 51 = .ok (.aload_n 1, 1) := by decide +kernel
theorem dL_put_52 : decode cL_put 52 = .ok (.iconst 1, 1) := by decide +kernel
theorem dL_put_53 : decode cL_put 53 = .ok (.iaload, 1) := by decide +kernel
theorem dL_put_54 : decode cL_put 54 = .ok (.aload_n 1, 1) := by decide +kernel
theorem dL_put_55 : decode cL_put 55 = .ok (.iconst 2, 1) := by decide +kernel
theorem dL_put_56 : decode cL_put 56 = .ok (.iaload, 1) := by decide +kernel
theorem dL_put_57 : decode cL_put 57 = .ok (.aload_n 1, 1) := by decide +kernel
theorem dL_put_58 : decode cL_put 58 = .ok (.iconst 3, 1) := by decide +kernel
theorem dL_put_59 : decode cL_put 59 = .ok (.iaload, 1) := by decide +kernel
theorem dL_put_60 : decode cL_put 60 = .ok (.aload_n 1, 1) := by decide +kernel
theorem dL_put_61 : decode cL_put 61 = .ok (.iconst 4, 1) := by decide +kernel
theorem dL_put_62 : decode cL_put 62 = .ok (.iaload, 1) := by decide +kernel
theorem dL_put_63 : decode cL_put 63 = .ok (.invokevirtual 7, 3) := by decide +kernel
theorem dL_put_66 : decode cL_put 66 = .ok (.pop, 1) := by decide +kernel
theorem dL_put_67 : decode cL_put 67 = .ok (.aload_n 1, 1) := by decide +kernel
theorem dL_put_68 : decode cL_put 68 = .ok (.iconst 5, 1) := by decide +kernel
theorem dL_put_69 : decode cL_put 69 = .ok (.iconst 0, 1) := by decide +kernel
theorem dL_put_70 : decode cL_put 70 = .ok (.iastore, 1) := by decide +kernel
theorem dL_put_71 : decode cL_put 71 = .ok (.return_, 1) := by decide +kernel

set_option maxRecDepth 100000 in
set_option maxHeartbeats 4000000 in
theorem c_put0 (S : Hp) (ad : Nat → Nat) (hW : Wd ad S) (ga : Nat) (m_ga : ga ∈ hL S) (k_ga : Kd S ga 14) (l_ga : Ln S ga 7) (hga : ∀ i, i < 37 → ga ≠ ad i) (B : Nat → Nat) (T : Nat) (hI_1101_ad0 : hI S 1101 (ad 0) = nI (20 * (T / 20))) (hs : STR (aI S (ad 1)) B (20 * (T / 20))) (hgs : GS (aI S ga) B T) (hb : ∀ j, B j < 128) (b9 : Nat) (hbT : B T = b9) (hb8 : b9 < 128) (hT : T < 7900) (hm : T % 20 ≠ 19) : Ct 3 yL_put cL_put 4 none 0 0 [.ref (ad 0), .ref ga, .int (nI b9)] S (fun r S' => r = none ∧ Fm (fun f9 b9 => (f9 = 1101 ∧ b9 = (ad 0))) (fun _ _ => False) (fun b9 => b9 = (ad 1) ∨ b9 = ga) S S' ∧ hI S' 1101 (ad 0) = nI (20 * ((T + 1) / 20)) ∧ STR (aI S' (ad 1)) B (20 * ((T + 1) / 20)) ∧ GS (aI S' ga) B (T + 1)) := by
  refine ct_of (by decide) (Nat.le_of_ble_eq_true rfl) fun x hn9 C M hm9 => ?_
  have C : CB x RL cL_put := C
  refine J.eq (lv' := [(0, .ref (ad 0)), (1, .ref ga), (2, .int (nI b9))]) rfl rfl rfl ?_
  have hT20 := Nat.mod_lt T (show 20 > 0 by decide)
  refine j_aload_n C dL_put_0 rfl 1 rfl ?_
  refine j_iconst (v := 5) C dL_put_1 (by decide) ?_
  refine j_iald (j := 5) (v := nI (T % 20)) C dL_put_2 m_ga k_ga (inr_of (n := 7) l_ga (vp_lit (by decide))) (by decide) hgs.1 ?_
  refine j_iconst (v := 4) C dL_put_3 (by decide) ?_
  refine j_idiv (v := nI ((T % 20) / 4)) C dL_put_4 (by decide) (pk_div (d := 4) (by omega) (by decide) (by decide)) ?_
  refine j_istore_n (lv' := [(3, .int (nI ((T % 20) / 4))), (0, .ref (ad 0)), (1, .ref ga), (2, .int (nI b9))]) C dL_put_5 rfl (by rw [hn9]; decide) rfl ?_
  refine j_aload_n C dL_put_6 rfl 2 rfl ?_
  refine j_iload_n C dL_put_7 rfl 0 rfl ?_
  show J _ _ _ _ _ 8 _
  refine j_aload_n C dL_put_8 rfl 2 rfl ?_
  refine j_iload_n C dL_put_9 rfl 0 rfl ?_
  refine j_iald (j := ((T % 20) / 4)) (v := aI S ga ((T % 20) / 4)) C dL_put_10 m_ga k_ga (inr_of (n := 7) l_ga (vp_in_nI (by omega) (by omega))) (nI_clamp (by omega)) rfl ?_
  refine j_bipush (v := 8) C dL_put_11 (by decide) ?_
  refine j_ishl C dL_put_13 rfl ?_
  refine j_iload_n C dL_put_14 rfl 3 rfl ?_
  refine j_sipush (v := 255) C dL_put_15 (by decide) ?_
  refine j_iand (v := nI (b9 % 256)) C dL_put_18 (pk_andN (by omega) 8 (by decide)) ?_
  show J _ _ _ _ _ 19 _
  refine j_ior C dL_put_19 rfl ?_
  refine j_iast (j := ((T % 20) / 4)) C dL_put_20 m_ga k_ga (inr_of (n := 7) l_ga (vp_in_nI (by omega) (by omega))) (nI_clamp (by omega)) ?_
  refine j_aload_n C dL_put_21 rfl 2 rfl ?_
  refine j_iconst (v := 5) C dL_put_22 (by decide) ?_
  refine j_aload_n C dL_put_23 rfl 2 rfl ?_
  refine j_iconst (v := 5) C dL_put_24 (by decide) ?_
  refine j_iald (j := 5) (v := nI (T % 20)) C dL_put_25 m_ga k_ga (inr_of (n := 7) l_ga (vp_lit (by decide))) (by decide) (rd_tIj (S := S) (by omega) hgs.1) ?_
  refine j_iconst (v := 1) C dL_put_26 (by decide) ?_
  show J _ _ _ _ _ 27 _
  refine j_iadd (v := nI ((T % 20) + 1)) C dL_put_27 (nI_add (T % 20) 1) ?_
  refine j_iast (j := 5) C dL_put_28 m_ga k_ga (inr_of (n := 7) l_ga (vp_lit (by decide))) (by decide) ?_
  refine j_aload_n C dL_put_29 rfl 2 rfl ?_
  refine j_bipush (v := 6) C dL_put_30 (by decide) ?_
  refine j_aload_n C dL_put_32 rfl 2 rfl ?_
  refine j_bipush (v := 6) C dL_put_33 (by decide) ?_
  refine j_iald (j := 6) (v := nI T) C dL_put_35 m_ga k_ga (inr_of (n := 7) l_ga (vp_lit (by decide))) (by decide) (rd_tIj (S := (tI S ga ((T % 20) / 4) (((aI S ga ((T % 20) / 4)) <<< (8 &&& 31)) ||| (nI (b9 % 256))))) (by decide) (rd_tIj (S := S) (by omega) hgs.2.1)) ?_
  refine j_iconst (v := 1) C dL_put_36 (by decide) ?_
  show J _ _ _ _ _ 37 _
  refine j_iadd (v := nI (T + 1)) C dL_put_37 (nI_add T 1) ?_
  refine j_iast (j := 6) C dL_put_38 m_ga k_ga (inr_of (n := 7) l_ga (vp_lit (by decide))) (by decide) ?_
  refine j_aload_n C dL_put_39 rfl 2 rfl ?_
  refine j_iconst (v := 5) C dL_put_40 (by decide) ?_
  refine j_iald (j := 5) (v := nI ((T % 20) + 1)) C dL_put_41 m_ga k_ga (inr_of (n := 7) l_ga (vp_lit (by decide))) (by decide) (rd_tIj (S := (tI (tI S ga ((T % 20) / 4) (((aI S ga ((T % 20) / 4)) <<< (8 &&& 31)) ||| (nI (b9 % 256)))) ga 5 (nI ((T % 20) + 1)))) (by decide) (rd_tI0 (S := (tI S ga ((T % 20) / 4) (((aI S ga ((T % 20) / 4)) <<< (8 &&& 31)) ||| (nI (b9 % 256))))))) ?_
  refine j_bipush (v := 20) C dL_put_42 (by decide) ?_
  refine j_ic_ne (tgt := 71) C dL_put_44 (by decide) (fun c_44 => ?_) (fun c_44 => absurd c_44 (fun h9 => absurd ((nI_eq (b := 20) (by omega) (by decide)).mp h9) (by omega)))
  exact j_vret C M dL_put_71 (by decide) (by decide) ⟨rfl, ((((Fm.refl (WI := (fun f9 b9 => (f9 = 1101 ∧ b9 = (ad 0)))) (WR := (fun _ _ => False)) (WA := (fun b9 => b9 = (ad 1) ∨ b9 = ga))).tI _ _ (fun _ => (Or.inr rfl))).tI _ _ (fun _ => (Or.inr rfl))).tI _ _ (fun _ => (Or.inr rfl))), ((rxI_tI (S := (tI (tI S ga ((T % 20) / 4) (((aI S ga ((T % 20) / 4)) <<< (8 &&& 31)) ||| (nI (b9 % 256)))) ga 5 (nI ((T % 20) + 1)))) (rxI_tI (S := (tI S ga ((T % 20) / 4) (((aI S ga ((T % 20) / 4)) <<< (8 &&& 31)) ||| (nI (b9 % 256))))) (rxI_tI (S := S) hI_1101_ad0))).trans (congrArg nI (by omega))), (by rw [show 20 * ((T + 1) / 20) = 20 * (T / 20) by omega]; exact (by rw [show aI (tI (tI (tI S ga ((T % 20) / 4) (((aI S ga ((T % 20) / 4)) <<< (8 &&& 31)) ||| (nI (b9 % 256)))) ga 5 (nI ((T % 20) + 1))) ga 6 (nI (T + 1))) (ad 1) = aI S (ad 1) from ((ar_tI (S := (tI (tI S ga ((T % 20) / 4) (((aI S ga ((T % 20) / 4)) <<< (8 &&& 31)) ||| (nI (b9 % 256)))) ga 5 (nI ((T % 20) + 1)))) (Ne.symm (hga 1 (by decide)))).trans ((ar_tI (S := (tI S ga ((T % 20) / 4) (((aI S ga ((T % 20) / 4)) <<< (8 &&& 31)) ||| (nI (b9 % 256))))) (Ne.symm (hga 1 (by decide)))).trans (ar_tI (S := S) (Ne.symm (hga 1 (by decide))))))]; exact hs)), (gs_put hgs (by rw [Nat.mod_eq_of_lt (by omega)]; exact hbT) (by omega) (rd_tIj (S := (tI (tI S ga ((T % 20) / 4) (((aI S ga ((T % 20) / 4)) <<< (8 &&& 31)) ||| (nI (b9 % 256)))) ga 5 (nI ((T % 20) + 1)))) (by omega) (rd_tIj (S := (tI S ga ((T % 20) / 4) (((aI S ga ((T % 20) / 4)) <<< (8 &&& 31)) ||| (nI (b9 % 256))))) (by omega) (rd_tI0 (S := S)))) (fun k9 hk9 hn9 => rd_tIj (S := (tI (tI S ga ((T % 20) / 4) (((aI S ga ((T % 20) / 4)) <<< (8 &&& 31)) ||| (nI (b9 % 256)))) ga 5 (nI ((T % 20) + 1)))) (by omega) (rd_tIj (S := (tI S ga ((T % 20) / 4) (((aI S ga ((T % 20) / 4)) <<< (8 &&& 31)) ||| (nI (b9 % 256))))) (by omega) (rd_tIj (S := S) hn9 rfl))) (rd_tIj (S := (tI (tI S ga ((T % 20) / 4) (((aI S ga ((T % 20) / 4)) <<< (8 &&& 31)) ||| (nI (b9 % 256)))) ga 5 (nI ((T % 20) + 1)))) (by decide) (rd_tI0 (S := (tI S ga ((T % 20) / 4) (((aI S ga ((T % 20) / 4)) <<< (8 &&& 31)) ||| (nI (b9 % 256))))))) (rd_tI0 (S := (tI (tI S ga ((T % 20) / 4) (((aI S ga ((T % 20) / 4)) <<< (8 &&& 31)) ||| (nI (b9 % 256)))) ga 5 (nI ((T % 20) + 1))))) hm)⟩

set_option maxRecDepth 100000 in
set_option maxHeartbeats 4000000 in
theorem c_put1 (S : Hp) (ad : Nat → Nat) (hW : Wd ad S) (ga : Nat) (m_ga : ga ∈ hL S) (k_ga : Kd S ga 14) (l_ga : Ln S ga 7) (hga : ∀ i, i < 37 → ga ≠ ad i) (B : Nat → Nat) (T : Nat) (hI_1101_ad0 : hI S 1101 (ad 0) = nI (20 * (T / 20))) (hs : STR (aI S (ad 1)) B (20 * (T / 20))) (hgs : GS (aI S ga) B T) (hb : ∀ j, B j < 128) (b9 : Nat) (hbT : B T = b9) (hb8 : b9 < 128) (hT : T < 7900) (hm : T % 20 = 19) : Ct 3 yL_put cL_put 4 none 0 0 [.ref (ad 0), .ref ga, .int (nI b9)] S (fun r S' => r = none ∧ Fm (fun f9 b9 => (f9 = 1101 ∧ b9 = (ad 0))) (fun _ _ => False) (fun b9 => b9 = (ad 1) ∨ b9 = ga) S S' ∧ hI S' 1101 (ad 0) = nI (20 * ((T + 1) / 20)) ∧ STR (aI S' (ad 1)) B (20 * ((T + 1) / 20)) ∧ GS (aI S' ga) B (T + 1)) := by
  refine ct_of (by decide) (Nat.le_of_ble_eq_true rfl) fun x hn9 C M hm9 => ?_
  have C : CB x RL cL_put := C
  refine J.eq (lv' := [(0, .ref (ad 0)), (1, .ref ga), (2, .int (nI b9))]) rfl rfl rfl ?_
  have hT20 := Nat.mod_lt T (show 20 > 0 by decide)
  refine j_aload_n C dL_put_0 rfl 1 rfl ?_
  refine j_iconst (v := 5) C dL_put_1 (by decide) ?_
  refine j_iald (j := 5) (v := nI (T % 20)) C dL_put_2 m_ga k_ga (inr_of (n := 7) l_ga (vp_lit (by decide))) (by decide) hgs.1 ?_
  refine j_iconst (v := 4) C dL_put_3 (by decide) ?_
  refine j_idiv (v := nI ((T % 20) / 4)) C dL_put_4 (by decide) (pk_div (d := 4) (by omega) (by decide) (by decide)) ?_
  refine j_istore_n (lv' := [(3, .int (nI ((T % 20) / 4))), (0, .ref (ad 0)), (1, .ref ga), (2, .int (nI b9))]) C dL_put_5 rfl (by rw [hn9]; decide) rfl ?_
  refine j_aload_n C dL_put_6 rfl 2 rfl ?_
  refine j_iload_n C dL_put_7 rfl 0 rfl ?_
  show J _ _ _ _ _ 8 _
  refine j_aload_n C dL_put_8 rfl 2 rfl ?_
  refine j_iload_n C dL_put_9 rfl 0 rfl ?_
  refine j_iald (j := ((T % 20) / 4)) (v := aI S ga ((T % 20) / 4)) C dL_put_10 m_ga k_ga (inr_of (n := 7) l_ga (vp_in_nI (by omega) (by omega))) (nI_clamp (by omega)) rfl ?_
  refine j_bipush (v := 8) C dL_put_11 (by decide) ?_
  refine j_ishl C dL_put_13 rfl ?_
  refine j_iload_n C dL_put_14 rfl 3 rfl ?_
  refine j_sipush (v := 255) C dL_put_15 (by decide) ?_
  refine j_iand (v := nI (b9 % 256)) C dL_put_18 (pk_andN (by omega) 8 (by decide)) ?_
  show J _ _ _ _ _ 19 _
  refine j_ior C dL_put_19 rfl ?_
  refine j_iast (j := ((T % 20) / 4)) C dL_put_20 m_ga k_ga (inr_of (n := 7) l_ga (vp_in_nI (by omega) (by omega))) (nI_clamp (by omega)) ?_
  refine j_aload_n C dL_put_21 rfl 2 rfl ?_
  refine j_iconst (v := 5) C dL_put_22 (by decide) ?_
  refine j_aload_n C dL_put_23 rfl 2 rfl ?_
  refine j_iconst (v := 5) C dL_put_24 (by decide) ?_
  refine j_iald (j := 5) (v := nI (T % 20)) C dL_put_25 m_ga k_ga (inr_of (n := 7) l_ga (vp_lit (by decide))) (by decide) (rd_tIj (S := S) (by omega) hgs.1) ?_
  refine j_iconst (v := 1) C dL_put_26 (by decide) ?_
  show J _ _ _ _ _ 27 _
  refine j_iadd (v := nI ((T % 20) + 1)) C dL_put_27 (nI_add (T % 20) 1) ?_
  refine j_iast (j := 5) C dL_put_28 m_ga k_ga (inr_of (n := 7) l_ga (vp_lit (by decide))) (by decide) ?_
  refine j_aload_n C dL_put_29 rfl 2 rfl ?_
  refine j_bipush (v := 6) C dL_put_30 (by decide) ?_
  refine j_aload_n C dL_put_32 rfl 2 rfl ?_
  refine j_bipush (v := 6) C dL_put_33 (by decide) ?_
  refine j_iald (j := 6) (v := nI T) C dL_put_35 m_ga k_ga (inr_of (n := 7) l_ga (vp_lit (by decide))) (by decide) (rd_tIj (S := (tI S ga ((T % 20) / 4) (((aI S ga ((T % 20) / 4)) <<< (8 &&& 31)) ||| (nI (b9 % 256))))) (by decide) (rd_tIj (S := S) (by omega) hgs.2.1)) ?_
  refine j_iconst (v := 1) C dL_put_36 (by decide) ?_
  show J _ _ _ _ _ 37 _
  refine j_iadd (v := nI (T + 1)) C dL_put_37 (nI_add T 1) ?_
  refine j_iast (j := 6) C dL_put_38 m_ga k_ga (inr_of (n := 7) l_ga (vp_lit (by decide))) (by decide) ?_
  refine j_aload_n C dL_put_39 rfl 2 rfl ?_
  refine j_iconst (v := 5) C dL_put_40 (by decide) ?_
  refine j_iald (j := 5) (v := nI ((T % 20) + 1)) C dL_put_41 m_ga k_ga (inr_of (n := 7) l_ga (vp_lit (by decide))) (by decide) (rd_tIj (S := (tI (tI S ga ((T % 20) / 4) (((aI S ga ((T % 20) / 4)) <<< (8 &&& 31)) ||| (nI (b9 % 256)))) ga 5 (nI ((T % 20) + 1)))) (by decide) (rd_tI0 (S := (tI S ga ((T % 20) / 4) (((aI S ga ((T % 20) / 4)) <<< (8 &&& 31)) ||| (nI (b9 % 256))))))) ?_
  refine j_bipush (v := 20) C dL_put_42 (by decide) ?_
  refine j_ic_ne (tgt := 71) C dL_put_44 (by decide) (fun c_44 => absurd c_44 (fun h9 => h9 (show nI (T % 20 + 1) = nI 20 from congrArg nI (by omega)))) (fun c_44 => ?_)
  have hq9 := gs_full (D' := aI (tI (tI (tI S ga ((T % 20) / 4) (((aI S ga ((T % 20) / 4)) <<< (8 &&& 31)) ||| (nI (b9 % 256)))) ga 5 (nI ((T % 20) + 1))) ga 6 (nI (T + 1))) ga) hgs (by rw [Nat.mod_eq_of_lt (show b9 < 256 by omega)]; exact hbT) (by omega) (rd_tIj (S := (tI (tI S ga ((T % 20) / 4) (((aI S ga ((T % 20) / 4)) <<< (8 &&& 31)) ||| (nI (b9 % 256)))) ga 5 (nI ((T % 20) + 1)))) (by omega) (rd_tIj (S := (tI S ga ((T % 20) / 4) (((aI S ga ((T % 20) / 4)) <<< (8 &&& 31)) ||| (nI (b9 % 256))))) (by omega) (rd_tI0 (S := S)))) (fun k9 hk9 hn9 => rd_tIj (S := (tI (tI S ga ((T % 20) / 4) (((aI S ga ((T % 20) / 4)) <<< (8 &&& 31)) ||| (nI (b9 % 256)))) ga 5 (nI ((T % 20) + 1)))) (by omega) (rd_tIj (S := (tI S ga ((T % 20) / 4) (((aI S ga ((T % 20) / 4)) <<< (8 &&& 31)) ||| (nI (b9 % 256))))) (by omega) (rd_tIj (S := S) hn9 rfl))) hm
  have h59 : aI (tI (tI (tI S ga ((T % 20) / 4) (((aI S ga ((T % 20) / 4)) <<< (8 &&& 31)) ||| (nI (b9 % 256)))) ga 5 (nI ((T % 20) + 1))) ga 6 (nI (T + 1))) ga 6 = nI (T + 1) := (rd_tI0 (S := (tI (tI S ga ((T % 20) / 4) (((aI S ga ((T % 20) / 4)) <<< (8 &&& 31)) ||| (nI (b9 % 256)))) ga 5 (nI ((T % 20) + 1)))))
  have hq8 : ∀ k p, k < 5 → p = 20 * (T / 20) + 4 * k → W4 (aI (tI (tI (tI S ga ((T % 20) / 4) (((aI S ga ((T % 20) / 4)) <<< (8 &&& 31)) ||| (nI (b9 % 256)))) ga 5 (nI ((T % 20) + 1))) ga 6 (nI (T + 1))) ga k) B p := fun k p hk hp => by rw [hp]; exact hq9 k hk
  refine j_aload_n C dL_put_47 rfl 1 rfl ?_
  show J _ _ _ _ _ 48 _
  refine j_aload_n C dL_put_48 rfl 2 rfl ?_
  refine j_iconst (v := 0) C dL_put_49 (by decide) ?_
  refine j_iald (j := 0) (v := aI (tI (tI (tI S ga ((T % 20) / 4) (((aI S ga ((T % 20) / 4)) <<< (8 &&& 31)) ||| (nI (b9 % 256)))) ga 5 (nI ((T % 20) + 1))) ga 6 (nI (T + 1))) ga 0) C dL_put_50 m_ga k_ga (inr_of (n := 7) l_ga (vp_lit (by decide))) (by decide) rfl ?_
  refine j_aload_n C dL_put_51 rfl 2 rfl ?_
  refine j_iconst (v := 1) C dL_put_52 (by decide) ?_
  refine j_iald (j := 1) (v := aI (tI (tI (tI S ga ((T % 20) / 4) (((aI S ga ((T % 20) / 4)) <<< (8 &&& 31)) ||| (nI (b9 % 256)))) ga 5 (nI ((T % 20) + 1))) ga 6 (nI (T + 1))) ga 1) C dL_put_53 m_ga k_ga (inr_of (n := 7) l_ga (vp_lit (by decide))) (by decide) rfl ?_
  refine j_aload_n C dL_put_54 rfl 2 rfl ?_
  refine j_iconst (v := 2) C dL_put_55 (by decide) ?_
  show J _ _ _ _ _ 56 _
  refine j_iald (j := 2) (v := aI (tI (tI (tI S ga ((T % 20) / 4) (((aI S ga ((T % 20) / 4)) <<< (8 &&& 31)) ||| (nI (b9 % 256)))) ga 5 (nI ((T % 20) + 1))) ga 6 (nI (T + 1))) ga 2) C dL_put_56 m_ga k_ga (inr_of (n := 7) l_ga (vp_lit (by decide))) (by decide) rfl ?_
  refine j_aload_n C dL_put_57 rfl 2 rfl ?_
  refine j_iconst (v := 3) C dL_put_58 (by decide) ?_
  refine j_iald (j := 3) (v := aI (tI (tI (tI S ga ((T % 20) / 4) (((aI S ga ((T % 20) / 4)) <<< (8 &&& 31)) ||| (nI (b9 % 256)))) ga 5 (nI ((T % 20) + 1))) ga 6 (nI (T + 1))) ga 3) C dL_put_59 m_ga k_ga (inr_of (n := 7) l_ga (vp_lit (by decide))) (by decide) rfl ?_
  refine j_aload_n C dL_put_60 rfl 2 rfl ?_
  refine j_iconst (v := 4) C dL_put_61 (by decide) ?_
  refine j_iald (j := 4) (v := aI (tI (tI (tI S ga ((T % 20) / 4) (((aI S ga ((T % 20) / 4)) <<< (8 &&& 31)) ||| (nI (b9 % 256)))) ga 5 (nI ((T % 20) + 1))) ga 6 (nI (T + 1))) ga 4) C dL_put_62 m_ga k_ga (inr_of (n := 7) l_ga (vp_lit (by decide))) (by decide) rfl ?_
  have hf_1 : Fm (fun f9 b9 => (f9 = 1101 ∧ b9 = (ad 0))) (fun _ _ => False) (fun b9 => b9 = (ad 1) ∨ b9 = ga) S (tI (tI (tI S ga ((T % 20) / 4) (((aI S ga ((T % 20) / 4)) <<< (8 &&& 31)) ||| (nI (b9 % 256)))) ga 5 (nI ((T % 20) + 1))) ga 6 (nI (T + 1))) := ((((Fm.refl (WI := (fun f9 b9 => (f9 = 1101 ∧ b9 = (ad 0)))) (WR := (fun _ _ => False)) (WA := (fun b9 => b9 = (ad 1) ∨ b9 = ga))).tI _ _ (fun _ => (Or.inr rfl))).tI _ _ (fun _ => (Or.inr rfl))).tI _ _ (fun _ => (Or.inr rfl)))
  refine j_callV (ci := 11) C [.int (aI (tI (tI (tI S ga ((T % 20) / 4) (((aI S ga ((T % 20) / 4)) <<< (8 &&& 31)) ||| (nI (b9 % 256)))) ga 5 (nI ((T % 20) + 1))) ga 6 (nI (T + 1))) ga 0), .int (aI (tI (tI (tI S ga ((T % 20) / 4) (((aI S ga ((T % 20) / 4)) <<< (8 &&& 31)) ||| (nI (b9 % 256)))) ga 5 (nI ((T % 20) + 1))) ga 6 (nI (T + 1))) ga 1), .int (aI (tI (tI (tI S ga ((T % 20) / 4) (((aI S ga ((T % 20) / 4)) <<< (8 &&& 31)) ||| (nI (b9 % 256)))) ga 5 (nI ((T % 20) + 1))) ga 6 (nI (T + 1))) ga 2), .int (aI (tI (tI (tI S ga ((T % 20) / 4) (((aI S ga ((T % 20) / 4)) <<< (8 &&& 31)) ||| (nI (b9 % 256)))) ga 5 (nI ((T % 20) + 1))) ga 6 (nI (T + 1))) ga 3), .int (aI (tI (tI (tI S ga ((T % 20) / 4) (((aI S ga ((T % 20) / 4)) <<< (8 &&& 31)) ||| (nI (b9 % 256)))) ga 5 (nI ((T % 20) + 1))) ga 6 (nI (T + 1))) ga 4)] [] mlL_7 mcX11_feed (c_X11_feed (tI (tI (tI S ga ((T % 20) / 4) (((aI S ga ((T % 20) / 4)) <<< (8 &&& 31)) ||| (nI (b9 % 256)))) ga 5 (nI ((T % 20) + 1))) ga 6 (nI (T + 1))) ad hW (aI (tI (tI (tI S ga ((T % 20) / 4) (((aI S ga ((T % 20) / 4)) <<< (8 &&& 31)) ||| (nI (b9 % 256)))) ga 5 (nI ((T % 20) + 1))) ga 6 (nI (T + 1))) ga 0) (aI (tI (tI (tI S ga ((T % 20) / 4) (((aI S ga ((T % 20) / 4)) <<< (8 &&& 31)) ||| (nI (b9 % 256)))) ga 5 (nI ((T % 20) + 1))) ga 6 (nI (T + 1))) ga 1) (aI (tI (tI (tI S ga ((T % 20) / 4) (((aI S ga ((T % 20) / 4)) <<< (8 &&& 31)) ||| (nI (b9 % 256)))) ga 5 (nI ((T % 20) + 1))) ga 6 (nI (T + 1))) ga 2) (aI (tI (tI (tI S ga ((T % 20) / 4) (((aI S ga ((T % 20) / 4)) <<< (8 &&& 31)) ||| (nI (b9 % 256)))) ga 5 (nI ((T % 20) + 1))) ga 6 (nI (T + 1))) ga 3) (aI (tI (tI (tI S ga ((T % 20) / 4) (((aI S ga ((T % 20) / 4)) <<< (8 &&& 31)) ||| (nI (b9 % 256)))) ga 5 (nI ((T % 20) + 1))) ga 6 (nI (T + 1))) ga 4) (20 * (T / 20)) B (rxI_tI (S := (tI (tI S ga ((T % 20) / 4) (((aI S ga ((T % 20) / 4)) <<< (8 &&& 31)) ||| (nI (b9 % 256)))) ga 5 (nI ((T % 20) + 1)))) (rxI_tI (S := (tI S ga ((T % 20) / 4) (((aI S ga ((T % 20) / 4)) <<< (8 &&& 31)) ||| (nI (b9 % 256))))) (rxI_tI (S := S) hI_1101_ad0))) (by rw [show aI (tI (tI (tI S ga ((T % 20) / 4) (((aI S ga ((T % 20) / 4)) <<< (8 &&& 31)) ||| (nI (b9 % 256)))) ga 5 (nI ((T % 20) + 1))) ga 6 (nI (T + 1))) (ad 1) = aI S (ad 1) from ((ar_tI (S := (tI (tI S ga ((T % 20) / 4) (((aI S ga ((T % 20) / 4)) <<< (8 &&& 31)) ||| (nI (b9 % 256)))) ga 5 (nI ((T % 20) + 1)))) (Ne.symm (hga 1 (by decide)))).trans ((ar_tI (S := (tI S ga ((T % 20) / 4) (((aI S ga ((T % 20) / 4)) <<< (8 &&& 31)) ||| (nI (b9 % 256))))) (Ne.symm (hga 1 (by decide)))).trans (ar_tI (S := S) (Ne.symm (hga 1 (by decide))))))]; exact hs) (hq8 0 _ (by decide) (by omega)) (hq8 1 _ (by decide) (by omega)) (hq8 2 _ (by decide) (by omega)) (hq8 3 _ (by decide) (by omega)) (hq8 4 _ (by decide) (by omega)) hb (by omega)) (wm_0 (S := S) hW) (wk_0 (S := S) hW) rfl (M.rm (by decide) (by decide) (Nat.le_of_ble_eq_true rfl) (Nat.le_of_ble_eq_true rfl)) rfl rfl (Nat.le_of_ble_eq_true rfl) dL_put_63 (fun r_4 S_5 hp_6 => ?_)
  obtain ⟨rfl, hf_7, e_2, x_3⟩ := hp_6
  refine J.eq (st' := [.int (nI ((20 * (T / 20)) + 20))]) rfl rfl rfl ?_
  have hm_8 : ga ∈ hL S_5 := hf_7.mem m_ga
  have hk_9 : Kd S_5 ga 14 := hf_7.kd m_ga k_ga
  have hn_10 : Ln S_5 ga 7 := hf_7.ln m_ga l_ga
  have hf_11 : Fm (fun f9 b9 => (f9 = 1101 ∧ b9 = (ad 0))) (fun _ _ => False) (fun b9 => b9 = (ad 1) ∨ b9 = ga) S S_5 := hf_1.then hf_7 (fun a9 ha9 => ⟨(fun f9 h9 => (fun h8 => h8) h9), (fun f9 h9 => h9.elim), (fun h9 => (fun h8 => (Or.inl h8)) h9)⟩)
  have hW_12 : Wd ad S_5 := Wd.fm (Wd.tI (Wd.tI (Wd.tI hW))) hf_7 (by intro _ _ h9; exact h9) (by intro p9 hp9; simp only [wqL, List.mem_cons, List.not_mem_nil, or_false] at hp9; rcases hp9 with rfl | rfl <;> intro h9 <;> skip <;> exact absurd h9 (wn hW (by decide) (by decide) (by decide)))
  show J _ _ _ _ _ 66 _
  have hA6 : aI S_5 ga 6 = nI (T + 1) := (hf_7.ai m_ga (fun h9 => (hga 1 (by decide)) h9) 6).trans h59
  refine j_pop C dL_put_66 rfl ?_
  refine j_aload_n C dL_put_67 rfl 2 rfl ?_
  refine j_iconst (v := 5) C dL_put_68 (by decide) ?_
  refine j_iconst (v := 0) C dL_put_69 (by decide) ?_
  refine j_iast (j := 5) C dL_put_70 hm_8 hk_9 (inr_of (n := 7) hn_10 (vp_lit (by decide))) (by decide) ?_
  exact j_vret C M dL_put_71 (Nat.le_of_ble_eq_true rfl) (Nat.le_of_ble_eq_true rfl) ⟨rfl, (hf_11.tI _ _ (fun _ => (Or.inr rfl))), ((rxI_tI (S := S_5) e_2).trans (congrArg nI (by omega))), (by rw [show 20 * ((T + 1) / 20) = 20 * (T / 20) + 20 by omega]; exact (by rw [show aI (tI S_5 ga 5 (0 : Int32)) (ad 1) = aI S_5 (ad 1) from (ar_tI (S := S_5) (Ne.symm (hga 1 (by decide))))]; exact x_3)), (gs_new rd_tI0 (rd_tIj (by decide) hA6) (by omega))⟩

theorem c_put (S : Hp) (ad : Nat → Nat) (hW : Wd ad S) (ga : Nat) (m_ga : ga ∈ hL S) (k_ga : Kd S ga 14) (l_ga : Ln S ga 7) (hga : ∀ i, i < 37 → ga ≠ ad i) (B : Nat → Nat) (T : Nat) (h1 : hI S 1101 (ad 0) = nI (20 * (T / 20))) (hs : STR (aI S (ad 1)) B (20 * (T / 20))) (hgs : GS (aI S ga) B T) (hb : ∀ j, B j < 128) (b9 : Nat) (hbT : B T = b9) (hT : T < 7900) :
    Ct 3 yL_put cL_put 4 none 0 0 [.ref (ad 0), .ref ga, .int (nI b9)] S (fun r S' => r = none ∧ Fm (fun f9 b9 => (f9 = 1101 ∧ b9 = (ad 0))) (fun _ _ => False) (fun b9 => b9 = (ad 1) ∨ b9 = ga) S S' ∧ hI S' 1101 (ad 0) = nI (20 * ((T + 1) / 20)) ∧ STR (aI S' (ad 1)) B (20 * ((T + 1) / 20)) ∧ GS (aI S' ga) B (T + 1)) := by
  have hb8 : b9 < 128 := hbT ▸ hb T
  by_cases hm : T % 20 = 19
  · exact c_put1 S ad hW ga m_ga k_ga l_ga hga B T h1 hs hgs hb b9 hbT hb8 hT hm
  · exact c_put0 S ad hW ga m_ga k_ga l_ga hga B T h1 hs hgs hb b9 hbT hb8 hT hm

theorem dL_say_0 : decode cL_say 0 = .ok (.lload_n 2, 1) := by decide +kernel
theorem dL_say_1 : decode cL_say 1 = .ok (.lstore 4, 2) := by decide +kernel
theorem dL_say_3 : decode cL_say 3 = .ok (.lload 4, 2) := by decide +kernel
theorem dL_say_5 : decode cL_say 5 = .ok (.lconst 0, 1) := by decide +kernel
theorem dL_say_6 : decode cL_say 6 = .ok (.lcmp, 1) := by decide +kernel
theorem dL_say_7 : decode cL_say 7 = .ok (.ifCond .eq 25, 3) := by decide +kernel
theorem dL_say_10 : decode cL_say 10 = .ok (.aload_n 0, 1) := by decide +kernel
theorem dL_say_11 : decode cL_say 11 = .ok (.aload_n 1, 1) := by decide +kernel
theorem dL_say_12 : decode cL_say 12 = .ok (.lload 4, 2) := by decide +kernel
theorem dL_say_14 : decode cL_say 14 = .ok (.ldc2_w 13, 3) := by decide +kernel
theorem dL_say_17 : decode cL_say 17 = .ok (.land, 1) := by decide +kernel
theorem dL_say_18 : decode cL_say 18 = .ok (.l2i, 1) := by decide +kernel
theorem dL_say_19 : decode cL_say 19 = .ok (.invokestatic 15, 3) := by decide +kernel
theorem dL_say_22 : decode cL_say 22 = .ok (.lload 4, 2) := by decide +kernel
theorem dL_say_24 : decode cL_say 24 = .ok (.bipush 8, 2) := by decide +kernel
theorem dL_say_26 : decode cL_say 26 = .ok (.lushr, 1) := by decide +kernel
theorem dL_say_27 : decode cL_say 27 = .ok (.lstore 4, 2) := by decide +kernel
theorem dL_say_29 : decode cL_say 29 = .ok (.goto (-26), 3) := by decide +kernel
theorem dL_say_32 : decode cL_say 32 = .ok (.return_, 1) := by decide +kernel

set_option maxRecDepth 100000 in
set_option maxHeartbeats 4000000 in
theorem c_say279985268251 (S : Hp) (ad : Nat → Nat) (hW : Wd ad S) (ga : Nat) (m_ga : ga ∈ hL S) (k_ga : Kd S ga 14) (l_ga : Ln S ga 7) (hga : ∀ i, i < 37 → ga ≠ ad i) (B : Nat → Nat) (T : Nat) (hI_1101_ad0 : hI S 1101 (ad 0) = nI (20 * (T / 20))) (hs : STR (aI S (ad 1)) B (20 * (T / 20))) (hgs : GS (aI S ga) B T) (hb : ∀ j, B j < 128) (b0 : B (T) = 27) (b1 : B (T + 1) = 38) (b2 : B ((T + 1) + 1) = 108) (b3 : B (((T + 1) + 1) + 1) = 48) (b4 : B ((((T + 1) + 1) + 1) + 1) = 65) (hT : T < 7800) : Ct 4 yL_say cL_say 6 none 0 0 [.ref (ad 0), .ref ga, .long 279985268251] S (fun r S' => r = none ∧ Fm (fun f9 b9 => (f9 = 1101 ∧ b9 = (ad 0))) (fun _ _ => False) (fun b9 => b9 = (ad 1) ∨ b9 = ga) S S' ∧ hI S' 1101 (ad 0) = nI (20 * ((T + 5) / 20)) ∧ STR (aI S' (ad 1)) B (20 * ((T + 5) / 20)) ∧ GS (aI S' ga) B (T + 5)) := by
  refine ct_of (by decide) (Nat.le_of_ble_eq_true rfl) fun x hn9 C M hm9 => ?_
  have C : CB x RL cL_say := C
  refine J.eq (lv' := [(0, .ref (ad 0)), (1, .ref ga), (2, .long 279985268251)]) rfl rfl rfl ?_
  refine j_lload_n C dL_say_0 rfl 2 rfl ?_
  refine j_lstore (lv' := [(4, .long 279985268251), (0, .ref (ad 0)), (1, .ref ga), (2, .long 279985268251)]) C dL_say_1 (by rw [hn9]; decide) rfl ?_
  refine j_lload C dL_say_3 0 rfl ?_
  refine j_lconst (v := 0) C dL_say_5 (by decide) ?_
  refine j_lcmp C dL_say_6 ?_
  refine j_if_eq (tgt := 32) C dL_say_7 (by decide) (fun c_7 => absurd c_7 (by decide)) (fun c_7 => ?_)
  refine j_aload_n C dL_say_10 rfl 1 rfl ?_
  refine j_aload_n C dL_say_11 rfl 2 rfl ?_
  show J _ _ _ _ _ 12 _
  refine j_lload C dL_say_12 0 rfl ?_
  refine j_ldc2 (v := 255) C dL_say_14 kcL_13 ?_
  refine j_land (v := 27) C dL_say_17 (by decide) ?_
  refine j_l2i (v := 27) C dL_say_18 (by decide) ?_
  refine j_callS C [.ref (ad 0), .ref ga, .int 27] [] mlL_15 mcL_put (c_put S ad hW ga m_ga k_ga l_ga hga B T hI_1101_ad0 hs hgs hb 27 b0 (by omega)) (M.rm (by decide) (by decide) (Nat.le_of_ble_eq_true rfl) (Nat.le_of_ble_eq_true rfl)) rfl rfl (Nat.le_of_ble_eq_true rfl) dL_say_19 (fun r_4 S_5 hp_6 => ?_)
  obtain ⟨rfl, hf_7, e_1, x_2, x_3⟩ := hp_6
  refine J.eq (st' := []) rfl rfl rfl ?_
  have hm_8 : ga ∈ hL S_5 := hf_7.mem m_ga
  have hk_9 : Kd S_5 ga 14 := hf_7.kd m_ga k_ga
  have hn_10 : Ln S_5 ga 7 := hf_7.ln m_ga l_ga
  have hf_11 : Fm (fun f9 b9 => (f9 = 1101 ∧ b9 = (ad 0))) (fun _ _ => False) (fun b9 => b9 = (ad 1) ∨ b9 = ga) S S_5 := (Fm.refl (WI := (fun f9 b9 => (f9 = 1101 ∧ b9 = (ad 0)))) (WR := (fun _ _ => False)) (WA := (fun b9 => b9 = (ad 1) ∨ b9 = ga))).then hf_7 (fun a9 ha9 => ⟨(fun f9 h9 => (fun h8 => h8) h9), (fun f9 h9 => h9.elim), (fun h9 => (fun h9 => h9.elim (fun h8 => (Or.inl h8)) (fun h8 => (Or.inr h8))) h9)⟩)
  have hW_12 : Wd ad S_5 := hW.fm hf_7 (by intro _ _ h9; exact h9) (by intro p9 hp9; simp only [wqL, List.mem_cons, List.not_mem_nil, or_false] at hp9; rcases hp9 with rfl | rfl <;> intro h9 <;> rcases h9 with h9 | h9 <;> (first | exact absurd h9 (wn hW (by decide) (by decide) (by decide)) | exact absurd h9.symm (hga _ (by decide))))
  refine j_lload C dL_say_22 0 rfl ?_
  refine j_bipush (v := 8) C dL_say_24 (by decide) ?_
  refine j_lushr (v := 1093692454) C dL_say_26 (by decide) ?_
  show J _ _ _ _ _ 27 _
  refine j_lstore (lv' := [(4, .long 1093692454), (0, .ref (ad 0)), (1, .ref ga), (2, .long 279985268251)]) C dL_say_27 (by rw [hn9]; decide) rfl ?_
  refine j_goto (tgt := 3) C dL_say_29 (by decide) ?_
  refine j_lload C dL_say_3 0 rfl ?_
  refine j_lconst (v := 0) C dL_say_5 (by decide) ?_
  refine j_lcmp C dL_say_6 ?_
  refine j_if_eq (tgt := 32) C dL_say_7 (by decide) (fun c_7 => absurd c_7 (by decide)) (fun c_7 => ?_)
  refine j_aload_n C dL_say_10 rfl 1 rfl ?_
  refine j_aload_n C dL_say_11 rfl 2 rfl ?_
  show J _ _ _ _ _ 12 _
  refine j_lload C dL_say_12 0 rfl ?_
  refine j_ldc2 (v := 255) C dL_say_14 kcL_13 ?_
  refine j_land (v := 38) C dL_say_17 (by decide) ?_
  refine j_l2i (v := 38) C dL_say_18 (by decide) ?_
  refine j_callS C [.ref (ad 0), .ref ga, .int 38] [] mlL_15 mcL_put (c_put S_5 ad hW_12 ga hm_8 hk_9 hn_10 hga B (T + 1) e_1 x_2 x_3 hb 38 b1 (by omega)) (M.rm (by decide) (by decide) (Nat.le_of_ble_eq_true rfl) (Nat.le_of_ble_eq_true rfl)) rfl rfl (Nat.le_of_ble_eq_true rfl) dL_say_19 (fun r_16 S_17 hp_18 => ?_)
  obtain ⟨rfl, hf_19, e_13, x_14, x_15⟩ := hp_18
  refine J.eq (st' := []) rfl rfl rfl ?_
  have hm_20 : ga ∈ hL S_17 := hf_19.mem hm_8
  have hk_21 : Kd S_17 ga 14 := hf_19.kd hm_8 hk_9
  have hn_22 : Ln S_17 ga 7 := hf_19.ln hm_8 hn_10
  have hf_23 : Fm (fun f9 b9 => (f9 = 1101 ∧ b9 = (ad 0))) (fun _ _ => False) (fun b9 => b9 = (ad 1) ∨ b9 = ga) S S_17 := hf_11.then hf_19 (fun a9 ha9 => ⟨(fun f9 h9 => (fun h8 => h8) h9), (fun f9 h9 => h9.elim), (fun h9 => (fun h9 => h9.elim (fun h8 => (Or.inl h8)) (fun h8 => (Or.inr h8))) h9)⟩)
  have hW_24 : Wd ad S_17 := hW_12.fm hf_19 (by intro _ _ h9; exact h9) (by intro p9 hp9; simp only [wqL, List.mem_cons, List.not_mem_nil, or_false] at hp9; rcases hp9 with rfl | rfl <;> intro h9 <;> rcases h9 with h9 | h9 <;> (first | exact absurd h9 (wn hW_12 (by decide) (by decide) (by decide)) | exact absurd h9.symm (hga _ (by decide))))
  refine j_lload C dL_say_22 0 rfl ?_
  refine j_bipush (v := 8) C dL_say_24 (by decide) ?_
  refine j_lushr (v := 4272236) C dL_say_26 (by decide) ?_
  show J _ _ _ _ _ 27 _
  refine j_lstore (lv' := [(4, .long 4272236), (0, .ref (ad 0)), (1, .ref ga), (2, .long 279985268251)]) C dL_say_27 (by rw [hn9]; decide) rfl ?_
  refine j_goto (tgt := 3) C dL_say_29 (by decide) ?_
  refine j_lload C dL_say_3 0 rfl ?_
  refine j_lconst (v := 0) C dL_say_5 (by decide) ?_
  refine j_lcmp C dL_say_6 ?_
  refine j_if_eq (tgt := 32) C dL_say_7 (by decide) (fun c_7 => absurd c_7 (by decide)) (fun c_7 => ?_)
  refine j_aload_n C dL_say_10 rfl 1 rfl ?_
  refine j_aload_n C dL_say_11 rfl 2 rfl ?_
  show J _ _ _ _ _ 12 _
  refine j_lload C dL_say_12 0 rfl ?_
  refine j_ldc2 (v := 255) C dL_say_14 kcL_13 ?_
  refine j_land (v := 108) C dL_say_17 (by decide) ?_
  refine j_l2i (v := 108) C dL_say_18 (by decide) ?_
  refine j_callS C [.ref (ad 0), .ref ga, .int 108] [] mlL_15 mcL_put (c_put S_17 ad hW_24 ga hm_20 hk_21 hn_22 hga B ((T + 1) + 1) e_13 x_14 x_15 hb 108 b2 (by omega)) (M.rm (by decide) (by decide) (Nat.le_of_ble_eq_true rfl) (Nat.le_of_ble_eq_true rfl)) rfl rfl (Nat.le_of_ble_eq_true rfl) dL_say_19 (fun r_28 S_29 hp_30 => ?_)
  obtain ⟨rfl, hf_31, e_25, x_26, x_27⟩ := hp_30
  refine J.eq (st' := []) rfl rfl rfl ?_
  have hm_32 : ga ∈ hL S_29 := hf_31.mem hm_20
  have hk_33 : Kd S_29 ga 14 := hf_31.kd hm_20 hk_21
  have hn_34 : Ln S_29 ga 7 := hf_31.ln hm_20 hn_22
  have hf_35 : Fm (fun f9 b9 => (f9 = 1101 ∧ b9 = (ad 0))) (fun _ _ => False) (fun b9 => b9 = (ad 1) ∨ b9 = ga) S S_29 := hf_23.then hf_31 (fun a9 ha9 => ⟨(fun f9 h9 => (fun h8 => h8) h9), (fun f9 h9 => h9.elim), (fun h9 => (fun h9 => h9.elim (fun h8 => (Or.inl h8)) (fun h8 => (Or.inr h8))) h9)⟩)
  have hW_36 : Wd ad S_29 := hW_24.fm hf_31 (by intro _ _ h9; exact h9) (by intro p9 hp9; simp only [wqL, List.mem_cons, List.not_mem_nil, or_false] at hp9; rcases hp9 with rfl | rfl <;> intro h9 <;> rcases h9 with h9 | h9 <;> (first | exact absurd h9 (wn hW_24 (by decide) (by decide) (by decide)) | exact absurd h9.symm (hga _ (by decide))))
  refine j_lload C dL_say_22 0 rfl ?_
  refine j_bipush (v := 8) C dL_say_24 (by decide) ?_
  refine j_lushr (v := 16688) C dL_say_26 (by decide) ?_
  show J _ _ _ _ _ 27 _
  refine j_lstore (lv' := [(4, .long 16688), (0, .ref (ad 0)), (1, .ref ga), (2, .long 279985268251)]) C dL_say_27 (by rw [hn9]; decide) rfl ?_
  refine j_goto (tgt := 3) C dL_say_29 (by decide) ?_
  refine j_lload C dL_say_3 0 rfl ?_
  refine j_lconst (v := 0) C dL_say_5 (by decide) ?_
  refine j_lcmp C dL_say_6 ?_
  refine j_if_eq (tgt := 32) C dL_say_7 (by decide) (fun c_7 => absurd c_7 (by decide)) (fun c_7 => ?_)
  refine j_aload_n C dL_say_10 rfl 1 rfl ?_
  refine j_aload_n C dL_say_11 rfl 2 rfl ?_
  show J _ _ _ _ _ 12 _
  refine j_lload C dL_say_12 0 rfl ?_
  refine j_ldc2 (v := 255) C dL_say_14 kcL_13 ?_
  refine j_land (v := 48) C dL_say_17 (by decide) ?_
  refine j_l2i (v := 48) C dL_say_18 (by decide) ?_
  refine j_callS C [.ref (ad 0), .ref ga, .int 48] [] mlL_15 mcL_put (c_put S_29 ad hW_36 ga hm_32 hk_33 hn_34 hga B (((T + 1) + 1) + 1) e_25 x_26 x_27 hb 48 b3 (by omega)) (M.rm (by decide) (by decide) (Nat.le_of_ble_eq_true rfl) (Nat.le_of_ble_eq_true rfl)) rfl rfl (Nat.le_of_ble_eq_true rfl) dL_say_19 (fun r_40 S_41 hp_42 => ?_)
  obtain ⟨rfl, hf_43, e_37, x_38, x_39⟩ := hp_42
  refine J.eq (st' := []) rfl rfl rfl ?_
  have hm_44 : ga ∈ hL S_41 := hf_43.mem hm_32
  have hk_45 : Kd S_41 ga 14 := hf_43.kd hm_32 hk_33
  have hn_46 : Ln S_41 ga 7 := hf_43.ln hm_32 hn_34
  have hf_47 : Fm (fun f9 b9 => (f9 = 1101 ∧ b9 = (ad 0))) (fun _ _ => False) (fun b9 => b9 = (ad 1) ∨ b9 = ga) S S_41 := hf_35.then hf_43 (fun a9 ha9 => ⟨(fun f9 h9 => (fun h8 => h8) h9), (fun f9 h9 => h9.elim), (fun h9 => (fun h9 => h9.elim (fun h8 => (Or.inl h8)) (fun h8 => (Or.inr h8))) h9)⟩)
  have hW_48 : Wd ad S_41 := hW_36.fm hf_43 (by intro _ _ h9; exact h9) (by intro p9 hp9; simp only [wqL, List.mem_cons, List.not_mem_nil, or_false] at hp9; rcases hp9 with rfl | rfl <;> intro h9 <;> rcases h9 with h9 | h9 <;> (first | exact absurd h9 (wn hW_36 (by decide) (by decide) (by decide)) | exact absurd h9.symm (hga _ (by decide))))
  refine j_lload C dL_say_22 0 rfl ?_
  refine j_bipush (v := 8) C dL_say_24 (by decide) ?_
  refine j_lushr (v := 65) C dL_say_26 (by decide) ?_
  show J _ _ _ _ _ 27 _
  refine j_lstore (lv' := [(4, .long 65), (0, .ref (ad 0)), (1, .ref ga), (2, .long 279985268251)]) C dL_say_27 (by rw [hn9]; decide) rfl ?_
  refine j_goto (tgt := 3) C dL_say_29 (by decide) ?_
  refine j_lload C dL_say_3 0 rfl ?_
  refine j_lconst (v := 0) C dL_say_5 (by decide) ?_
  refine j_lcmp C dL_say_6 ?_
  refine j_if_eq (tgt := 32) C dL_say_7 (by decide) (fun c_7 => absurd c_7 (by decide)) (fun c_7 => ?_)
  refine j_aload_n C dL_say_10 rfl 1 rfl ?_
  refine j_aload_n C dL_say_11 rfl 2 rfl ?_
  show J _ _ _ _ _ 12 _
  refine j_lload C dL_say_12 0 rfl ?_
  refine j_ldc2 (v := 255) C dL_say_14 kcL_13 ?_
  refine j_land (v := 65) C dL_say_17 (by decide) ?_
  refine j_l2i (v := 65) C dL_say_18 (by decide) ?_
  refine j_callS C [.ref (ad 0), .ref ga, .int 65] [] mlL_15 mcL_put (c_put S_41 ad hW_48 ga hm_44 hk_45 hn_46 hga B ((((T + 1) + 1) + 1) + 1) e_37 x_38 x_39 hb 65 b4 (by omega)) (M.rm (by decide) (by decide) (Nat.le_of_ble_eq_true rfl) (Nat.le_of_ble_eq_true rfl)) rfl rfl (Nat.le_of_ble_eq_true rfl) dL_say_19 (fun r_52 S_53 hp_54 => ?_)
  obtain ⟨rfl, hf_55, e_49, x_50, x_51⟩ := hp_54
  refine J.eq (st' := []) rfl rfl rfl ?_
  have hm_56 : ga ∈ hL S_53 := hf_55.mem hm_44
  have hk_57 : Kd S_53 ga 14 := hf_55.kd hm_44 hk_45
  have hn_58 : Ln S_53 ga 7 := hf_55.ln hm_44 hn_46
  have hf_59 : Fm (fun f9 b9 => (f9 = 1101 ∧ b9 = (ad 0))) (fun _ _ => False) (fun b9 => b9 = (ad 1) ∨ b9 = ga) S S_53 := hf_47.then hf_55 (fun a9 ha9 => ⟨(fun f9 h9 => (fun h8 => h8) h9), (fun f9 h9 => h9.elim), (fun h9 => (fun h9 => h9.elim (fun h8 => (Or.inl h8)) (fun h8 => (Or.inr h8))) h9)⟩)
  have hW_60 : Wd ad S_53 := hW_48.fm hf_55 (by intro _ _ h9; exact h9) (by intro p9 hp9; simp only [wqL, List.mem_cons, List.not_mem_nil, or_false] at hp9; rcases hp9 with rfl | rfl <;> intro h9 <;> rcases h9 with h9 | h9 <;> (first | exact absurd h9 (wn hW_48 (by decide) (by decide) (by decide)) | exact absurd h9.symm (hga _ (by decide))))
  refine j_lload C dL_say_22 0 rfl ?_
  refine j_bipush (v := 8) C dL_say_24 (by decide) ?_
  refine j_lushr (v := 0) C dL_say_26 (by decide) ?_
  show J _ _ _ _ _ 27 _
  refine j_lstore (lv' := [(4, .long 0), (0, .ref (ad 0)), (1, .ref ga), (2, .long 279985268251)]) C dL_say_27 (by rw [hn9]; decide) rfl ?_
  refine j_goto (tgt := 3) C dL_say_29 (by decide) ?_
  refine j_lload C dL_say_3 0 rfl ?_
  refine j_lconst (v := 0) C dL_say_5 (by decide) ?_
  refine j_lcmp C dL_say_6 ?_
  refine j_if_eq (tgt := 32) C dL_say_7 (by decide) (fun c_7 => ?_) (fun c_7 => absurd (by decide) c_7)
  exact j_vret C M dL_say_32 (Nat.le_of_ble_eq_true rfl) (Nat.le_of_ble_eq_true rfl) ⟨rfl, hf_59, e_49, x_50, x_51⟩

set_option maxRecDepth 100000 in
set_option maxHeartbeats 4000000 in
theorem c_say7350811 (S : Hp) (ad : Nat → Nat) (hW : Wd ad S) (ga : Nat) (m_ga : ga ∈ hL S) (k_ga : Kd S ga 14) (l_ga : Ln S ga 7) (hga : ∀ i, i < 37 → ga ≠ ad i) (B : Nat → Nat) (T : Nat) (hI_1101_ad0 : hI S 1101 (ad 0) = nI (20 * (T / 20))) (hs : STR (aI S (ad 1)) B (20 * (T / 20))) (hgs : GS (aI S ga) B T) (hb : ∀ j, B j < 128) (b0 : B (T) = 27) (b1 : B (T + 1) = 42) (b2 : B ((T + 1) + 1) = 112) (hT : T < 7800) : Ct 4 yL_say cL_say 6 none 0 0 [.ref (ad 0), .ref ga, .long 7350811] S (fun r S' => r = none ∧ Fm (fun f9 b9 => (f9 = 1101 ∧ b9 = (ad 0))) (fun _ _ => False) (fun b9 => b9 = (ad 1) ∨ b9 = ga) S S' ∧ hI S' 1101 (ad 0) = nI (20 * ((T + 3) / 20)) ∧ STR (aI S' (ad 1)) B (20 * ((T + 3) / 20)) ∧ GS (aI S' ga) B (T + 3)) := by
  refine ct_of (by decide) (Nat.le_of_ble_eq_true rfl) fun x hn9 C M hm9 => ?_
  have C : CB x RL cL_say := C
  refine J.eq (lv' := [(0, .ref (ad 0)), (1, .ref ga), (2, .long 7350811)]) rfl rfl rfl ?_
  refine j_lload_n C dL_say_0 rfl 2 rfl ?_
  refine j_lstore (lv' := [(4, .long 7350811), (0, .ref (ad 0)), (1, .ref ga), (2, .long 7350811)]) C dL_say_1 (by rw [hn9]; decide) rfl ?_
  refine j_lload C dL_say_3 0 rfl ?_
  refine j_lconst (v := 0) C dL_say_5 (by decide) ?_
  refine j_lcmp C dL_say_6 ?_
  refine j_if_eq (tgt := 32) C dL_say_7 (by decide) (fun c_7 => absurd c_7 (by decide)) (fun c_7 => ?_)
  refine j_aload_n C dL_say_10 rfl 1 rfl ?_
  refine j_aload_n C dL_say_11 rfl 2 rfl ?_
  show J _ _ _ _ _ 12 _
  refine j_lload C dL_say_12 0 rfl ?_
  refine j_ldc2 (v := 255) C dL_say_14 kcL_13 ?_
  refine j_land (v := 27) C dL_say_17 (by decide) ?_
  refine j_l2i (v := 27) C dL_say_18 (by decide) ?_
  refine j_callS C [.ref (ad 0), .ref ga, .int 27] [] mlL_15 mcL_put (c_put S ad hW ga m_ga k_ga l_ga hga B T hI_1101_ad0 hs hgs hb 27 b0 (by omega)) (M.rm (by decide) (by decide) (Nat.le_of_ble_eq_true rfl) (Nat.le_of_ble_eq_true rfl)) rfl rfl (Nat.le_of_ble_eq_true rfl) dL_say_19 (fun r_4 S_5 hp_6 => ?_)
  obtain ⟨rfl, hf_7, e_1, x_2, x_3⟩ := hp_6
  refine J.eq (st' := []) rfl rfl rfl ?_
  have hm_8 : ga ∈ hL S_5 := hf_7.mem m_ga
  have hk_9 : Kd S_5 ga 14 := hf_7.kd m_ga k_ga
  have hn_10 : Ln S_5 ga 7 := hf_7.ln m_ga l_ga
  have hf_11 : Fm (fun f9 b9 => (f9 = 1101 ∧ b9 = (ad 0))) (fun _ _ => False) (fun b9 => b9 = (ad 1) ∨ b9 = ga) S S_5 := (Fm.refl (WI := (fun f9 b9 => (f9 = 1101 ∧ b9 = (ad 0)))) (WR := (fun _ _ => False)) (WA := (fun b9 => b9 = (ad 1) ∨ b9 = ga))).then hf_7 (fun a9 ha9 => ⟨(fun f9 h9 => (fun h8 => h8) h9), (fun f9 h9 => h9.elim), (fun h9 => (fun h9 => h9.elim (fun h8 => (Or.inl h8)) (fun h8 => (Or.inr h8))) h9)⟩)
  have hW_12 : Wd ad S_5 := hW.fm hf_7 (by intro _ _ h9; exact h9) (by intro p9 hp9; simp only [wqL, List.mem_cons, List.not_mem_nil, or_false] at hp9; rcases hp9 with rfl | rfl <;> intro h9 <;> rcases h9 with h9 | h9 <;> (first | exact absurd h9 (wn hW (by decide) (by decide) (by decide)) | exact absurd h9.symm (hga _ (by decide))))
  refine j_lload C dL_say_22 0 rfl ?_
  refine j_bipush (v := 8) C dL_say_24 (by decide) ?_
  refine j_lushr (v := 28714) C dL_say_26 (by decide) ?_
  show J _ _ _ _ _ 27 _
  refine j_lstore (lv' := [(4, .long 28714), (0, .ref (ad 0)), (1, .ref ga), (2, .long 7350811)]) C dL_say_27 (by rw [hn9]; decide) rfl ?_
  refine j_goto (tgt := 3) C dL_say_29 (by decide) ?_
  refine j_lload C dL_say_3 0 rfl ?_
  refine j_lconst (v := 0) C dL_say_5 (by decide) ?_
  refine j_lcmp C dL_say_6 ?_
  refine j_if_eq (tgt := 32) C dL_say_7 (by decide) (fun c_7 => absurd c_7 (by decide)) (fun c_7 => ?_)
  refine j_aload_n C dL_say_10 rfl 1 rfl ?_
  refine j_aload_n C dL_say_11 rfl 2 rfl ?_
  show J _ _ _ _ _ 12 _
  refine j_lload C dL_say_12 0 rfl ?_
  refine j_ldc2 (v := 255) C dL_say_14 kcL_13 ?_
  refine j_land (v := 42) C dL_say_17 (by decide) ?_
  refine j_l2i (v := 42) C dL_say_18 (by decide) ?_
  refine j_callS C [.ref (ad 0), .ref ga, .int 42] [] mlL_15 mcL_put (c_put S_5 ad hW_12 ga hm_8 hk_9 hn_10 hga B (T + 1) e_1 x_2 x_3 hb 42 b1 (by omega)) (M.rm (by decide) (by decide) (Nat.le_of_ble_eq_true rfl) (Nat.le_of_ble_eq_true rfl)) rfl rfl (Nat.le_of_ble_eq_true rfl) dL_say_19 (fun r_16 S_17 hp_18 => ?_)
  obtain ⟨rfl, hf_19, e_13, x_14, x_15⟩ := hp_18
  refine J.eq (st' := []) rfl rfl rfl ?_
  have hm_20 : ga ∈ hL S_17 := hf_19.mem hm_8
  have hk_21 : Kd S_17 ga 14 := hf_19.kd hm_8 hk_9
  have hn_22 : Ln S_17 ga 7 := hf_19.ln hm_8 hn_10
  have hf_23 : Fm (fun f9 b9 => (f9 = 1101 ∧ b9 = (ad 0))) (fun _ _ => False) (fun b9 => b9 = (ad 1) ∨ b9 = ga) S S_17 := hf_11.then hf_19 (fun a9 ha9 => ⟨(fun f9 h9 => (fun h8 => h8) h9), (fun f9 h9 => h9.elim), (fun h9 => (fun h9 => h9.elim (fun h8 => (Or.inl h8)) (fun h8 => (Or.inr h8))) h9)⟩)
  have hW_24 : Wd ad S_17 := hW_12.fm hf_19 (by intro _ _ h9; exact h9) (by intro p9 hp9; simp only [wqL, List.mem_cons, List.not_mem_nil, or_false] at hp9; rcases hp9 with rfl | rfl <;> intro h9 <;> rcases h9 with h9 | h9 <;> (first | exact absurd h9 (wn hW_12 (by decide) (by decide) (by decide)) | exact absurd h9.symm (hga _ (by decide))))
  refine j_lload C dL_say_22 0 rfl ?_
  refine j_bipush (v := 8) C dL_say_24 (by decide) ?_
  refine j_lushr (v := 112) C dL_say_26 (by decide) ?_
  show J _ _ _ _ _ 27 _
  refine j_lstore (lv' := [(4, .long 112), (0, .ref (ad 0)), (1, .ref ga), (2, .long 7350811)]) C dL_say_27 (by rw [hn9]; decide) rfl ?_
  refine j_goto (tgt := 3) C dL_say_29 (by decide) ?_
  refine j_lload C dL_say_3 0 rfl ?_
  refine j_lconst (v := 0) C dL_say_5 (by decide) ?_
  refine j_lcmp C dL_say_6 ?_
  refine j_if_eq (tgt := 32) C dL_say_7 (by decide) (fun c_7 => absurd c_7 (by decide)) (fun c_7 => ?_)
  refine j_aload_n C dL_say_10 rfl 1 rfl ?_
  refine j_aload_n C dL_say_11 rfl 2 rfl ?_
  show J _ _ _ _ _ 12 _
  refine j_lload C dL_say_12 0 rfl ?_
  refine j_ldc2 (v := 255) C dL_say_14 kcL_13 ?_
  refine j_land (v := 112) C dL_say_17 (by decide) ?_
  refine j_l2i (v := 112) C dL_say_18 (by decide) ?_
  refine j_callS C [.ref (ad 0), .ref ga, .int 112] [] mlL_15 mcL_put (c_put S_17 ad hW_24 ga hm_20 hk_21 hn_22 hga B ((T + 1) + 1) e_13 x_14 x_15 hb 112 b2 (by omega)) (M.rm (by decide) (by decide) (Nat.le_of_ble_eq_true rfl) (Nat.le_of_ble_eq_true rfl)) rfl rfl (Nat.le_of_ble_eq_true rfl) dL_say_19 (fun r_28 S_29 hp_30 => ?_)
  obtain ⟨rfl, hf_31, e_25, x_26, x_27⟩ := hp_30
  refine J.eq (st' := []) rfl rfl rfl ?_
  have hm_32 : ga ∈ hL S_29 := hf_31.mem hm_20
  have hk_33 : Kd S_29 ga 14 := hf_31.kd hm_20 hk_21
  have hn_34 : Ln S_29 ga 7 := hf_31.ln hm_20 hn_22
  have hf_35 : Fm (fun f9 b9 => (f9 = 1101 ∧ b9 = (ad 0))) (fun _ _ => False) (fun b9 => b9 = (ad 1) ∨ b9 = ga) S S_29 := hf_23.then hf_31 (fun a9 ha9 => ⟨(fun f9 h9 => (fun h8 => h8) h9), (fun f9 h9 => h9.elim), (fun h9 => (fun h9 => h9.elim (fun h8 => (Or.inl h8)) (fun h8 => (Or.inr h8))) h9)⟩)
  have hW_36 : Wd ad S_29 := hW_24.fm hf_31 (by intro _ _ h9; exact h9) (by intro p9 hp9; simp only [wqL, List.mem_cons, List.not_mem_nil, or_false] at hp9; rcases hp9 with rfl | rfl <;> intro h9 <;> rcases h9 with h9 | h9 <;> (first | exact absurd h9 (wn hW_24 (by decide) (by decide) (by decide)) | exact absurd h9.symm (hga _ (by decide))))
  refine j_lload C dL_say_22 0 rfl ?_
  refine j_bipush (v := 8) C dL_say_24 (by decide) ?_
  refine j_lushr (v := 0) C dL_say_26 (by decide) ?_
  show J _ _ _ _ _ 27 _
  refine j_lstore (lv' := [(4, .long 0), (0, .ref (ad 0)), (1, .ref ga), (2, .long 7350811)]) C dL_say_27 (by rw [hn9]; decide) rfl ?_
  refine j_goto (tgt := 3) C dL_say_29 (by decide) ?_
  refine j_lload C dL_say_3 0 rfl ?_
  refine j_lconst (v := 0) C dL_say_5 (by decide) ?_
  refine j_lcmp C dL_say_6 ?_
  refine j_if_eq (tgt := 32) C dL_say_7 (by decide) (fun c_7 => ?_) (fun c_7 => absurd (by decide) c_7)
  exact j_vret C M dL_say_32 (Nat.le_of_ble_eq_true rfl) (Nat.le_of_ble_eq_true rfl) ⟨rfl, hf_35, e_25, x_26, x_27⟩

set_option maxRecDepth 100000 in
set_option maxHeartbeats 4000000 in
theorem c_say7744027 (S : Hp) (ad : Nat → Nat) (hW : Wd ad S) (ga : Nat) (m_ga : ga ∈ hL S) (k_ga : Kd S ga 14) (l_ga : Ln S ga 7) (hga : ∀ i, i < 37 → ga ≠ ad i) (B : Nat → Nat) (T : Nat) (hI_1101_ad0 : hI S 1101 (ad 0) = nI (20 * (T / 20))) (hs : STR (aI S (ad 1)) B (20 * (T / 20))) (hgs : GS (aI S ga) B T) (hb : ∀ j, B j < 128) (b0 : B (T) = 27) (b1 : B (T + 1) = 42) (b2 : B ((T + 1) + 1) = 118) (hT : T < 7800) : Ct 4 yL_say cL_say 6 none 0 0 [.ref (ad 0), .ref ga, .long 7744027] S (fun r S' => r = none ∧ Fm (fun f9 b9 => (f9 = 1101 ∧ b9 = (ad 0))) (fun _ _ => False) (fun b9 => b9 = (ad 1) ∨ b9 = ga) S S' ∧ hI S' 1101 (ad 0) = nI (20 * ((T + 3) / 20)) ∧ STR (aI S' (ad 1)) B (20 * ((T + 3) / 20)) ∧ GS (aI S' ga) B (T + 3)) := by
  refine ct_of (by decide) (Nat.le_of_ble_eq_true rfl) fun x hn9 C M hm9 => ?_
  have C : CB x RL cL_say := C
  refine J.eq (lv' := [(0, .ref (ad 0)), (1, .ref ga), (2, .long 7744027)]) rfl rfl rfl ?_
  refine j_lload_n C dL_say_0 rfl 2 rfl ?_
  refine j_lstore (lv' := [(4, .long 7744027), (0, .ref (ad 0)), (1, .ref ga), (2, .long 7744027)]) C dL_say_1 (by rw [hn9]; decide) rfl ?_
  refine j_lload C dL_say_3 0 rfl ?_
  refine j_lconst (v := 0) C dL_say_5 (by decide) ?_
  refine j_lcmp C dL_say_6 ?_
  refine j_if_eq (tgt := 32) C dL_say_7 (by decide) (fun c_7 => absurd c_7 (by decide)) (fun c_7 => ?_)
  refine j_aload_n C dL_say_10 rfl 1 rfl ?_
  refine j_aload_n C dL_say_11 rfl 2 rfl ?_
  show J _ _ _ _ _ 12 _
  refine j_lload C dL_say_12 0 rfl ?_
  refine j_ldc2 (v := 255) C dL_say_14 kcL_13 ?_
  refine j_land (v := 27) C dL_say_17 (by decide) ?_
  refine j_l2i (v := 27) C dL_say_18 (by decide) ?_
  refine j_callS C [.ref (ad 0), .ref ga, .int 27] [] mlL_15 mcL_put (c_put S ad hW ga m_ga k_ga l_ga hga B T hI_1101_ad0 hs hgs hb 27 b0 (by omega)) (M.rm (by decide) (by decide) (Nat.le_of_ble_eq_true rfl) (Nat.le_of_ble_eq_true rfl)) rfl rfl (Nat.le_of_ble_eq_true rfl) dL_say_19 (fun r_4 S_5 hp_6 => ?_)
  obtain ⟨rfl, hf_7, e_1, x_2, x_3⟩ := hp_6
  refine J.eq (st' := []) rfl rfl rfl ?_
  have hm_8 : ga ∈ hL S_5 := hf_7.mem m_ga
  have hk_9 : Kd S_5 ga 14 := hf_7.kd m_ga k_ga
  have hn_10 : Ln S_5 ga 7 := hf_7.ln m_ga l_ga
  have hf_11 : Fm (fun f9 b9 => (f9 = 1101 ∧ b9 = (ad 0))) (fun _ _ => False) (fun b9 => b9 = (ad 1) ∨ b9 = ga) S S_5 := (Fm.refl (WI := (fun f9 b9 => (f9 = 1101 ∧ b9 = (ad 0)))) (WR := (fun _ _ => False)) (WA := (fun b9 => b9 = (ad 1) ∨ b9 = ga))).then hf_7 (fun a9 ha9 => ⟨(fun f9 h9 => (fun h8 => h8) h9), (fun f9 h9 => h9.elim), (fun h9 => (fun h9 => h9.elim (fun h8 => (Or.inl h8)) (fun h8 => (Or.inr h8))) h9)⟩)
  have hW_12 : Wd ad S_5 := hW.fm hf_7 (by intro _ _ h9; exact h9) (by intro p9 hp9; simp only [wqL, List.mem_cons, List.not_mem_nil, or_false] at hp9; rcases hp9 with rfl | rfl <;> intro h9 <;> rcases h9 with h9 | h9 <;> (first | exact absurd h9 (wn hW (by decide) (by decide) (by decide)) | exact absurd h9.symm (hga _ (by decide))))
  refine j_lload C dL_say_22 0 rfl ?_
  refine j_bipush (v := 8) C dL_say_24 (by decide) ?_
  refine j_lushr (v := 30250) C dL_say_26 (by decide) ?_
  show J _ _ _ _ _ 27 _
  refine j_lstore (lv' := [(4, .long 30250), (0, .ref (ad 0)), (1, .ref ga), (2, .long 7744027)]) C dL_say_27 (by rw [hn9]; decide) rfl ?_
  refine j_goto (tgt := 3) C dL_say_29 (by decide) ?_
  refine j_lload C dL_say_3 0 rfl ?_
  refine j_lconst (v := 0) C dL_say_5 (by decide) ?_
  refine j_lcmp C dL_say_6 ?_
  refine j_if_eq (tgt := 32) C dL_say_7 (by decide) (fun c_7 => absurd c_7 (by decide)) (fun c_7 => ?_)
  refine j_aload_n C dL_say_10 rfl 1 rfl ?_
  refine j_aload_n C dL_say_11 rfl 2 rfl ?_
  show J _ _ _ _ _ 12 _
  refine j_lload C dL_say_12 0 rfl ?_
  refine j_ldc2 (v := 255) C dL_say_14 kcL_13 ?_
  refine j_land (v := 42) C dL_say_17 (by decide) ?_
  refine j_l2i (v := 42) C dL_say_18 (by decide) ?_
  refine j_callS C [.ref (ad 0), .ref ga, .int 42] [] mlL_15 mcL_put (c_put S_5 ad hW_12 ga hm_8 hk_9 hn_10 hga B (T + 1) e_1 x_2 x_3 hb 42 b1 (by omega)) (M.rm (by decide) (by decide) (Nat.le_of_ble_eq_true rfl) (Nat.le_of_ble_eq_true rfl)) rfl rfl (Nat.le_of_ble_eq_true rfl) dL_say_19 (fun r_16 S_17 hp_18 => ?_)
  obtain ⟨rfl, hf_19, e_13, x_14, x_15⟩ := hp_18
  refine J.eq (st' := []) rfl rfl rfl ?_
  have hm_20 : ga ∈ hL S_17 := hf_19.mem hm_8
  have hk_21 : Kd S_17 ga 14 := hf_19.kd hm_8 hk_9
  have hn_22 : Ln S_17 ga 7 := hf_19.ln hm_8 hn_10
  have hf_23 : Fm (fun f9 b9 => (f9 = 1101 ∧ b9 = (ad 0))) (fun _ _ => False) (fun b9 => b9 = (ad 1) ∨ b9 = ga) S S_17 := hf_11.then hf_19 (fun a9 ha9 => ⟨(fun f9 h9 => (fun h8 => h8) h9), (fun f9 h9 => h9.elim), (fun h9 => (fun h9 => h9.elim (fun h8 => (Or.inl h8)) (fun h8 => (Or.inr h8))) h9)⟩)
  have hW_24 : Wd ad S_17 := hW_12.fm hf_19 (by intro _ _ h9; exact h9) (by intro p9 hp9; simp only [wqL, List.mem_cons, List.not_mem_nil, or_false] at hp9; rcases hp9 with rfl | rfl <;> intro h9 <;> rcases h9 with h9 | h9 <;> (first | exact absurd h9 (wn hW_12 (by decide) (by decide) (by decide)) | exact absurd h9.symm (hga _ (by decide))))
  refine j_lload C dL_say_22 0 rfl ?_
  refine j_bipush (v := 8) C dL_say_24 (by decide) ?_
  refine j_lushr (v := 118) C dL_say_26 (by decide) ?_
  show J _ _ _ _ _ 27 _
  refine j_lstore (lv' := [(4, .long 118), (0, .ref (ad 0)), (1, .ref ga), (2, .long 7744027)]) C dL_say_27 (by rw [hn9]; decide) rfl ?_
  refine j_goto (tgt := 3) C dL_say_29 (by decide) ?_
  refine j_lload C dL_say_3 0 rfl ?_
  refine j_lconst (v := 0) C dL_say_5 (by decide) ?_
  refine j_lcmp C dL_say_6 ?_
  refine j_if_eq (tgt := 32) C dL_say_7 (by decide) (fun c_7 => absurd c_7 (by decide)) (fun c_7 => ?_)
  refine j_aload_n C dL_say_10 rfl 1 rfl ?_
  refine j_aload_n C dL_say_11 rfl 2 rfl ?_
  show J _ _ _ _ _ 12 _
  refine j_lload C dL_say_12 0 rfl ?_
  refine j_ldc2 (v := 255) C dL_say_14 kcL_13 ?_
  refine j_land (v := 118) C dL_say_17 (by decide) ?_
  refine j_l2i (v := 118) C dL_say_18 (by decide) ?_
  refine j_callS C [.ref (ad 0), .ref ga, .int 118] [] mlL_15 mcL_put (c_put S_17 ad hW_24 ga hm_20 hk_21 hn_22 hga B ((T + 1) + 1) e_13 x_14 x_15 hb 118 b2 (by omega)) (M.rm (by decide) (by decide) (Nat.le_of_ble_eq_true rfl) (Nat.le_of_ble_eq_true rfl)) rfl rfl (Nat.le_of_ble_eq_true rfl) dL_say_19 (fun r_28 S_29 hp_30 => ?_)
  obtain ⟨rfl, hf_31, e_25, x_26, x_27⟩ := hp_30
  refine J.eq (st' := []) rfl rfl rfl ?_
  have hm_32 : ga ∈ hL S_29 := hf_31.mem hm_20
  have hk_33 : Kd S_29 ga 14 := hf_31.kd hm_20 hk_21
  have hn_34 : Ln S_29 ga 7 := hf_31.ln hm_20 hn_22
  have hf_35 : Fm (fun f9 b9 => (f9 = 1101 ∧ b9 = (ad 0))) (fun _ _ => False) (fun b9 => b9 = (ad 1) ∨ b9 = ga) S S_29 := hf_23.then hf_31 (fun a9 ha9 => ⟨(fun f9 h9 => (fun h8 => h8) h9), (fun f9 h9 => h9.elim), (fun h9 => (fun h9 => h9.elim (fun h8 => (Or.inl h8)) (fun h8 => (Or.inr h8))) h9)⟩)
  have hW_36 : Wd ad S_29 := hW_24.fm hf_31 (by intro _ _ h9; exact h9) (by intro p9 hp9; simp only [wqL, List.mem_cons, List.not_mem_nil, or_false] at hp9; rcases hp9 with rfl | rfl <;> intro h9 <;> rcases h9 with h9 | h9 <;> (first | exact absurd h9 (wn hW_24 (by decide) (by decide) (by decide)) | exact absurd h9.symm (hga _ (by decide))))
  refine j_lload C dL_say_22 0 rfl ?_
  refine j_bipush (v := 8) C dL_say_24 (by decide) ?_
  refine j_lushr (v := 0) C dL_say_26 (by decide) ?_
  show J _ _ _ _ _ 27 _
  refine j_lstore (lv' := [(4, .long 0), (0, .ref (ad 0)), (1, .ref ga), (2, .long 7744027)]) C dL_say_27 (by rw [hn9]; decide) rfl ?_
  refine j_goto (tgt := 3) C dL_say_29 (by decide) ?_
  refine j_lload C dL_say_3 0 rfl ?_
  refine j_lconst (v := 0) C dL_say_5 (by decide) ?_
  refine j_lcmp C dL_say_6 ?_
  refine j_if_eq (tgt := 32) C dL_say_7 (by decide) (fun c_7 => ?_) (fun c_7 => absurd (by decide) c_7)
  exact j_vret C M dL_say_32 (Nat.le_of_ble_eq_true rfl) (Nat.le_of_ble_eq_true rfl) ⟨rfl, hf_35, e_25, x_26, x_27⟩

set_option maxRecDepth 100000 in
set_option maxHeartbeats 4000000 in
theorem c_say6498843 (S : Hp) (ad : Nat → Nat) (hW : Wd ad S) (ga : Nat) (m_ga : ga ∈ hL S) (k_ga : Kd S ga 14) (l_ga : Ln S ga 7) (hga : ∀ i, i < 37 → ga ≠ ad i) (B : Nat → Nat) (T : Nat) (hI_1101_ad0 : hI S 1101 (ad 0) = nI (20 * (T / 20))) (hs : STR (aI S (ad 1)) B (20 * (T / 20))) (hgs : GS (aI S ga) B T) (hb : ∀ j, B j < 128) (b0 : B (T) = 27) (b1 : B (T + 1) = 42) (b2 : B ((T + 1) + 1) = 99) (hT : T < 7800) : Ct 4 yL_say cL_say 6 none 0 0 [.ref (ad 0), .ref ga, .long 6498843] S (fun r S' => r = none ∧ Fm (fun f9 b9 => (f9 = 1101 ∧ b9 = (ad 0))) (fun _ _ => False) (fun b9 => b9 = (ad 1) ∨ b9 = ga) S S' ∧ hI S' 1101 (ad 0) = nI (20 * ((T + 3) / 20)) ∧ STR (aI S' (ad 1)) B (20 * ((T + 3) / 20)) ∧ GS (aI S' ga) B (T + 3)) := by
  refine ct_of (by decide) (Nat.le_of_ble_eq_true rfl) fun x hn9 C M hm9 => ?_
  have C : CB x RL cL_say := C
  refine J.eq (lv' := [(0, .ref (ad 0)), (1, .ref ga), (2, .long 6498843)]) rfl rfl rfl ?_
  refine j_lload_n C dL_say_0 rfl 2 rfl ?_
  refine j_lstore (lv' := [(4, .long 6498843), (0, .ref (ad 0)), (1, .ref ga), (2, .long 6498843)]) C dL_say_1 (by rw [hn9]; decide) rfl ?_
  refine j_lload C dL_say_3 0 rfl ?_
  refine j_lconst (v := 0) C dL_say_5 (by decide) ?_
  refine j_lcmp C dL_say_6 ?_
  refine j_if_eq (tgt := 32) C dL_say_7 (by decide) (fun c_7 => absurd c_7 (by decide)) (fun c_7 => ?_)
  refine j_aload_n C dL_say_10 rfl 1 rfl ?_
  refine j_aload_n C dL_say_11 rfl 2 rfl ?_
  show J _ _ _ _ _ 12 _
  refine j_lload C dL_say_12 0 rfl ?_
  refine j_ldc2 (v := 255) C dL_say_14 kcL_13 ?_
  refine j_land (v := 27) C dL_say_17 (by decide) ?_
  refine j_l2i (v := 27) C dL_say_18 (by decide) ?_
  refine j_callS C [.ref (ad 0), .ref ga, .int 27] [] mlL_15 mcL_put (c_put S ad hW ga m_ga k_ga l_ga hga B T hI_1101_ad0 hs hgs hb 27 b0 (by omega)) (M.rm (by decide) (by decide) (Nat.le_of_ble_eq_true rfl) (Nat.le_of_ble_eq_true rfl)) rfl rfl (Nat.le_of_ble_eq_true rfl) dL_say_19 (fun r_4 S_5 hp_6 => ?_)
  obtain ⟨rfl, hf_7, e_1, x_2, x_3⟩ := hp_6
  refine J.eq (st' := []) rfl rfl rfl ?_
  have hm_8 : ga ∈ hL S_5 := hf_7.mem m_ga
  have hk_9 : Kd S_5 ga 14 := hf_7.kd m_ga k_ga
  have hn_10 : Ln S_5 ga 7 := hf_7.ln m_ga l_ga
  have hf_11 : Fm (fun f9 b9 => (f9 = 1101 ∧ b9 = (ad 0))) (fun _ _ => False) (fun b9 => b9 = (ad 1) ∨ b9 = ga) S S_5 := (Fm.refl (WI := (fun f9 b9 => (f9 = 1101 ∧ b9 = (ad 0)))) (WR := (fun _ _ => False)) (WA := (fun b9 => b9 = (ad 1) ∨ b9 = ga))).then hf_7 (fun a9 ha9 => ⟨(fun f9 h9 => (fun h8 => h8) h9), (fun f9 h9 => h9.elim), (fun h9 => (fun h9 => h9.elim (fun h8 => (Or.inl h8)) (fun h8 => (Or.inr h8))) h9)⟩)
  have hW_12 : Wd ad S_5 := hW.fm hf_7 (by intro _ _ h9; exact h9) (by intro p9 hp9; simp only [wqL, List.mem_cons, List.not_mem_nil, or_false] at hp9; rcases hp9 with rfl | rfl <;> intro h9 <;> rcases h9 with h9 | h9 <;> (first | exact absurd h9 (wn hW (by decide) (by decide) (by decide)) | exact absurd h9.symm (hga _ (by decide))))
  refine j_lload C dL_say_22 0 rfl ?_
  refine j_bipush (v := 8) C dL_say_24 (by decide) ?_
  refine j_lushr (v := 25386) C dL_say_26 (by decide) ?_
  show J _ _ _ _ _ 27 _
  refine j_lstore (lv' := [(4, .long 25386), (0, .ref (ad 0)), (1, .ref ga), (2, .long 6498843)]) C dL_say_27 (by rw [hn9]; decide) rfl ?_
  refine j_goto (tgt := 3) C dL_say_29 (by decide) ?_
  refine j_lload C dL_say_3 0 rfl ?_
  refine j_lconst (v := 0) C dL_say_5 (by decide) ?_
  refine j_lcmp C dL_say_6 ?_
  refine j_if_eq (tgt := 32) C dL_say_7 (by decide) (fun c_7 => absurd c_7 (by decide)) (fun c_7 => ?_)
  refine j_aload_n C dL_say_10 rfl 1 rfl ?_
  refine j_aload_n C dL_say_11 rfl 2 rfl ?_
  show J _ _ _ _ _ 12 _
  refine j_lload C dL_say_12 0 rfl ?_
  refine j_ldc2 (v := 255) C dL_say_14 kcL_13 ?_
  refine j_land (v := 42) C dL_say_17 (by decide) ?_
  refine j_l2i (v := 42) C dL_say_18 (by decide) ?_
  refine j_callS C [.ref (ad 0), .ref ga, .int 42] [] mlL_15 mcL_put (c_put S_5 ad hW_12 ga hm_8 hk_9 hn_10 hga B (T + 1) e_1 x_2 x_3 hb 42 b1 (by omega)) (M.rm (by decide) (by decide) (Nat.le_of_ble_eq_true rfl) (Nat.le_of_ble_eq_true rfl)) rfl rfl (Nat.le_of_ble_eq_true rfl) dL_say_19 (fun r_16 S_17 hp_18 => ?_)
  obtain ⟨rfl, hf_19, e_13, x_14, x_15⟩ := hp_18
  refine J.eq (st' := []) rfl rfl rfl ?_
  have hm_20 : ga ∈ hL S_17 := hf_19.mem hm_8
  have hk_21 : Kd S_17 ga 14 := hf_19.kd hm_8 hk_9
  have hn_22 : Ln S_17 ga 7 := hf_19.ln hm_8 hn_10
  have hf_23 : Fm (fun f9 b9 => (f9 = 1101 ∧ b9 = (ad 0))) (fun _ _ => False) (fun b9 => b9 = (ad 1) ∨ b9 = ga) S S_17 := hf_11.then hf_19 (fun a9 ha9 => ⟨(fun f9 h9 => (fun h8 => h8) h9), (fun f9 h9 => h9.elim), (fun h9 => (fun h9 => h9.elim (fun h8 => (Or.inl h8)) (fun h8 => (Or.inr h8))) h9)⟩)
  have hW_24 : Wd ad S_17 := hW_12.fm hf_19 (by intro _ _ h9; exact h9) (by intro p9 hp9; simp only [wqL, List.mem_cons, List.not_mem_nil, or_false] at hp9; rcases hp9 with rfl | rfl <;> intro h9 <;> rcases h9 with h9 | h9 <;> (first | exact absurd h9 (wn hW_12 (by decide) (by decide) (by decide)) | exact absurd h9.symm (hga _ (by decide))))
  refine j_lload C dL_say_22 0 rfl ?_
  refine j_bipush (v := 8) C dL_say_24 (by decide) ?_
  refine j_lushr (v := 99) C dL_say_26 (by decide) ?_
  show J _ _ _ _ _ 27 _
  refine j_lstore (lv' := [(4, .long 99), (0, .ref (ad 0)), (1, .ref ga), (2, .long 6498843)]) C dL_say_27 (by rw [hn9]; decide) rfl ?_
  refine j_goto (tgt := 3) C dL_say_29 (by decide) ?_
  refine j_lload C dL_say_3 0 rfl ?_
  refine j_lconst (v := 0) C dL_say_5 (by decide) ?_
  refine j_lcmp C dL_say_6 ?_
  refine j_if_eq (tgt := 32) C dL_say_7 (by decide) (fun c_7 => absurd c_7 (by decide)) (fun c_7 => ?_)
  refine j_aload_n C dL_say_10 rfl 1 rfl ?_
  refine j_aload_n C dL_say_11 rfl 2 rfl ?_
  show J _ _ _ _ _ 12 _
  refine j_lload C dL_say_12 0 rfl ?_
  refine j_ldc2 (v := 255) C dL_say_14 kcL_13 ?_
  refine j_land (v := 99) C dL_say_17 (by decide) ?_
  refine j_l2i (v := 99) C dL_say_18 (by decide) ?_
  refine j_callS C [.ref (ad 0), .ref ga, .int 99] [] mlL_15 mcL_put (c_put S_17 ad hW_24 ga hm_20 hk_21 hn_22 hga B ((T + 1) + 1) e_13 x_14 x_15 hb 99 b2 (by omega)) (M.rm (by decide) (by decide) (Nat.le_of_ble_eq_true rfl) (Nat.le_of_ble_eq_true rfl)) rfl rfl (Nat.le_of_ble_eq_true rfl) dL_say_19 (fun r_28 S_29 hp_30 => ?_)
  obtain ⟨rfl, hf_31, e_25, x_26, x_27⟩ := hp_30
  refine J.eq (st' := []) rfl rfl rfl ?_
  have hm_32 : ga ∈ hL S_29 := hf_31.mem hm_20
  have hk_33 : Kd S_29 ga 14 := hf_31.kd hm_20 hk_21
  have hn_34 : Ln S_29 ga 7 := hf_31.ln hm_20 hn_22
  have hf_35 : Fm (fun f9 b9 => (f9 = 1101 ∧ b9 = (ad 0))) (fun _ _ => False) (fun b9 => b9 = (ad 1) ∨ b9 = ga) S S_29 := hf_23.then hf_31 (fun a9 ha9 => ⟨(fun f9 h9 => (fun h8 => h8) h9), (fun f9 h9 => h9.elim), (fun h9 => (fun h9 => h9.elim (fun h8 => (Or.inl h8)) (fun h8 => (Or.inr h8))) h9)⟩)
  have hW_36 : Wd ad S_29 := hW_24.fm hf_31 (by intro _ _ h9; exact h9) (by intro p9 hp9; simp only [wqL, List.mem_cons, List.not_mem_nil, or_false] at hp9; rcases hp9 with rfl | rfl <;> intro h9 <;> rcases h9 with h9 | h9 <;> (first | exact absurd h9 (wn hW_24 (by decide) (by decide) (by decide)) | exact absurd h9.symm (hga _ (by decide))))
  refine j_lload C dL_say_22 0 rfl ?_
  refine j_bipush (v := 8) C dL_say_24 (by decide) ?_
  refine j_lushr (v := 0) C dL_say_26 (by decide) ?_
  show J _ _ _ _ _ 27 _
  refine j_lstore (lv' := [(4, .long 0), (0, .ref (ad 0)), (1, .ref ga), (2, .long 6498843)]) C dL_say_27 (by rw [hn9]; decide) rfl ?_
  refine j_goto (tgt := 3) C dL_say_29 (by decide) ?_
  refine j_lload C dL_say_3 0 rfl ?_
  refine j_lconst (v := 0) C dL_say_5 (by decide) ?_
  refine j_lcmp C dL_say_6 ?_
  refine j_if_eq (tgt := 32) C dL_say_7 (by decide) (fun c_7 => ?_) (fun c_7 => absurd (by decide) c_7)
  exact j_vret C M dL_say_32 (Nat.le_of_ble_eq_true rfl) (Nat.le_of_ble_eq_true rfl) ⟨rfl, hf_35, e_25, x_26, x_27⟩

theorem dL_number_0 : decode cL_number 0 = .ok (.iconst 1, 1) := by decide +kernel
theorem dL_number_1 : decode cL_number 1 = .ok (.istore_n 3, 1) := by decide +kernel
theorem dL_number_2 : decode cL_number 2 = .ok (.iload_n 2, 1) := by decide +kernel
theorem dL_number_3 : decode cL_number 3 = .ok (.iload_n 3, 1) := by decide +kernel
theorem dL_number_4 : decode cL_number 4 = .ok (.idiv, 1) := by decide +kernel
theorem dL_number_5 : decode cL_number 5 = .ok (.bipush 9, 2) := by decide +kernel
theorem dL_number_7 : decode cL_number 7 = .ok (.if_icmp .le 11, 3) := by decide +kernel
theorem dL_number_10 : decode cL_number 10 = .ok (.iload_n 3, 1) := by decide +kernel
theorem dL_number_11 : decode cL_number 11 = .ok (.bipush 10, 2) := by decide +kernel
theorem dL_number_13 : decode cL_number 13 = .ok (.imul, 1) := by decide +kernel
theorem dL_number_14 : decode cL_number 14 = .ok (.istore_n 3, 1) := by decide +kernel
theorem dL_number_15 : decode cL_number 15 = .ok (.goto (-13), 3) := by decide +kernel
theorem dL_number_18 : decode cL_number 18 = .ok (.iload_n 3, 1) := by decide +kernel
theorem dL_number_19 : decode cL_number 19 = .ok (.ifCond .le 25, 3) := by decide +kernel
theorem dL_number_22 : decode cL_number 22 = .ok (.aload_n 0, 1) := by decide +kernel
theorem dL_number_23 : decode cL_number 23 = .ok (.aload_n 1, 1) := by decide +kernel
theorem dL_number_24 : decode cL_number 24 = .ok (.bipush 48, 2) := by decide +kernel
theorem dL_number_26 : decode cL_number 26 = .ok (.iload_n 2, 1) := by decide +kernel
theorem dL_number_27 : decode cL_number 27 = .ok (.iload_n 3, 1) := by decide +kernel
theorem dL_number_28 : decode cL_number 28 = .ok (.idiv, 1) := by decide +kernel
theorem dL_number_29 : decode cL_number 29 = .ok (.bipush 10, 2) := by decide +kernel
theorem dL_number_31 : decode cL_number 31 = .ok (.irem, 1) := by decide +kernel
theorem dL_number_32 : decode cL_number 32 = .ok (.iadd, 1) := by decide +kernel
theorem dL_number_33 : decode cL_number 33 = .ok (.invokestatic 15, 3) := by decide +kernel
theorem dL_number_36 : decode cL_number 36 = .ok (.iload_n 3, 1) := by decide +kernel
theorem dL_number_37 : decode cL_number 37 = .ok (.bipush 10, 2) := by decide +kernel
theorem dL_number_39 : decode cL_number 39 = .ok (.idiv, 1) := by decide +kernel
theorem dL_number_40 : decode cL_number 40 = .ok (.istore_n 3, 1) := by decide +kernel
theorem dL_number_41 : decode cL_number 41 = .ok (.goto (-23), 3) := by decide +kernel
theorem dL_number_44 : decode cL_number 44 = .ok (.return_, 1) := by decide +kernel

set_option maxRecDepth 100000 in
set_option maxHeartbeats 4000000 in
theorem c_num1 (S : Hp) (ad : Nat → Nat) (hW : Wd ad S) (ga : Nat) (m_ga : ga ∈ hL S) (k_ga : Kd S ga 14) (l_ga : Ln S ga 7) (hga : ∀ i, i < 37 → ga ≠ ad i) (B : Nat → Nat) (T : Nat) (hI_1101_ad0 : hI S 1101 (ad 0) = nI (20 * (T / 20))) (hs : STR (aI S (ad 1)) B (20 * (T / 20))) (hgs : GS (aI S ga) B T) (hb : ∀ j, B j < 128) (v9 : Nat) (b0 : B T = 48 + v9) (hv : v9 < 10) (hT : T < 7800) : Ct 4 yL_number cL_number 4 none 0 0 [.ref (ad 0), .ref ga, .int (nI v9)] S (fun r S' => r = none ∧ Fm (fun f9 b9 => (f9 = 1101 ∧ b9 = (ad 0))) (fun _ _ => False) (fun b9 => b9 = (ad 1) ∨ b9 = ga) S S' ∧ hI S' 1101 (ad 0) = nI (20 * ((T + 1) / 20)) ∧ STR (aI S' (ad 1)) B (20 * ((T + 1) / 20)) ∧ GS (aI S' ga) B (T + 1)) := by
  refine ct_of (by decide) (Nat.le_of_ble_eq_true rfl) fun x hn9 C M hm9 => ?_
  have C : CB x RL cL_number := C
  refine J.eq (lv' := [(0, .ref (ad 0)), (1, .ref ga), (2, .int (nI v9))]) rfl rfl rfl ?_
  refine j_iconst (v := 1) C dL_number_0 (by decide) ?_
  refine j_istore_n (lv' := [(3, .int 1), (0, .ref (ad 0)), (1, .ref ga), (2, .int (nI v9))]) C dL_number_1 rfl (by rw [hn9]; decide) rfl ?_
  refine j_iload_n C dL_number_2 rfl 3 rfl ?_
  refine j_iload_n C dL_number_3 rfl 0 rfl ?_
  refine j_idiv (v := nI (v9 / 1)) C dL_number_4 (by decide) (pk_div (d := 1) (by omega) (by decide) (by decide)) ?_
  refine j_bipush (v := 9) C dL_number_5 (by decide) ?_
  refine j_ic_le (tgt := 18) C dL_number_7 (by decide) (fun c_7 => ?_) (fun c_7 => absurd (nI_le (b := 9) (by omega) (by decide)) c_7)
  refine j_iload_n C dL_number_18 rfl 0 rfl ?_
  show J _ _ _ _ _ 19 _
  refine j_if_le (tgt := 44) C dL_number_19 (by decide) (fun c9 => absurd c9 (by decide)) (fun c9 => ?_)
  refine j_aload_n C dL_number_22 rfl 1 rfl ?_
  refine j_aload_n C dL_number_23 rfl 2 rfl ?_
  refine j_bipush (v := 48) C dL_number_24 (by decide) ?_
  refine j_iload_n C dL_number_26 rfl 3 rfl ?_
  refine j_iload_n C dL_number_27 rfl 0 rfl ?_
  refine j_idiv (v := nI (v9 / 1)) C dL_number_28 (by decide) (pk_div (d := 1) (by omega) (by decide) (by decide)) ?_
  refine j_bipush (v := 10) C dL_number_29 (by decide) ?_
  show J _ _ _ _ _ 31 _
  refine j_irem (v := nI ((v9 / 1) % 10)) C dL_number_31 (by decide) (pk_rem (d := 10) (by omega) (by decide) (by decide)) ?_
  refine j_iadd (v := nI (48 + ((v9 / 1) % 10))) C dL_number_32 (nI_add 48 ((v9 / 1) % 10)) ?_
  refine j_callS C [.ref (ad 0), .ref ga, .int (nI (48 + ((v9 / 1) % 10)))] [] mlL_15 mcL_put (c_put S ad hW ga m_ga k_ga l_ga hga B T hI_1101_ad0 hs hgs hb (48 + ((v9 / 1) % 10)) (by omega) (by omega)) (M.rm (by decide) (by decide) (Nat.le_of_ble_eq_true rfl) (Nat.le_of_ble_eq_true rfl)) rfl rfl (Nat.le_of_ble_eq_true rfl) dL_number_33 (fun r_4 S_5 hp_6 => ?_)
  obtain ⟨rfl, hf_7, e_1, x_2, x_3⟩ := hp_6
  refine J.eq (st' := []) rfl rfl rfl ?_
  have hm_8 : ga ∈ hL S_5 := hf_7.mem m_ga
  have hk_9 : Kd S_5 ga 14 := hf_7.kd m_ga k_ga
  have hn_10 : Ln S_5 ga 7 := hf_7.ln m_ga l_ga
  have hf_11 : Fm (fun f9 b9 => (f9 = 1101 ∧ b9 = (ad 0))) (fun _ _ => False) (fun b9 => b9 = (ad 1) ∨ b9 = ga) S S_5 := (Fm.refl (WI := (fun f9 b9 => (f9 = 1101 ∧ b9 = (ad 0)))) (WR := (fun _ _ => False)) (WA := (fun b9 => b9 = (ad 1) ∨ b9 = ga))).then hf_7 (fun a9 ha9 => ⟨(fun f9 h9 => (fun h8 => h8) h9), (fun f9 h9 => h9.elim), (fun h9 => (fun h9 => h9.elim (fun h8 => (Or.inl h8)) (fun h8 => (Or.inr h8))) h9)⟩)
  have hW_12 : Wd ad S_5 := hW.fm hf_7 (by intro _ _ h9; exact h9) (by intro p9 hp9; simp only [wqL, List.mem_cons, List.not_mem_nil, or_false] at hp9; rcases hp9 with rfl | rfl <;> intro h9 <;> rcases h9 with h9 | h9 <;> (first | exact absurd h9 (wn hW (by decide) (by decide) (by decide)) | exact absurd h9.symm (hga _ (by decide))))
  refine j_iload_n C dL_number_36 rfl 0 rfl ?_
  refine j_bipush (v := 10) C dL_number_37 (by decide) ?_
  refine j_idiv (v := 0) C dL_number_39 (by decide) (by decide) ?_
  refine j_istore_n (lv' := [(3, .int 0), (0, .ref (ad 0)), (1, .ref ga), (2, .int (nI v9))]) C dL_number_40 rfl (by rw [hn9]; decide) rfl ?_
  refine j_goto (tgt := 18) C dL_number_41 (by decide) ?_
  show J _ _ _ _ _ 18 _
  refine j_iload_n C dL_number_18 rfl 0 rfl ?_
  refine j_if_le (tgt := 44) C dL_number_19 (by decide) (fun c9 => ?_) (fun c9 => absurd (by decide) c9)
  exact j_vret C M dL_number_44 (Nat.le_of_ble_eq_true rfl) (Nat.le_of_ble_eq_true rfl) ⟨rfl, hf_11, e_1, x_2, x_3⟩

set_option maxRecDepth 100000 in
set_option maxHeartbeats 4000000 in
theorem c_num2 (S : Hp) (ad : Nat → Nat) (hW : Wd ad S) (ga : Nat) (m_ga : ga ∈ hL S) (k_ga : Kd S ga 14) (l_ga : Ln S ga 7) (hga : ∀ i, i < 37 → ga ≠ ad i) (B : Nat → Nat) (T : Nat) (hI_1101_ad0 : hI S 1101 (ad 0) = nI (20 * (T / 20))) (hs : STR (aI S (ad 1)) B (20 * (T / 20))) (hgs : GS (aI S ga) B T) (hb : ∀ j, B j < 128) (v9 : Nat) (b0 : B T = 48 + v9 / 10) (b1 : B (T + 1) = 48 + v9 % 10) (hv : 10 ≤ v9 ∧ v9 < 100) (hT : T < 7800) : Ct 4 yL_number cL_number 4 none 0 0 [.ref (ad 0), .ref ga, .int (nI v9)] S (fun r S' => r = none ∧ Fm (fun f9 b9 => (f9 = 1101 ∧ b9 = (ad 0))) (fun _ _ => False) (fun b9 => b9 = (ad 1) ∨ b9 = ga) S S' ∧ hI S' 1101 (ad 0) = nI (20 * ((T + 2) / 20)) ∧ STR (aI S' (ad 1)) B (20 * ((T + 2) / 20)) ∧ GS (aI S' ga) B (T + 2)) := by
  refine ct_of (by decide) (Nat.le_of_ble_eq_true rfl) fun x hn9 C M hm9 => ?_
  have C : CB x RL cL_number := C
  refine J.eq (lv' := [(0, .ref (ad 0)), (1, .ref ga), (2, .int (nI v9))]) rfl rfl rfl ?_
  refine j_iconst (v := 1) C dL_number_0 (by decide) ?_
  refine j_istore_n (lv' := [(3, .int 1), (0, .ref (ad 0)), (1, .ref ga), (2, .int (nI v9))]) C dL_number_1 rfl (by rw [hn9]; decide) rfl ?_
  refine j_iload_n C dL_number_2 rfl 3 rfl ?_
  refine j_iload_n C dL_number_3 rfl 0 rfl ?_
  refine j_idiv (v := nI (v9 / 1)) C dL_number_4 (by decide) (pk_div (d := 1) (by omega) (by decide) (by decide)) ?_
  refine j_bipush (v := 9) C dL_number_5 (by decide) ?_
  refine j_ic_le (tgt := 18) C dL_number_7 (by decide) (fun c_7 => absurd c_7 (nI_ge (a := 9) (by omega) (by omega))) (fun c_7 => ?_)
  refine j_iload_n C dL_number_10 rfl 0 rfl ?_
  show J _ _ _ _ _ 11 _
  refine j_bipush (v := 10) C dL_number_11 (by decide) ?_
  refine j_imul (v := 10) C dL_number_13 (by decide) ?_
  refine j_istore_n (lv' := [(3, .int 10), (0, .ref (ad 0)), (1, .ref ga), (2, .int (nI v9))]) C dL_number_14 rfl (by rw [hn9]; decide) rfl ?_
  refine j_goto (tgt := 2) C dL_number_15 (by decide) ?_
  refine j_iload_n C dL_number_2 rfl 3 rfl ?_
  refine j_iload_n C dL_number_3 rfl 0 rfl ?_
  refine j_idiv (v := nI (v9 / 10)) C dL_number_4 (by decide) (pk_div (d := 10) (by omega) (by decide) (by decide)) ?_
  refine j_bipush (v := 9) C dL_number_5 (by decide) ?_
  show J _ _ _ _ _ 7 _
  refine j_ic_le (tgt := 18) C dL_number_7 (by decide) (fun c_7 => ?_) (fun c_7 => absurd (nI_le (b := 9) (by omega) (by decide)) c_7)
  refine j_iload_n C dL_number_18 rfl 0 rfl ?_
  refine j_if_le (tgt := 44) C dL_number_19 (by decide) (fun c9 => absurd c9 (by decide)) (fun c9 => ?_)
  refine j_aload_n C dL_number_22 rfl 1 rfl ?_
  refine j_aload_n C dL_number_23 rfl 2 rfl ?_
  refine j_bipush (v := 48) C dL_number_24 (by decide) ?_
  refine j_iload_n C dL_number_26 rfl 3 rfl ?_
  refine j_iload_n C dL_number_27 rfl 0 rfl ?_
  show J _ _ _ _ _ 28 _
  refine j_idiv (v := nI (v9 / 10)) C dL_number_28 (by decide) (pk_div (d := 10) (by omega) (by decide) (by decide)) ?_
  refine j_bipush (v := 10) C dL_number_29 (by decide) ?_
  refine j_irem (v := nI ((v9 / 10) % 10)) C dL_number_31 (by decide) (pk_rem (d := 10) (by omega) (by decide) (by decide)) ?_
  refine j_iadd (v := nI (48 + ((v9 / 10) % 10))) C dL_number_32 (nI_add 48 ((v9 / 10) % 10)) ?_
  refine j_callS C [.ref (ad 0), .ref ga, .int (nI (48 + ((v9 / 10) % 10)))] [] mlL_15 mcL_put (c_put S ad hW ga m_ga k_ga l_ga hga B T hI_1101_ad0 hs hgs hb (48 + ((v9 / 10) % 10)) (by omega) (by omega)) (M.rm (by decide) (by decide) (Nat.le_of_ble_eq_true rfl) (Nat.le_of_ble_eq_true rfl)) rfl rfl (Nat.le_of_ble_eq_true rfl) dL_number_33 (fun r_4 S_5 hp_6 => ?_)
  obtain ⟨rfl, hf_7, e_1, x_2, x_3⟩ := hp_6
  refine J.eq (st' := []) rfl rfl rfl ?_
  have hm_8 : ga ∈ hL S_5 := hf_7.mem m_ga
  have hk_9 : Kd S_5 ga 14 := hf_7.kd m_ga k_ga
  have hn_10 : Ln S_5 ga 7 := hf_7.ln m_ga l_ga
  have hf_11 : Fm (fun f9 b9 => (f9 = 1101 ∧ b9 = (ad 0))) (fun _ _ => False) (fun b9 => b9 = (ad 1) ∨ b9 = ga) S S_5 := (Fm.refl (WI := (fun f9 b9 => (f9 = 1101 ∧ b9 = (ad 0)))) (WR := (fun _ _ => False)) (WA := (fun b9 => b9 = (ad 1) ∨ b9 = ga))).then hf_7 (fun a9 ha9 => ⟨(fun f9 h9 => (fun h8 => h8) h9), (fun f9 h9 => h9.elim), (fun h9 => (fun h9 => h9.elim (fun h8 => (Or.inl h8)) (fun h8 => (Or.inr h8))) h9)⟩)
  have hW_12 : Wd ad S_5 := hW.fm hf_7 (by intro _ _ h9; exact h9) (by intro p9 hp9; simp only [wqL, List.mem_cons, List.not_mem_nil, or_false] at hp9; rcases hp9 with rfl | rfl <;> intro h9 <;> rcases h9 with h9 | h9 <;> (first | exact absurd h9 (wn hW (by decide) (by decide) (by decide)) | exact absurd h9.symm (hga _ (by decide))))
  refine j_iload_n C dL_number_36 rfl 0 rfl ?_
  refine j_bipush (v := 10) C dL_number_37 (by decide) ?_
  refine j_idiv (v := 1) C dL_number_39 (by decide) (by decide) ?_
  show J _ _ _ _ _ 40 _
  refine j_istore_n (lv' := [(3, .int 1), (0, .ref (ad 0)), (1, .ref ga), (2, .int (nI v9))]) C dL_number_40 rfl (by rw [hn9]; decide) rfl ?_
  refine j_goto (tgt := 18) C dL_number_41 (by decide) ?_
  refine j_iload_n C dL_number_18 rfl 0 rfl ?_
  refine j_if_le (tgt := 44) C dL_number_19 (by decide) (fun c9 => absurd c9 (by decide)) (fun c9 => ?_)
  refine j_aload_n C dL_number_22 rfl 1 rfl ?_
  refine j_aload_n C dL_number_23 rfl 2 rfl ?_
  refine j_bipush (v := 48) C dL_number_24 (by decide) ?_
  refine j_iload_n C dL_number_26 rfl 3 rfl ?_
  show J _ _ _ _ _ 27 _
  refine j_iload_n C dL_number_27 rfl 0 rfl ?_
  refine j_idiv (v := nI (v9 / 1)) C dL_number_28 (by decide) (pk_div (d := 1) (by omega) (by decide) (by decide)) ?_
  refine j_bipush (v := 10) C dL_number_29 (by decide) ?_
  refine j_irem (v := nI ((v9 / 1) % 10)) C dL_number_31 (by decide) (pk_rem (d := 10) (by omega) (by decide) (by decide)) ?_
  refine j_iadd (v := nI (48 + ((v9 / 1) % 10))) C dL_number_32 (nI_add 48 ((v9 / 1) % 10)) ?_
  refine j_callS C [.ref (ad 0), .ref ga, .int (nI (48 + ((v9 / 1) % 10)))] [] mlL_15 mcL_put (c_put S_5 ad hW_12 ga hm_8 hk_9 hn_10 hga B (T + 1) e_1 x_2 x_3 hb (48 + ((v9 / 1) % 10)) (by omega) (by omega)) (M.rm (by decide) (by decide) (Nat.le_of_ble_eq_true rfl) (Nat.le_of_ble_eq_true rfl)) rfl rfl (Nat.le_of_ble_eq_true rfl) dL_number_33 (fun r_16 S_17 hp_18 => ?_)
  obtain ⟨rfl, hf_19, e_13, x_14, x_15⟩ := hp_18
  refine J.eq (st' := []) rfl rfl rfl ?_
  have hm_20 : ga ∈ hL S_17 := hf_19.mem hm_8
  have hk_21 : Kd S_17 ga 14 := hf_19.kd hm_8 hk_9
  have hn_22 : Ln S_17 ga 7 := hf_19.ln hm_8 hn_10
  have hf_23 : Fm (fun f9 b9 => (f9 = 1101 ∧ b9 = (ad 0))) (fun _ _ => False) (fun b9 => b9 = (ad 1) ∨ b9 = ga) S S_17 := hf_11.then hf_19 (fun a9 ha9 => ⟨(fun f9 h9 => (fun h8 => h8) h9), (fun f9 h9 => h9.elim), (fun h9 => (fun h9 => h9.elim (fun h8 => (Or.inl h8)) (fun h8 => (Or.inr h8))) h9)⟩)
  have hW_24 : Wd ad S_17 := hW_12.fm hf_19 (by intro _ _ h9; exact h9) (by intro p9 hp9; simp only [wqL, List.mem_cons, List.not_mem_nil, or_false] at hp9; rcases hp9 with rfl | rfl <;> intro h9 <;> rcases h9 with h9 | h9 <;> (first | exact absurd h9 (wn hW_12 (by decide) (by decide) (by decide)) | exact absurd h9.symm (hga _ (by decide))))
  refine j_iload_n C dL_number_36 rfl 0 rfl ?_
  refine j_bipush (v := 10) C dL_number_37 (by decide) ?_
  show J _ _ _ _ _ 39 _
  refine j_idiv (v := 0) C dL_number_39 (by decide) (by decide) ?_
  refine j_istore_n (lv' := [(3, .int 0), (0, .ref (ad 0)), (1, .ref ga), (2, .int (nI v9))]) C dL_number_40 rfl (by rw [hn9]; decide) rfl ?_
  refine j_goto (tgt := 18) C dL_number_41 (by decide) ?_
  refine j_iload_n C dL_number_18 rfl 0 rfl ?_
  refine j_if_le (tgt := 44) C dL_number_19 (by decide) (fun c9 => ?_) (fun c9 => absurd (by decide) c9)
  exact j_vret C M dL_number_44 (Nat.le_of_ble_eq_true rfl) (Nat.le_of_ble_eq_true rfl) ⟨rfl, hf_23, e_13, x_14, x_15⟩

theorem c_num (S : Hp) (ad : Nat → Nat) (hW : Wd ad S) (ga : Nat) (m_ga : ga ∈ hL S) (k_ga : Kd S ga 14) (l_ga : Ln S ga 7) (hga : ∀ i, i < 37 → ga ≠ ad i) (B : Nat → Nat) (T : Nat) (h1 : hI S 1101 (ad 0) = nI (20 * (T / 20))) (hs : STR (aI S (ad 1)) B (20 * (T / 20))) (hgs : GS (aI S ga) B T) (hb : ∀ j, B j < 128) (v9 : Nat) (hB : Has B T (num v9)) (hv : v9 < 100) (hT : T < 7800) :
    Ct 4 yL_number cL_number 4 none 0 0 [.ref (ad 0), .ref ga, .int (nI v9)] S (fun r S' => r = none ∧ Fm (fun f9 b9 => (f9 = 1101 ∧ b9 = (ad 0))) (fun _ _ => False) (fun b9 => b9 = (ad 1) ∨ b9 = ga) S S' ∧ hI S' 1101 (ad 0) = nI (20 * ((T + (num v9).length) / 20)) ∧ STR (aI S' (ad 1)) B (20 * ((T + (num v9).length) / 20)) ∧ GS (aI S' ga) B (T + (num v9).length)) := by
  by_cases h : v9 < 10
  · rw [num1 h] at hB ⊢
    exact c_num1 S ad hW ga m_ga k_ga l_ga hga B T h1 hs hgs hb v9 (hB 0 _ rfl) h hT
  · rw [num2 h] at hB ⊢
    exact c_num2 S ad hW ga m_ga k_ga l_ga hga B T h1 hs hgs hb v9 (hB 0 _ rfl) (hB 1 _ rfl) ⟨by omega, hv⟩ hT

theorem dL_close_0 : decode cL_close 0 = .ok (.aload_n 1, 1) := by decide +kernel
theorem dL_close_1 : decode cL_close 1 = .ok (.bipush 6, 2) := by decide +kernel
theorem dL_close_3 : decode cL_close 3 = .ok (.iaload, 1) := by decide +kernel
theorem dL_close_4 : decode cL_close 4 = .ok (.istore_n 3, 1) := by decide +kernel
theorem dL_close_5 : decode cL_close 5 = .ok (.aload_n 1, 1) := by decide +kernel
theorem dL_close_6 : decode cL_close 6 = .ok (.iconst 5, 1) := by decide +kernel
theorem dL_close_7 : decode cL_close 7 = .ok (.iaload, 1) := by decide +kernel
theorem dL_close_8 : decode cL_close 8 = .ok (.ifCond .eq 12, 3) := by decide +kernel
theorem dL_close_11 : decode cL_close 11 = .ok (.aload_n 0, 1) := by decide +kernel
theorem dL_close_12 : decode cL_close 12 = .ok (.aload_n 1, 1) := by decide +kernel
theorem dL_close_13 : decode cL_close 13 = .ok (.iconst 0, 1) := by decide +kernel
theorem dL_close_14 : decode cL_close 14 = .ok (.invokestatic 15, 3) := by decide +kernel
theorem dL_close_17 : decode cL_close 17 = .ok (.goto (-12), 3) := by decide +kernel
theorem dL_close_20 : decode cL_close 20 = .ok (.aload_n 0, 1) := by decide +kernel
theorem dL_close_21 : decode cL_close 21 = .ok (.iload_n 3, 1) := by decide +kernel
theorem dL_close_22 : decode cL_close 22 = .ok (.invokevirtual 21, 3) := by decide +kernel
theorem dL_close_25 : decode cL_close 25 = .ok (.pop, 1) := by decide +kernel
theorem dL_close_26 : decode cL_close 26 = .ok (.aload_n 1, 1) := by decide +kernel
theorem dL_close_27 : decode cL_close 27 = .ok (.bipush 6, 2) := by decide +kernel
theorem dL_close_29 : decode cL_close 29 = .ok (.iconst 0, 1) := by decide +kernel
theorem dL_close_30 : decode cL_close 30 = .ok (.iastore, 1) := by decide +kernel
theorem dL_close_31 : decode cL_close 31 = .ok (.aload_n 0, 1) := by decide +kernel
theorem dL_close_32 : decode cL_close 32 = .ok (.iload_n 2, 1) := by decide +kernel
theorem dL_close_33 : decode cL_close 33 = .ok (.invokevirtual 25, 3) := by decide +kernel
theorem dL_close_36 : decode cL_close 36 = .ok (.ireturn, 1) := by decide +kernel

set_option maxRecDepth 100000 in
set_option maxHeartbeats 4000000 in
theorem c_L_close (S : Hp) (ad : Nat → Nat) (hW : Wd ad S) (ga : Nat) (m_ga : ga ∈ hL S) (k_ga : Kd S ga 14) (l_ga : Ln S ga 7) (hga : ∀ i, i < 37 → ga ≠ ad i) (B : Nat → Nat) (T : Nat) (hI_1101_ad0 : hI S 1101 (ad 0) = nI (20 * (T / 20))) (hs : STR (aI S (ad 1)) B (20 * (T / 20))) (hgs : GS (aI S ga) B T) (hb : ∀ j, B j < 128) (hI_1105_ad0 : hI S 1105 (ad 0) = 0) (hsa : ∀ j, aI S (ad 4) j = 0) (hz : ∀ j, T ≤ j → B j = 0) (hT : T < 7800) : Ct 5 yL_close cL_close 4 (some .int) 0 0 [.ref (ad 0), .ref ga, .int 0] S (fun r S' => r = some (.int 1) ∧ Fm (fun f9 b9 => (f9 = 1101 ∧ b9 = (ad 0)) ∨ (f9 = 1105 ∧ b9 = (ad 0))) (fun _ _ => False) (fun b9 => b9 = (ad 1) ∨ b9 = ga ∨ b9 = (ad 2) ∨ b9 = (ad 3) ∨ b9 = (ad 4)) S S' ∧ hI S' 1105 (ad 0) = 1 ∧ STR (aI S' (ad 2)) B T ∧ aI S' (ad 3) 0 = 0 ∧ aI S' (ad 4) 0 = 0 ∧ aI S' (ad 4) 1 = nI T) := by
  refine ct_of (by decide) (Nat.le_of_ble_eq_true rfl) fun x hn9 C M hm9 => ?_
  have C : CB x RL cL_close := C
  refine J.eq (lv' := [(0, .ref (ad 0)), (1, .ref ga), (2, .int 0)]) rfl rfl rfl ?_
  refine j_aload_n C dL_close_0 rfl 1 rfl ?_
  refine j_bipush (v := 6) C dL_close_1 (by decide) ?_
  refine j_iald (j := 6) (v := nI T) C dL_close_3 m_ga k_ga (inr_of (n := 7) l_ga (vp_lit (by decide))) (by decide) hgs.2.1 ?_
  refine j_istore_n (lv' := [(3, .int (nI T)), (0, .ref (ad 0)), (1, .ref ga), (2, .int 0)]) C dL_close_4 rfl (by rw [hn9]; decide) rfl ?_
  have loop_5 : ∀ (m9 t9 : Nat) (S_2 : Hp), t9 + m9 = (20 * ((T + 19) / 20)) → Fm (fun f9 b9 => (f9 = 1101 ∧ b9 = (ad 0))) (fun _ _ => False) (fun b9 => b9 = (ad 1) ∨ b9 = ga) S S_2 → (T ≤ t9) → (hI S_2 1101 (ad 0) = nI (20 * (t9 / 20))) → (STR (aI S_2 (ad 1)) B (20 * (t9 / 20))) → (GS (aI S_2 ga) B t9) → J x (0) (0) S_2 [(3, .int (nI T)), (0, .ref (ad 0)), (1, .ref ga), (2, .int 0)] 5 [] := by
    intro m9
    induction m9 with
    | zero =>
      intro t9 S_2  hi_6 hl_3 ht9 i1 i2 i3
      have hz_7 : ∀ j, aI S_2 (ad 4) j = 0 := fun j9 => (hl_3.ai (wm_4 (S := S) hW) (fun h9 => h9.elim (fun q9 => (wn (S := S) hW (i := 4) (j := 1) (by decide) (by decide) (by decide)) q9) (fun q9 => (Ne.symm (hga 4 (by decide))) q9)) j9).trans (hsa j9)
      have hm_8 : ga ∈ hL S_2 := hl_3.mem m_ga
      have hk_9 : Kd S_2 ga 14 := hl_3.kd m_ga k_ga
      have hn_10 : Ln S_2 ga 7 := hl_3.ln m_ga l_ga
      have hv_11 : hI S_2 1105 (ad 0) = 0 := hl_3.fi (wm_0 (S := S) hW) (fun q9 => absurd q9.1 (by decide)) hI_1105_ad0
      have hf_12 : Fm (fun f9 b9 => (f9 = 1101 ∧ b9 = (ad 0)) ∨ (f9 = 1105 ∧ b9 = (ad 0))) (fun _ _ => False) (fun b9 => b9 = (ad 1) ∨ b9 = ga ∨ b9 = (ad 2) ∨ b9 = (ad 3) ∨ b9 = (ad 4)) S S_2 := (Fm.refl (WI := (fun f9 b9 => (f9 = 1101 ∧ b9 = (ad 0)) ∨ (f9 = 1105 ∧ b9 = (ad 0)))) (WR := (fun _ _ => False)) (WA := (fun b9 => b9 = (ad 1) ∨ b9 = ga ∨ b9 = (ad 2) ∨ b9 = (ad 3) ∨ b9 = (ad 4)))).then hl_3 (fun a9 ha9 => ⟨(fun f9 h9 => (fun h8 => (Or.inl h8)) h9), (fun f9 h9 => h9.elim), (fun h9 => (fun h9 => h9.elim (fun h8 => (Or.inl h8)) (fun h8 => (Or.inr (Or.inl h8)))) h9)⟩)
      have hW_13 : Wd ad S_2 := hW.fm hl_3 (by intro _ _ h9; exact h9) (by intro p9 hp9; simp only [wqL, List.mem_cons, List.not_mem_nil, or_false] at hp9; rcases hp9 with rfl | rfl <;> intro h9 <;> rcases h9 with h9 | h9 <;> (first | exact absurd h9 (wn hW (by decide) (by decide) (by decide)) | exact absurd h9.symm (hga _ (by decide))))
      refine j_aload_n C dL_close_5 rfl 2 rfl ?_
      refine j_iconst (v := 5) C dL_close_6 (by decide) ?_
      refine j_iald (j := 5) (v := nI (t9 % 20)) C dL_close_7 hm_8 hk_9 (inr_of (n := 7) hn_10 (vp_lit (by decide))) (by decide) i3.1 ?_
      refine j_if_eq (tgt := 20) C dL_close_8 (by decide) (fun c_8 => ?_) (fun c_8 => absurd (show nI (t9 % 20) = nI 0 from congrArg nI (by omega)) c_8)
      have hx_14 : STR (aI S_2 (ad 1)) B T := str_le i2 (by omega)
      refine j_aload_n C dL_close_20 rfl 1 rfl ?_
      show J _ _ _ _ _ 21 _
      refine j_iload_n C dL_close_21 rfl 0 rfl ?_
      refine j_callV (ci := 11) C [.int (nI T)] [] mlL_21 mcX11_cut (c_X11_cut S_2 ad hW_13 T (20 * (t9 / 20)) i1 (by omega) (by omega)) (wm_0 (S := S_2) hW_13) (wk_0 (S := S_2) hW_13) rfl (M.rm (by decide) (by decide) (Nat.le_of_ble_eq_true rfl) (Nat.le_of_ble_eq_true rfl)) rfl rfl (Nat.le_of_ble_eq_true rfl) dL_close_22 (fun r_15 S_16 hp_17 => ?_)
      obtain ⟨rfl, e_18⟩ := hp_17
      refine J.eq (S' := (sI S_2 1101 (ad 0) (nI T))) (st' := [.int ((nI (20 * (t9 / 20))) - (nI T))]) (lv' := [(3, .int (nI T)), (0, .ref (ad 0)), (1, .ref ga), (2, .int 0)]) e_18 rfl rfl ?_
      refine j_pop C dL_close_25 rfl ?_
      refine j_aload_n C dL_close_26 rfl 2 rfl ?_
      refine j_bipush (v := 6) C dL_close_27 (by decide) ?_
      refine j_iconst (v := 0) C dL_close_29 (by decide) ?_
      refine j_iast (j := 6) C dL_close_30 hm_8 hk_9 (inr_of (n := 7) hn_10 (vp_lit (by decide))) (by decide) ?_
      refine j_aload_n C dL_close_31 rfl 1 rfl ?_
      show J _ _ _ _ _ 32 _
      refine j_iload_n C dL_close_32 rfl 3 rfl ?_
      have hf_21 : Fm (fun f9 b9 => (f9 = 1101 ∧ b9 = (ad 0)) ∨ (f9 = 1105 ∧ b9 = (ad 0))) (fun _ _ => False) (fun b9 => b9 = (ad 1) ∨ b9 = ga ∨ b9 = (ad 2) ∨ b9 = (ad 3) ∨ b9 = (ad 4)) S (tI (sI S_2 1101 (ad 0) (nI T)) ga 6 (0 : Int32)) := ((hf_12.sI _ (fun _ => (Or.inl ⟨rfl, rfl⟩))).tI _ _ (fun _ => (Or.inr (Or.inl rfl))))
      obtain ⟨S_19, eS_20⟩ : ∃ S9 : Hp, S9 = (tI (sI S_2 1101 (ad 0) (nI T)) ga 6 (0 : Int32)) := ⟨_, rfl⟩
      refine J.eq (S' := S_19) eS_20.symm rfl rfl ?_
      have hm_22 : ga ∈ hL S_19 := by rw [eS_20]; exact hm_8
      have hk_23 : Kd S_19 ga 14 := by rw [eS_20]; exact hk_9
      have hn_24 : Ln S_19 ga 7 := by rw [eS_20]; exact hn_10
      have hv_25 : hI S_19 1101 (ad 0) = nI T := by rw [eS_20]; exact (rxI_tI (S := (sI S_2 1101 (ad 0) (nI T))) (rd_sI (S := S_2) (g := 1101) (a := (ad 0)) (v := nI T)))
      have hv_26 : hI S_19 1105 (ad 0) = 0 := by rw [eS_20]; exact (rxI_tI (S := (sI S_2 1101 (ad 0) (nI T))) (rd_sIf (S := S_2) (g := 1101) (a := (ad 0)) (v := nI T) (by decide) hv_11))
      have hf_27 : Fm (fun f9 b9 => (f9 = 1101 ∧ b9 = (ad 0)) ∨ (f9 = 1105 ∧ b9 = (ad 0))) (fun _ _ => False) (fun b9 => b9 = (ad 1) ∨ b9 = ga ∨ b9 = (ad 2) ∨ b9 = (ad 3) ∨ b9 = (ad 4)) S S_19 := by rw [eS_20]; exact hf_21
      have hz_28 : ∀ j, aI S_19 (ad 4) j = 0 := by rw [eS_20]; exact (fun j9 => rd_tIa (S := (sI S_2 1101 (ad 0) (nI T))) (Ne.symm (hga 4 (by decide))) (hz_7 j9))
      have hW_29 : Wd ad S_19 := by rw [eS_20]; exact (Wd.tI (Wd.sI hW_13))
      have hx_30 : STR (aI S_19 (ad 1)) B (20 * (t9 / 20)) := by rw [eS_20]; exact (by rw [show aI (tI (sI S_2 1101 (ad 0) (nI T)) ga 6 (0 : Int32)) (ad 1) = aI S_2 (ad 1) from ((ar_tI (S := (sI S_2 1101 (ad 0) (nI T))) (Ne.symm (hga 1 (by decide)))).trans (arI_sI (S := S_2)))]; exact i2)
      have hx_31 : STR (aI S_19 (ad 1)) B T := by rw [eS_20]; exact (by rw [show aI (tI (sI S_2 1101 (ad 0) (nI T)) ga 6 (0 : Int32)) (ad 1) = aI S_2 (ad 1) from ((ar_tI (S := (sI S_2 1101 (ad 0) (nI T))) (Ne.symm (hga 1 (by decide)))).trans (arI_sI (S := S_2)))]; exact hx_14)
      refine j_callV (ci := 11) C [.int 0] [] mlL_25 mcX11_part (c_X11_part S_19 ad hW_29 T B hv_25 hv_26 hx_31 hz_28 (by omega)) (wm_0 (S := S_19) hW_29) (wk_0 (S := S_19) hW_29) rfl (M.rm (by decide) (by decide) (Nat.le_of_ble_eq_true rfl) (Nat.le_of_ble_eq_true rfl)) rfl rfl (Nat.le_of_ble_eq_true rfl) dL_close_33 (fun r_37 S_38 hp_39 => ?_)
      obtain ⟨rfl, hf_40, e_32, x_33, x_34, x_35, x_36⟩ := hp_39
      refine J.eq (st' := [.int 1]) rfl rfl rfl ?_
      have hm_41 : ga ∈ hL S_38 := hf_40.mem hm_22
      have hk_42 : Kd S_38 ga 14 := hf_40.kd hm_22 hk_23
      have hn_43 : Ln S_38 ga 7 := hf_40.ln hm_22 hn_24
      have hf_44 : Fm (fun f9 b9 => (f9 = 1101 ∧ b9 = (ad 0)) ∨ (f9 = 1105 ∧ b9 = (ad 0))) (fun _ _ => False) (fun b9 => b9 = (ad 1) ∨ b9 = ga ∨ b9 = (ad 2) ∨ b9 = (ad 3) ∨ b9 = (ad 4)) S S_38 := hf_27.then hf_40 (fun a9 ha9 => ⟨(fun f9 h9 => (fun h9 => h9.elim (fun h8 => (Or.inl h8)) (fun h8 => (Or.inr h8))) h9), (fun f9 h9 => h9.elim), (fun h9 => (fun h9 => h9.elim (fun h8 => (Or.inr (Or.inr (Or.inl h8)))) (fun h9 => h9.elim (fun h8 => (Or.inr (Or.inr (Or.inr (Or.inl h8))))) (fun h8 => (Or.inr (Or.inr (Or.inr (Or.inr h8))))))) h9)⟩)
      have hW_45 : Wd ad S_38 := hW_29.fm hf_40 (by intro _ _ h9; exact h9) (by intro p9 hp9; simp only [wqL, List.mem_cons, List.not_mem_nil, or_false] at hp9; rcases hp9 with rfl | rfl <;> intro h9 <;> rcases h9 with h9 | h9 | h9 <;> exact absurd h9 (wn hW_29 (by decide) (by decide) (by decide)))
      have hx_46 : STR (aI S_38 (ad 1)) B (20 * (t9 / 20)) := by
        have e0_9 : (aI S_38 (ad 1)) = (aI S_19 (ad 1)) := funext fun j9 => hf_40.ai (wm_1 (S := S_19) hW_29) (fun h9 => h9.elim (fun q9 => (wn (S := S_19) hW_29 (i := 1) (j := 2) (by decide) (by decide) (by decide)) q9) (fun h9 => h9.elim (fun q9 => (wn (S := S_19) hW_29 (i := 1) (j := 3) (by decide) (by decide) (by decide)) q9) (fun q9 => (wn (S := S_19) hW_29 (i := 1) (j := 4) (by decide) (by decide) (by decide)) q9))) j9
        first | (rw [e0_9]; exact hx_30) | rw [e0_9]
      have hx_47 : STR (aI S_38 (ad 1)) B T := by
        have e0_9 : (aI S_38 (ad 1)) = (aI S_19 (ad 1)) := funext fun j9 => hf_40.ai (wm_1 (S := S_19) hW_29) (fun h9 => h9.elim (fun q9 => (wn (S := S_19) hW_29 (i := 1) (j := 2) (by decide) (by decide) (by decide)) q9) (fun h9 => h9.elim (fun q9 => (wn (S := S_19) hW_29 (i := 1) (j := 3) (by decide) (by decide) (by decide)) q9) (fun q9 => (wn (S := S_19) hW_29 (i := 1) (j := 4) (by decide) (by decide) (by decide)) q9))) j9
        first | (rw [e0_9]; exact hx_31) | rw [e0_9]
      exact j_iret C M dL_close_36 (Nat.le_of_ble_eq_true rfl) (Nat.le_of_ble_eq_true rfl) ⟨rfl, hf_44, e_32, x_33, x_34, x_35, x_36⟩
    | succ m9 ih_4 =>
      intro t9 S_2  hi_6 hl_3 ht9 i1 i2 i3
      have hz_48 : ∀ j, aI S_2 (ad 4) j = 0 := fun j9 => (hl_3.ai (wm_4 (S := S) hW) (fun h9 => h9.elim (fun q9 => (wn (S := S) hW (i := 4) (j := 1) (by decide) (by decide) (by decide)) q9) (fun q9 => (Ne.symm (hga 4 (by decide))) q9)) j9).trans (hsa j9)
      have hm_49 : ga ∈ hL S_2 := hl_3.mem m_ga
      have hk_50 : Kd S_2 ga 14 := hl_3.kd m_ga k_ga
      have hn_51 : Ln S_2 ga 7 := hl_3.ln m_ga l_ga
      have hv_52 : hI S_2 1105 (ad 0) = 0 := hl_3.fi (wm_0 (S := S) hW) (fun q9 => absurd q9.1 (by decide)) hI_1105_ad0
      have hf_53 : Fm (fun f9 b9 => (f9 = 1101 ∧ b9 = (ad 0)) ∨ (f9 = 1105 ∧ b9 = (ad 0))) (fun _ _ => False) (fun b9 => b9 = (ad 1) ∨ b9 = ga ∨ b9 = (ad 2) ∨ b9 = (ad 3) ∨ b9 = (ad 4)) S S_2 := (Fm.refl (WI := (fun f9 b9 => (f9 = 1101 ∧ b9 = (ad 0)) ∨ (f9 = 1105 ∧ b9 = (ad 0)))) (WR := (fun _ _ => False)) (WA := (fun b9 => b9 = (ad 1) ∨ b9 = ga ∨ b9 = (ad 2) ∨ b9 = (ad 3) ∨ b9 = (ad 4)))).then hl_3 (fun a9 ha9 => ⟨(fun f9 h9 => (fun h8 => (Or.inl h8)) h9), (fun f9 h9 => h9.elim), (fun h9 => (fun h9 => h9.elim (fun h8 => (Or.inl h8)) (fun h8 => (Or.inr (Or.inl h8)))) h9)⟩)
      have hW_54 : Wd ad S_2 := hW.fm hl_3 (by intro _ _ h9; exact h9) (by intro p9 hp9; simp only [wqL, List.mem_cons, List.not_mem_nil, or_false] at hp9; rcases hp9 with rfl | rfl <;> intro h9 <;> rcases h9 with h9 | h9 <;> (first | exact absurd h9 (wn hW (by decide) (by decide) (by decide)) | exact absurd h9.symm (hga _ (by decide))))
      refine j_aload_n C dL_close_5 rfl 2 rfl ?_
      refine j_iconst (v := 5) C dL_close_6 (by decide) ?_
      refine j_iald (j := 5) (v := nI (t9 % 20)) C dL_close_7 hm_49 hk_50 (inr_of (n := 7) hn_51 (vp_lit (by decide))) (by decide) i3.1 ?_
      refine j_if_eq (tgt := 20) C dL_close_8 (by decide) (fun c_8 => absurd c_8 (nI_ne0 (by omega) (by omega))) (fun c_8 => ?_)
      refine j_aload_n C dL_close_11 rfl 1 rfl ?_
      refine j_aload_n C dL_close_12 rfl 2 rfl ?_
      refine j_iconst (v := 0) C dL_close_13 (by decide) ?_
      show J _ _ _ _ _ 14 _
      refine j_callS C [.ref (ad 0), .ref ga, .int 0] [] mlL_15 mcL_put (c_put S_2 ad hW_54 ga hm_49 hk_50 hn_51 hga B t9 i1 i2 i3 hb 0 (hz t9 ht9) (by omega)) (M.rm (by decide) (by decide) (Nat.le_of_ble_eq_true rfl) (Nat.le_of_ble_eq_true rfl)) rfl rfl (Nat.le_of_ble_eq_true rfl) dL_close_14 (fun r_58 S_59 hp_60 => ?_)
      obtain ⟨rfl, hf_61, e_55, x_56, x_57⟩ := hp_60
      refine J.eq (st' := []) rfl rfl rfl ?_
      have hz_62 : ∀ j, aI S_59 (ad 4) j = 0 := fun j9 => (hf_61.ai (wm_4 (S := S_2) hW_54) (fun h9 => h9.elim (fun q9 => (wn (S := S_2) hW_54 (i := 4) (j := 1) (by decide) (by decide) (by decide)) q9) (fun q9 => (Ne.symm (hga 4 (by decide))) q9)) j9).trans (hz_48 j9)
      have hm_63 : ga ∈ hL S_59 := hf_61.mem hm_49
      have hk_64 : Kd S_59 ga 14 := hf_61.kd hm_49 hk_50
      have hn_65 : Ln S_59 ga 7 := hf_61.ln hm_49 hn_51
      have hv_66 : hI S_59 1105 (ad 0) = 0 := hf_61.fi (wm_0 (S := S_2) hW_54) (fun q9 => absurd q9.1 (by decide)) hv_52
      have hf_67 : Fm (fun f9 b9 => (f9 = 1101 ∧ b9 = (ad 0)) ∨ (f9 = 1105 ∧ b9 = (ad 0))) (fun _ _ => False) (fun b9 => b9 = (ad 1) ∨ b9 = ga ∨ b9 = (ad 2) ∨ b9 = (ad 3) ∨ b9 = (ad 4)) S S_59 := hf_53.then hf_61 (fun a9 ha9 => ⟨(fun f9 h9 => (fun h8 => (Or.inl h8)) h9), (fun f9 h9 => h9.elim), (fun h9 => (fun h9 => h9.elim (fun h8 => (Or.inl h8)) (fun h8 => (Or.inr (Or.inl h8)))) h9)⟩)
      have hf_68 : Fm (fun f9 b9 => (f9 = 1101 ∧ b9 = (ad 0))) (fun _ _ => False) (fun b9 => b9 = (ad 1) ∨ b9 = ga) S S_59 := hl_3.then hf_61 (fun a9 ha9 => ⟨(fun f9 h9 => (fun h8 => h8) h9), (fun f9 h9 => h9.elim), (fun h9 => (fun h9 => h9.elim (fun h8 => (Or.inl h8)) (fun h8 => (Or.inr h8))) h9)⟩)
      have hW_69 : Wd ad S_59 := hW_54.fm hf_61 (by intro _ _ h9; exact h9) (by intro p9 hp9; simp only [wqL, List.mem_cons, List.not_mem_nil, or_false] at hp9; rcases hp9 with rfl | rfl <;> intro h9 <;> rcases h9 with h9 | h9 <;> (first | exact absurd h9 (wn hW_54 (by decide) (by decide) (by decide)) | exact absurd h9.symm (hga _ (by decide))))
      refine j_goto (tgt := 5) C dL_close_17 (by decide) ?_
      refine J.sub [0, 1, 2, 3] (lv' := [(3, .int (nI T)), (0, .ref (ad 0)), (1, .ref ga), (2, .int 0)]) (by rfl) ?_
      exact ih_4 (t9 + 1) _  (by omega) hf_68 (by omega) e_55 x_56 x_57
  refine J.sub [0, 1, 2, 3] (lv' := [(3, .int (nI T)), (0, .ref (ad 0)), (1, .ref ga), (2, .int 0)]) (by rfl) ?_
  exact loop_5 ((20 * ((T + 19) / 20)) - T) T _  (by omega) Fm.refl (Nat.le_refl _) hI_1101_ad0 hs hgs
