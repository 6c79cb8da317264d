/-- an array's 13 rows -/
def RWs (S : Hp) (a : Nat) (l : List Nat) : Prop := l.length = 13 ∧ ∀ i v, l[i]? = some v → aR S a i = some v ∧ v ∈ hL S ∧ Kd S v 14 ∧ Ln S v 16000
theorem RWs.fm {S S' : Hp} {a : Nat} {l : List Nat} {WI WR : Nat → Nat → Prop} {WA : Nat → Prop} (H : RWs S a l) (hf : Fm WI WR WA S S') (ha : a ∈ hL S) (hn : ¬ WA a) : RWs S' a l := ⟨H.1, fun i v h => by
  obtain ⟨h1, h2, h3, h4⟩ := H.2 i v h
  exact ⟨(hf.ar ha hn i).trans h1, hf.mem h2, hf.kd h2 h3, hf.ln h2 h4⟩⟩
theorem rows_of {S S' : Hp} {a : Nat} (ha : a ∉ hL S) (ha' : a ∈ hL S') (hk : Kd S' a 21) (h : Rows S S' a 13 16000) : ∃ l : List Nat, RWs S' a l ∧ NL S (a :: l) S' := by
  obtain ⟨r, hr⟩ : ∃ r : Nat → Nat, ∀ i, i < 13 → aR S' a i = some (r i) ∧ r i ∉ hL S ∧ r i ∈ hL S' ∧ Kd S' (r i) 14 ∧ Ln S' (r i) 16000 ∧ ∀ j, aI S' (r i) j = 0 :=
    ⟨fun i => if q : i < 13 then (h.1 i q).choose else 0, fun i q => by simp only [dif_pos q]; exact (h.1 i q).choose_spec⟩
  refine ⟨(List.range 13).map r, ⟨by simp, fun i v hv => ?_⟩, List.Pairwise.cons (fun b hb => ?_) ?_, fun q hq => ?_⟩
  · have hi : i < 13 := by
      have := (List.getElem?_eq_some_iff.1 hv).1
      simpa using this
    have e : r i = v := by simpa [hi] using hv
    obtain ⟨h1, h2, h3, h4, h5, h6⟩ := hr i hi
    rw [← e]
    exact ⟨h1, h3, h4, h5⟩
  · obtain ⟨i, hi, rfl⟩ := List.mem_map.mp hb
    obtain ⟨h1, h2, h3, h4, h5, h6⟩ := hr i (List.mem_range.mp hi)
    intro e
    have h7 : hK S' a = 21 := hk
    have h8 : hK S' (r i) = 14 := h4
    rw [e, h8] at h7
    omega
  · refine List.pairwise_iff_getElem.mpr fun i j hi hj hij e => ?_
    have hi' : i < 13 := by simpa using hi
    have hj' : j < 13 := by simpa using hj
    have e2 : r i = r j := by simpa using e
    have h1 := (hr i hi').1
    have h2 := (hr j hj').1
    rw [e2] at h1
    exact absurd (h.2 i j _ hi' hj' h1 h2) (by omega)
  · rcases List.mem_cons.mp hq with rfl | hq
    · exact ⟨ha, ha'⟩
    · obtain ⟨i, hi, rfl⟩ := List.mem_map.mp hq
      obtain ⟨h1, h2, h3, h4, h5, h6⟩ := hr i (List.mem_range.mp hi)
      exact ⟨h2, h3⟩

theorem dX6_init_0 : decode cX6_init 0 = .ok (.aload_n 0, 1) := by decide +kernel
theorem dX6_init_1 : decode cX6_init 1 = .ok (.invokespecial 3, 3) := by decide +kernel
theorem dX6_init_4 : decode cX6_init 4 = .ok (.aload_n 0, 1) := by decide +kernel
theorem dX6_init_5 : decode cX6_init 5 = .ok (.ldc 11, 2) := by decide +kernel
theorem dX6_init_7 : decode cX6_init 7 = .ok (.newarray .byte, 2) := by decide +kernel
theorem dX6_init_9 : decode cX6_init 9 = .ok (.putfield 12, 3) := by decide +kernel
theorem dX6_init_12 : decode cX6_init 12 = .ok (.aload_n 0, 1) := by decide +kernel
theorem dX6_init_13 : decode cX6_init 13 = .ok (.bipush 12, 2) := by decide +kernel
theorem dX6_init_15 : decode cX6_init 15 = .ok (.newarray .int, 2) := by decide +kernel
theorem dX6_init_17 : decode cX6_init 17 = .ok (.putfield 16, 3) := by decide +kernel
theorem dX6_init_20 : decode cX6_init 20 = .ok (.aload_n 0, 1) := by decide +kernel
theorem dX6_init_21 : decode cX6_init 21 = .ok (.bipush 12, 2) := by decide +kernel
theorem dX6_init_23 : decode cX6_init 23 = .ok (.newarray .int, 2) := by decide +kernel
theorem dX6_init_25 : decode cX6_init 25 = .ok (.putfield 20, 3) := by decide +kernel
theorem dX6_init_28 : decode cX6_init 28 = .ok (.aload_n 0, 1) := by decide +kernel
theorem dX6_init_29 : decode cX6_init 29 = .ok (.bipush 13, 2) := by decide +kernel
theorem dX6_init_31 : decode cX6_init 31 = .ok (.sipush 16000, 3) := by decide +kernel
theorem dX6_init_34 : decode cX6_init 34 = .ok (.multianewarray 23 2, 4) := by decide +kernel
theorem dX6_init_38 : decode cX6_init 38 = .ok (.putfield 25, 3) := by decide +kernel
theorem dX6_init_41 : decode cX6_init 41 = .ok (.return_, 1) := by decide +kernel

set_option maxRecDepth 100000 in
set_option maxHeartbeats 4000000 in
theorem c_X6_init (S : Hp) (h : Nat) (hm : h ∈ hL S) (hk : hK S h = 6) : Ct 1 yX6_init cX6_init 1 none 17 268037 [.ref h] S (fun r S' => r = none ∧ Fm (fun _ _ => False) (fun f9 b9 => b9 = h) (fun _ => False) S S' ∧ ∃ (q0 q1 q2 q3 : Nat) (l : List Nat), q0 ∈ hL S' ∧ Kd S' q0 13 ∧ Ln S' q0 60000 ∧ q1 ∈ hL S' ∧ Kd S' q1 14 ∧ Ln S' q1 12 ∧ q2 ∈ hL S' ∧ Kd S' q2 14 ∧ Ln S' q2 12 ∧ q3 ∈ hL S' ∧ Kd S' q3 21 ∧ Ln S' q3 13 ∧ hR S' 600 h = some q0 ∧ hR S' 604 h = some q1 ∧ hR S' 605 h = some q2 ∧ hR S' 606 h = some q3 ∧ RWs S' q3 l ∧ NL S ([q0, q1, q2] ++ (q3 :: l)) S') := by
  refine ct_of (by decide) (Nat.le_of_ble_eq_true rfl) fun x hn9 C M hm9 => ?_
  have C : CB x RX6 cX6_init := C
  refine J.eq (lv' := [(0, .ref h)]) rfl rfl rfl ?_
  refine j_aload_n C dX6_init_0 rfl 0 rfl ?_
  refine j_objInit C mlX6_3 nst_oi (M.fl (by decide)) dX6_init_1 ?_
  refine j_aload_n C dX6_init_4 rfl 0 rfl ?_
  refine j_ldc (v := 60000) C dX6_init_5 kcX6_11 ?_
  refine j_newB (N := 60000) C ka_byte (by decide) (by decide) (Nat.le_of_ble_eq_true rfl) (M.cells (by decide)) (M.slots (Nat.le_of_ble_eq_true rfl)) dX6_init_7 (fun q_1 hq_2 => ?_)
  have hz_3 : q_1 ∉ hL S := hq_2
  refine j_putrF (f := 600) C hm9 flX6_12o (by decide) rfl rfl dX6_init_9 (mem_old hm) (kd_nA (k := 13) (n := 60000) hq_2 hm hk) rfl ?_
  refine j_aload_n C dX6_init_12 rfl 0 rfl ?_
  refine j_bipush (v := 12) C dX6_init_13 (by decide) ?_
  show J _ _ _ _ _ 15 _
  have hf_6 : Fm (fun _ _ => False) (fun f9 b9 => b9 = h) (fun _ => False) S (sR (nA S q_1 13 60000) 600 h (some q_1)) := (((Fm.refl (WI := (fun _ _ => False)) (WR := (fun f9 b9 => b9 = h)) (WA := (fun _ => False))).nA _ _ hq_2).sR _ (fun _ => rfl))
  obtain ⟨S_4, eS_5⟩ : ∃ S9 : Hp, S9 = (sR (nA S q_1 13 60000) 600 h (some q_1)) := ⟨_, rfl⟩
  refine J.eq (S' := S_4) eS_5.symm rfl rfl ?_
  have hm_7 : h ∈ hL S_4 := by rw [eS_5]; exact (mem_old hm)
  have hk_8 : Kd S_4 h 6 := by rw [eS_5]; exact (kd_nA (k := 13) (n := 60000) hq_2 hm hk)
  have hm_9 : q_1 ∈ hL S_4 := by rw [eS_5]; exact mem_new
  have hk_10 : Kd S_4 q_1 13 := by rw [eS_5]; exact (kd_nA' (k := 13) (n := 60000))
  have hn_11 : Ln S_4 q_1 60000 := by rw [eS_5]; exact (ln_nA' (k := 13))
  have hz_12 : ∀ j, aI S_4 q_1 j = 0 := by rw [eS_5]; exact (fun j9 => rd_nAI' (k := 13) (n := 60000))
  have hv_13 : hR S_4 600 h = (some q_1) := by rw [eS_5]; exact (rd_sR (S := (nA S q_1 13 60000)) (g := 600) (a := h) (v := (some q_1)))
  have hf_14 : Fm (fun _ _ => False) (fun f9 b9 => b9 = h) (fun _ => False) S S_4 := by rw [eS_5]; exact hf_6
  have hN_15 : NL S [q_1] S_4 := by rw [eS_5]; exact (NL.sR (S := (nA S q_1 13 60000)) (show NL S [q_1] (nA S q_1 13 60000) from NL.nA (NL.nil : NL S [] S) hq_2 hz_3))
  refine j_newI (N := 12) C ka_int (by decide) (by decide) (Nat.le_of_ble_eq_true rfl) (M.cells (by decide)) (M.slots (Nat.le_of_ble_eq_true rfl)) dX6_init_15 (fun q_16 hq_17 => ?_)
  have hz_18 : q_16 ∉ hL S := fun h9 => hq_17 (hf_14.mem h9)
  refine j_putrF (f := 604) C hm9 flX6_16o (by decide) rfl rfl dX6_init_17 (mem_old hm_7) (kd_nA (k := 14) (n := 12) hq_17 hm_7 hk_8) rfl ?_
  refine j_aload_n C dX6_init_20 rfl 0 rfl ?_
  refine j_bipush (v := 12) C dX6_init_21 (by decide) ?_
  have hf_21 : Fm (fun _ _ => False) (fun f9 b9 => b9 = h) (fun _ => False) S (sR (nA S_4 q_16 14 12) 604 h (some q_16)) := ((hf_14.nA _ _ hq_17).sR _ (fun _ => rfl))
  obtain ⟨S_19, eS_20⟩ : ∃ S9 : Hp, S9 = (sR (nA S_4 q_16 14 12) 604 h (some q_16)) := ⟨_, rfl⟩
  refine J.eq (S' := S_19) eS_20.symm rfl rfl ?_
  have hm_22 : h ∈ hL S_19 := by rw [eS_20]; exact (mem_old hm_7)
  have hk_23 : Kd S_19 h 6 := by rw [eS_20]; exact (kd_nA (k := 14) (n := 12) hq_17 hm_7 hk_8)
  have hm_24 : q_1 ∈ hL S_19 := by rw [eS_20]; exact (mem_old hm_9)
  have hk_25 : Kd S_19 q_1 13 := by rw [eS_20]; exact (kd_nA (k := 14) (n := 12) hq_17 hm_9 hk_10)
  have hn_26 : Ln S_19 q_1 60000 := by rw [eS_20]; exact (ln_nA (k := 14) hq_17 hm_9 hn_11)
  have hz_27 : ∀ j, aI S_19 q_1 j = 0 := by rw [eS_20]; exact (fun j9 => rd_nAI (k := 14) (n := 12) hq_17 hm_9 (hz_12 j9))
  have hm_28 : q_16 ∈ hL S_19 := by rw [eS_20]; exact mem_new
  have hk_29 : Kd S_19 q_16 14 := by rw [eS_20]; exact (kd_nA' (k := 14) (n := 12))
  have hn_30 : Ln S_19 q_16 12 := by rw [eS_20]; exact (ln_nA' (k := 14))
  have hz_31 : ∀ j, aI S_19 q_16 j = 0 := by rw [eS_20]; exact (fun j9 => rd_nAI' (k := 14) (n := 12))
  have hv_32 : hR S_19 600 h = (some q_1) := by rw [eS_20]; exact (rd_sRf (S := (nA S_4 q_16 14 12)) (g := 604) (a := h) (v := (some q_16)) (by decide) hv_13)
  have hv_33 : hR S_19 604 h = (some q_16) := by rw [eS_20]; exact (rd_sR (S := (nA S_4 q_16 14 12)) (g := 604) (a := h) (v := (some q_16)))
  have hf_34 : Fm (fun _ _ => False) (fun f9 b9 => b9 = h) (fun _ => False) S S_19 := by rw [eS_20]; exact hf_21
  have hN_35 : NL S [q_1, q_16] S_19 := by rw [eS_20]; exact (NL.sR (S := (nA S_4 q_16 14 12)) (show NL S [q_1, q_16] (nA S_4 q_16 14 12) from NL.nA hN_15 hq_17 hz_18))
  refine j_newI (N := 12) C ka_int (by decide) (by decide) (Nat.le_of_ble_eq_true rfl) (M.cells (by decide)) (M.slots (Nat.le_of_ble_eq_true rfl)) dX6_init_23 (fun q_36 hq_37 => ?_)
  have hz_38 : q_36 ∉ hL S := fun h9 => hq_37 (hf_34.mem h9)
  refine j_putrF (f := 605) C hm9 flX6_20o (by decide) rfl rfl dX6_init_25 (mem_old hm_22) (kd_nA (k := 14) (n := 12) hq_37 hm_22 hk_23) rfl ?_
  refine j_aload_n C dX6_init_28 rfl 0 rfl ?_
  refine j_bipush (v := 13) C dX6_init_29 (by decide) ?_
  show J _ _ _ _ _ 31 _
  refine j_sipush (v := 16000) C dX6_init_31 (by decide) ?_
  have hf_41 : Fm (fun _ _ => False) (fun f9 b9 => b9 = h) (fun _ => False) S (sR (nA S_19 q_36 14 12) 605 h (some q_36)) := ((hf_34.nA _ _ hq_37).sR _ (fun _ => rfl))
  obtain ⟨S_39, eS_40⟩ : ∃ S9 : Hp, S9 = (sR (nA S_19 q_36 14 12) 605 h (some q_36)) := ⟨_, rfl⟩
  refine J.eq (S' := S_39) eS_40.symm rfl rfl ?_
  have hm_42 : h ∈ hL S_39 := by rw [eS_40]; exact (mem_old hm_22)
  have hk_43 : Kd S_39 h 6 := by rw [eS_40]; exact (kd_nA (k := 14) (n := 12) hq_37 hm_22 hk_23)
  have hm_44 : q_1 ∈ hL S_39 := by rw [eS_40]; exact (mem_old hm_24)
  have hk_45 : Kd S_39 q_1 13 := by rw [eS_40]; exact (kd_nA (k := 14) (n := 12) hq_37 hm_24 hk_25)
  have hn_46 : Ln S_39 q_1 60000 := by rw [eS_40]; exact (ln_nA (k := 14) hq_37 hm_24 hn_26)
  have hz_47 : ∀ j, aI S_39 q_1 j = 0 := by rw [eS_40]; exact (fun j9 => rd_nAI (k := 14) (n := 12) hq_37 hm_24 (hz_27 j9))
  have hm_48 : q_16 ∈ hL S_39 := by rw [eS_40]; exact (mem_old hm_28)
  have hk_49 : Kd S_39 q_16 14 := by rw [eS_40]; exact (kd_nA (k := 14) (n := 12) hq_37 hm_28 hk_29)
  have hn_50 : Ln S_39 q_16 12 := by rw [eS_40]; exact (ln_nA (k := 14) hq_37 hm_28 hn_30)
  have hz_51 : ∀ j, aI S_39 q_16 j = 0 := by rw [eS_40]; exact (fun j9 => rd_nAI (k := 14) (n := 12) hq_37 hm_28 (hz_31 j9))
  have hm_52 : q_36 ∈ hL S_39 := by rw [eS_40]; exact mem_new
  have hk_53 : Kd S_39 q_36 14 := by rw [eS_40]; exact (kd_nA' (k := 14) (n := 12))
  have hn_54 : Ln S_39 q_36 12 := by rw [eS_40]; exact (ln_nA' (k := 14))
  have hz_55 : ∀ j, aI S_39 q_36 j = 0 := by rw [eS_40]; exact (fun j9 => rd_nAI' (k := 14) (n := 12))
  have hv_56 : hR S_39 600 h = (some q_1) := by rw [eS_40]; exact (rd_sRf (S := (nA S_19 q_36 14 12)) (g := 605) (a := h) (v := (some q_36)) (by decide) hv_32)
  have hv_57 : hR S_39 604 h = (some q_16) := by rw [eS_40]; exact (rd_sRf (S := (nA S_19 q_36 14 12)) (g := 605) (a := h) (v := (some q_36)) (by decide) hv_33)
  have hv_58 : hR S_39 605 h = (some q_36) := by rw [eS_40]; exact (rd_sR (S := (nA S_19 q_36 14 12)) (g := 605) (a := h) (v := (some q_36)))
  have hf_59 : Fm (fun _ _ => False) (fun f9 b9 => b9 = h) (fun _ => False) S S_39 := by rw [eS_40]; exact hf_41
  have hN_60 : NL S [q_1, q_16, q_36] S_39 := by rw [eS_40]; exact (NL.sR (S := (nA S_19 q_36 14 12)) (show NL S [q_1, q_16, q_36] (nA S_19 q_36 14 12) from NL.nA hN_35 hq_37 hz_38))
  refine j_mna (N := 13) (K := 16000) C klX6_23 (by decide) (by decide) (by decide) (by decide) (by decide) (by decide) (M.cells (by decide)) (M.slots (Nat.le_of_ble_eq_true rfl)) dX6_init_34 ka_int (fun q_61 S_62 e_63 hf_64 e_65 e_66 e_67 e_68 => ?_)
  have hz_69 : ∀ j, aI S_62 q_1 j = 0 := fun j9 => (hf_64.ai hm_44 (fun h9 => h9) j9).trans (hz_47 j9)
  have hz_70 : ∀ j, aI S_62 q_16 j = 0 := fun j9 => (hf_64.ai hm_48 (fun h9 => h9) j9).trans (hz_51 j9)
  have hz_71 : ∀ j, aI S_62 q_36 j = 0 := fun j9 => (hf_64.ai hm_52 (fun h9 => h9) j9).trans (hz_55 j9)
  have hm_72 : h ∈ hL S_62 := hf_64.mem hm_42
  have hk_73 : Kd S_62 h 6 := hf_64.kd hm_42 hk_43
  have hm_74 : q_1 ∈ hL S_62 := hf_64.mem hm_44
  have hk_75 : Kd S_62 q_1 13 := hf_64.kd hm_44 hk_45
  have hn_76 : Ln S_62 q_1 60000 := hf_64.ln hm_44 hn_46
  have hm_77 : q_16 ∈ hL S_62 := hf_64.mem hm_48
  have hk_78 : Kd S_62 q_16 14 := hf_64.kd hm_48 hk_49
  have hn_79 : Ln S_62 q_16 12 := hf_64.ln hm_48 hn_50
  have hm_80 : q_36 ∈ hL S_62 := hf_64.mem hm_52
  have hk_81 : Kd S_62 q_36 14 := hf_64.kd hm_52 hk_53
  have hn_82 : Ln S_62 q_36 12 := hf_64.ln hm_52 hn_54
  have hv_83 : hR S_62 600 h = (some q_1) := hf_64.fr hm_42 (fun h9 => h9) hv_56
  have hv_84 : hR S_62 604 h = (some q_16) := hf_64.fr hm_42 (fun h9 => h9) hv_57
  have hv_85 : hR S_62 605 h = (some q_36) := hf_64.fr hm_42 (fun h9 => h9) hv_58
  have hf_86 : Fm (fun _ _ => False) (fun f9 b9 => b9 = h) (fun _ => False) S S_62 := hf_59.then hf_64 (fun a9 ha9 => ⟨(fun f9 h9 => h9.elim), (fun f9 h9 => h9.elim), (fun h9 => h9.elim)⟩)
  have hN_87 : NL S [q_1, q_16, q_36] S_62 := NL.mono hN_60 (fun a9 h9 => hf_64.mem h9)
  have hz_88 : q_61 ∉ hL S := fun h9 => e_63 (hf_59.mem h9)
  obtain ⟨rl_89, hRW_90, hNr_91⟩ := rows_of e_63 e_65 e_66 e_68
  have hN_92 : NL S ([q_1, q_16, q_36] ++ (q_61 :: rl_89)) S_62 := NL.app hN_60 hNr_91 (fun a9 h9 => hf_64.mem h9) (fun a9 h9 => hf_59.mem h9)
  refine j_putrF (f := 606) C hm9 flX6_25o (by decide) rfl rfl dX6_init_38 hm_72 hk_73 rfl ?_
  exact j_vret C M dX6_init_41 (Nat.le_of_ble_eq_true rfl) (Nat.le_of_ble_eq_true rfl) ⟨rfl, (hf_86.sR _ (fun _ => rfl)), q_1, q_16, q_36, q_61, rl_89, hm_74, hk_75, hn_76, hm_77, hk_78, hn_79, hm_80, hk_81, hn_82, e_65, e_66, e_67, (rd_sRf (S := S_62) (g := 606) (a := h) (v := (some q_61)) (by decide) hv_83), (rd_sRf (S := S_62) (g := 606) (a := h) (v := (some q_61)) (by decide) hv_84), (rd_sRf (S := S_62) (g := 606) (a := h) (v := (some q_61)) (by decide) hv_85), (rd_sR (S := S_62) (g := 606) (a := h) (v := (some q_61))), (show RWs (sR S_62 606 h (some q_61)) q_61 rl_89 from hRW_90), (NL.sR (S := S_62) hN_92)⟩

theorem s9_p : ∀ p ∈ s9P, p.2.1 < s9K.length := by decide +kernel
theorem s9_n : ∀ p ∈ s9N, p.1 < s9K.length := by decide +kernel
theorem s9_q : ∀ p ∈ s9Q, p.1 < s9K.length := by decide +kernel
theorem s9_l : s9K.length = 106 := by decide +kernel

theorem dX11_init_0 : decode cX11_init 0 = .ok (.aload_n 0, 1) := by decide +kernel
theorem dX11_init_1 : decode cX11_init 1 = .ok (.invokespecial 1, 3) := by decide +kernel
theorem dX11_init_4 : decode cX11_init 4 = .ok (.aload_n 0, 1) := by decide +kernel
theorem dX11_init_5 : decode cX11_init 5 = .ok (.sipush 8000, 3) := by decide +kernel
theorem dX11_init_8 : decode cX11_init 8 = .ok (.newarray .byte, 2) := by decide +kernel
theorem dX11_init_10 : decode cX11_init 10 = .ok (.putfield 9, 3) := by decide +kernel
theorem dX11_init_13 : decode cX11_init 13 = .ok (.aload_n 0, 1) := by decide +kernel
theorem dX11_init_14 : decode cX11_init 14 = .ok (.sipush 12000, 3) := by decide +kernel
theorem dX11_init_17 : decode cX11_init 17 = .ok (.newarray .byte, 2) := by decide +kernel
theorem dX11_init_19 : decode cX11_init 19 = .ok (.putfield 13, 3) := by decide +kernel
theorem dX11_init_22 : decode cX11_init 22 = .ok (.aload_n 0, 1) := by decide +kernel
theorem dX11_init_23 : decode cX11_init 23 = .ok (.bipush 6, 2) := by decide +kernel
theorem dX11_init_25 : decode cX11_init 25 = .ok (.newarray .int, 2) := by decide +kernel
theorem dX11_init_27 : decode cX11_init 27 = .ok (.putfield 16, 3) := by decide +kernel
theorem dX11_init_30 : decode cX11_init 30 = .ok (.aload_n 0, 1) := by decide +kernel
theorem dX11_init_31 : decode cX11_init 31 = .ok (.bipush 7, 2) := by decide +kernel
theorem dX11_init_33 : decode cX11_init 33 = .ok (.newarray .int, 2) := by decide +kernel
theorem dX11_init_35 : decode cX11_init 35 = .ok (.putfield 20, 3) := by decide +kernel
theorem dX11_init_38 : decode cX11_init 38 = .ok (.aload_n 0, 1) := by decide +kernel
theorem dX11_init_39 : decode cX11_init 39 = .ok (.iconst (-1), 1) := by decide +kernel
theorem dX11_init_40 : decode cX11_init 40 = .ok (.putfield 23, 3) := by decide +kernel
theorem dX11_init_43 : decode cX11_init 43 = .ok (.aload_n 0, 1) := by decide +kernel
theorem dX11_init_44 : decode cX11_init 44 = .ok (.iconst (-1), 1) := by decide +kernel
theorem dX11_init_45 : decode cX11_init 45 = .ok (.putfield 27, 3) := by decide +kernel
theorem dX11_init_48 : decode cX11_init 48 = .ok (.aload_n 0, 1) := by decide +kernel
theorem dX11_init_49 : decode cX11_init 49 = .ok (.new 30, 3) := by decide +kernel
theorem dX11_init_52 : decode cX11_init 52 = .ok (.dup, 1) := by decide +kernel
theorem dX11_init_53 : decode cX11_init 53 = .ok (.invokespecial 32, 3) := by decide +kernel
theorem dX11_init_56 : decode cX11_init 56 = .ok (.putfield 33, 3) := by decide +kernel
theorem dX11_init_59 : decode cX11_init 59 = .ok (.aload_n 0, 1) := by decide +kernel
theorem dX11_init_60 : decode cX11_init 60 = .ok (.new 37, 3) := by decide +kernel
theorem dX11_init_63 : decode cX11_init 63 = .ok (.dup, 1) := by decide +kernel
theorem dX11_init_64 : decode cX11_init 64 = .ok (.aload_n 0, 1) := by decide +kernel
theorem dX11_init_65 : decode cX11_init 65 = .ok (.getfield 33, 3) := by decide +kernel
theorem dX11_init_68 : decode cX11_init 68 = .ok (.invokespecial 39, 3) := by decide +kernel
theorem dX11_init_71 : decode cX11_init 71 = .ok (.putfield 42, 3) := by decide +kernel
theorem dX11_init_74 : decode cX11_init 74 = .ok (.aload_n 0, 1) := by decide +kernel
theorem dX11_init_75 : decode cX11_init 75 = .ok (.new 46, 3) := by decide +kernel
theorem dX11_init_78 : decode cX11_init 78 = .ok (.dup, 1) := by decide +kernel
theorem dX11_init_79 : decode cX11_init 79 = .ok (.aload_n 0, 1) := by decide +kernel
theorem dX11_init_80 : decode cX11_init 80 = .ok (.getfield 33, 3) := by decide +kernel
theorem dX11_init_83 : decode cX11_init 83 = .ok (.invokespecial 48, 3) := by decide +kernel
theorem dX11_init_86 : decode cX11_init 86 = .ok (.putfield 49, 3) := by decide +kernel
theorem dX11_init_89 : decode cX11_init 89 = .ok (.return_, 1) := by decide +kernel

set_option maxRecDepth 100000 in
set_option maxHeartbeats 4000000 in
theorem c_X11_init (S : Hp) (h : Nat) (hm : h ∈ hL S) (hk : hK S h = 11) : Ct 5 yX11_init cX11_init 1 none 141 384920 [.ref h] S (fun r S' => r = none ∧ Fm (fun f9 b9 => (f9 = 1110 ∧ b9 = h) ∨ (f9 = 1111 ∧ b9 = h)) (fun f9 b9 => b9 = h) (fun _ => False) S S' ∧ hI S' 1110 h = (-1) ∧ hI S' 1111 h = (-1) ∧ ∃ (o_tp o_jb o_so o_sa o_g o_gb o_gw o_gh o_gd : Nat) (l6 : List Nat) (o_w : Nat) (l9 : List Nat) (o_pi o_pse o_pst o_pru : Nat), (o_tp ∈ hL S' ∧ Kd S' o_tp 13) ∧ (o_jb ∈ hL S' ∧ Kd S' o_jb 13) ∧ (o_so ∈ hL S' ∧ Kd S' o_so 14) ∧ (o_sa ∈ hL S' ∧ Kd S' o_sa 14) ∧ (o_g ∈ hL S' ∧ Kd S' o_g 6) ∧ (o_gb ∈ hL S' ∧ Kd S' o_gb 13) ∧ (o_gw ∈ hL S' ∧ Kd S' o_gw 14) ∧ (o_gh ∈ hL S' ∧ Kd S' o_gh 14) ∧ (o_gd ∈ hL S' ∧ Kd S' o_gd 21) ∧ (o_pi ∈ hL S' ∧ Kd S' o_pi 3) ∧ (o_pse ∈ hL S' ∧ Kd S' o_pse 15) ∧ (o_pst ∈ hL S' ∧ Kd S' o_pst 13) ∧ (o_pru ∈ hL S' ∧ Kd S' o_pru 16) ∧ Ln S' o_tp 8000 ∧ Ln S' o_jb 12000 ∧ Ln S' o_so 6 ∧ Ln S' o_sa 7 ∧ Ln S' o_gb 60000 ∧ Ln S' o_gw 12 ∧ Ln S' o_gh 12 ∧ Ln S' o_gd 13 ∧ Ln S' o_pse 12 ∧ Ln S' o_pst 12000 ∧ Ln S' o_pru 16384 ∧ hR S' 1100 h = some o_tp ∧ hR S' 1102 h = some o_jb ∧ hR S' 1103 h = some o_so ∧ hR S' 1104 h = some o_sa ∧ hR S' 1106 h = some o_g ∧ hR S' 1107 h = some o_w ∧ hR S' 1108 h = some o_pi ∧ hR S' 600 o_g = some o_gb ∧ hR S' 604 o_g = some o_gw ∧ hR S' 605 o_g = some o_gh ∧ hR S' 606 o_g = some o_gd ∧ hR S' 900 o_w = some o_g ∧ hR S' 300 o_pi = some o_g ∧ hR S' 307 o_pi = some o_pse ∧ hR S' 317 o_pi = some o_pst ∧ hR S' 320 o_pi = some o_pru ∧ RWs S' o_gd l6 ∧ Wt s9K s9N s9P s9Q (fun i => (o_w :: l9).getD i 0) S' ∧ (o_w :: l9).length = 106 ∧ NL S (((((((((([] ++ [o_tp]) ++ [o_jb]) ++ [o_so]) ++ [o_sa]) ++ [o_g]) ++ ([o_gb, o_gw, o_gh] ++ (o_gd :: l6))) ++ [o_w]) ++ l9) ++ [o_pi]) ++ [o_pse, o_pst, o_pru]) S' ∧ (∀ j, aI S' o_sa j = 0) ∧ (∀ j, aI S' ((o_w :: l9).getD 6 0) j = 0) ∧ (∀ j, aI S' ((o_w :: l9).getD 9 0) j = 0) ∧ (∀ j, aI S' ((o_w :: l9).getD 14 0) j = 0) ∧ (∀ j, aI S' ((o_w :: l9).getD 19 0) j = 0)) := by
  refine ct_of (by decide) (Nat.le_of_ble_eq_true rfl) fun x hn9 C M hm9 => ?_
  have C : CB x RX11 cX11_init := C
  refine J.eq (lv' := [(0, .ref h)]) rfl rfl rfl ?_
  refine j_aload_n C dX11_init_0 rfl 0 rfl ?_
  refine j_objInit C mlX11_1 nst_oi (M.fl (by decide)) dX11_init_1 ?_
  refine j_aload_n C dX11_init_4 rfl 0 rfl ?_
  refine j_sipush (v := 8000) C dX11_init_5 (by decide) ?_
  refine j_newB (N := 8000) C ka_byte (by decide) (by decide) (Nat.le_of_ble_eq_true rfl) (M.cells (by decide)) (M.slots (Nat.le_of_ble_eq_true rfl)) dX11_init_8 (fun q_1 hq_2 => ?_)
  have hz_3 : q_1 ∉ hL S := hq_2
  refine j_putrF (f := 1100) C hm9 flX11_9o (by decide) rfl rfl dX11_init_10 (mem_old hm) (kd_nA (k := 13) (n := 8000) hq_2 hm hk) rfl ?_
  refine j_aload_n C dX11_init_13 rfl 0 rfl ?_
  refine j_sipush (v := 12000) C dX11_init_14 (by decide) ?_
  show J _ _ _ _ _ 17 _
  have hf_6 : Fm (fun f9 b9 => (f9 = 1110 ∧ b9 = h) ∨ (f9 = 1111 ∧ b9 = h)) (fun f9 b9 => b9 = h) (fun _ => False) S (sR (nA S q_1 13 8000) 1100 h (some q_1)) := (((Fm.refl (WI := (fun f9 b9 => (f9 = 1110 ∧ b9 = h) ∨ (f9 = 1111 ∧ b9 = h))) (WR := (fun f9 b9 => b9 = h)) (WA := (fun _ => False))).nA _ _ hq_2).sR _ (fun _ => rfl))
  obtain ⟨S_4, eS_5⟩ : ∃ S9 : Hp, S9 = (sR (nA S q_1 13 8000) 1100 h (some q_1)) := ⟨_, rfl⟩
  refine J.eq (S' := S_4) eS_5.symm rfl rfl ?_
  have hm_7 : h ∈ hL S_4 := by rw [eS_5]; exact (mem_old hm)
  have hk_8 : Kd S_4 h 11 := by rw [eS_5]; exact (kd_nA (k := 13) (n := 8000) hq_2 hm hk)
  have hm_9 : q_1 ∈ hL S_4 := by rw [eS_5]; exact mem_new
  have hk_10 : Kd S_4 q_1 13 := by rw [eS_5]; exact (kd_nA' (k := 13) (n := 8000))
  have hn_11 : Ln S_4 q_1 8000 := by rw [eS_5]; exact (ln_nA' (k := 13))
  have hz_12 : ∀ j, aI S_4 q_1 j = 0 := by rw [eS_5]; exact (fun j9 => rd_nAI' (k := 13) (n := 8000))
  have hv_13 : hR S_4 1100 h = (some q_1) := by rw [eS_5]; exact (rd_sR (S := (nA S q_1 13 8000)) (g := 1100) (a := h) (v := (some q_1)))
  have hf_14 : Fm (fun f9 b9 => (f9 = 1110 ∧ b9 = h) ∨ (f9 = 1111 ∧ b9 = h)) (fun f9 b9 => b9 = h) (fun _ => False) S S_4 := by rw [eS_5]; exact hf_6
  have hN_15 : NL S ([] ++ [q_1]) S_4 := by rw [eS_5]; exact (NL.sR (S := (nA S q_1 13 8000)) (show NL S ([] ++ [q_1]) (nA S q_1 13 8000) from NL.nA (NL.nil : NL S [] S) hq_2 hz_3))
  refine j_newB (N := 12000) C ka_byte (by decide) (by decide) (Nat.le_of_ble_eq_true rfl) (M.cells (by decide)) (M.slots (Nat.le_of_ble_eq_true rfl)) dX11_init_17 (fun q_16 hq_17 => ?_)
  have hz_18 : q_16 ∉ hL S := fun h9 => hq_17 (hf_14.mem h9)
  refine j_putrF (f := 1102) C hm9 flX11_13o (by decide) rfl rfl dX11_init_19 (mem_old hm_7) (kd_nA (k := 13) (n := 12000) hq_17 hm_7 hk_8) rfl ?_
  refine j_aload_n C dX11_init_22 rfl 0 rfl ?_
  refine j_bipush (v := 6) C dX11_init_23 (by decide) ?_
  have hf_21 : Fm (fun f9 b9 => (f9 = 1110 ∧ b9 = h) ∨ (f9 = 1111 ∧ b9 = h)) (fun f9 b9 => b9 = h) (fun _ => False) S (sR (nA S_4 q_16 13 12000) 1102 h (some q_16)) := ((hf_14.nA _ _ hq_17).sR _ (fun _ => rfl))
  obtain ⟨S_19, eS_20⟩ : ∃ S9 : Hp, S9 = (sR (nA S_4 q_16 13 12000) 1102 h (some q_16)) := ⟨_, rfl⟩
  refine J.eq (S' := S_19) eS_20.symm rfl rfl ?_
  have hm_22 : h ∈ hL S_19 := by rw [eS_20]; exact (mem_old hm_7)
  have hk_23 : Kd S_19 h 11 := by rw [eS_20]; exact (kd_nA (k := 13) (n := 12000) hq_17 hm_7 hk_8)
  have hm_24 : q_1 ∈ hL S_19 := by rw [eS_20]; exact (mem_old hm_9)
  have hk_25 : Kd S_19 q_1 13 := by rw [eS_20]; exact (kd_nA (k := 13) (n := 12000) hq_17 hm_9 hk_10)
  have hn_26 : Ln S_19 q_1 8000 := by rw [eS_20]; exact (ln_nA (k := 13) hq_17 hm_9 hn_11)
  have hz_27 : ∀ j, aI S_19 q_1 j = 0 := by rw [eS_20]; exact (fun j9 => rd_nAI (k := 13) (n := 12000) hq_17 hm_9 (hz_12 j9))
  have hm_28 : q_16 ∈ hL S_19 := by rw [eS_20]; exact mem_new
  have hk_29 : Kd S_19 q_16 13 := by rw [eS_20]; exact (kd_nA' (k := 13) (n := 12000))
  have hn_30 : Ln S_19 q_16 12000 := by rw [eS_20]; exact (ln_nA' (k := 13))
  have hz_31 : ∀ j, aI S_19 q_16 j = 0 := by rw [eS_20]; exact (fun j9 => rd_nAI' (k := 13) (n := 12000))
  have hv_32 : hR S_19 1100 h = (some q_1) := by rw [eS_20]; exact (rd_sRf (S := (nA S_4 q_16 13 12000)) (g := 1102) (a := h) (v := (some q_16)) (by decide) hv_13)
  have hv_33 : hR S_19 1102 h = (some q_16) := by rw [eS_20]; exact (rd_sR (S := (nA S_4 q_16 13 12000)) (g := 1102) (a := h) (v := (some q_16)))
  have hf_34 : Fm (fun f9 b9 => (f9 = 1110 ∧ b9 = h) ∨ (f9 = 1111 ∧ b9 = h)) (fun f9 b9 => b9 = h) (fun _ => False) S S_19 := by rw [eS_20]; exact hf_21
  have hN_35 : NL S (([] ++ [q_1]) ++ [q_16]) S_19 := by rw [eS_20]; exact (NL.sR (S := (nA S_4 q_16 13 12000)) (show NL S (([] ++ [q_1]) ++ [q_16]) (nA S_4 q_16 13 12000) from NL.nA hN_15 hq_17 hz_18))
  refine j_newI (N := 6) C ka_int (by decide) (by decide) (Nat.le_of_ble_eq_true rfl) (M.cells (by decide)) (M.slots (Nat.le_of_ble_eq_true rfl)) dX11_init_25 (fun q_36 hq_37 => ?_)
  have hz_38 : q_36 ∉ hL S := fun h9 => hq_37 (hf_34.mem h9)
  refine j_putrF (f := 1103) C hm9 flX11_16o (by decide) rfl rfl dX11_init_27 (mem_old hm_22) (kd_nA (k := 14) (n := 6) hq_37 hm_22 hk_23) rfl ?_
  refine j_aload_n C dX11_init_30 rfl 0 rfl ?_
  refine j_bipush (v := 7) C dX11_init_31 (by decide) ?_
  show J _ _ _ _ _ 33 _
  have hf_41 : Fm (fun f9 b9 => (f9 = 1110 ∧ b9 = h) ∨ (f9 = 1111 ∧ b9 = h)) (fun f9 b9 => b9 = h) (fun _ => False) S (sR (nA S_19 q_36 14 6) 1103 h (some q_36)) := ((hf_34.nA _ _ hq_37).sR _ (fun _ => rfl))
  obtain ⟨S_39, eS_40⟩ : ∃ S9 : Hp, S9 = (sR (nA S_19 q_36 14 6) 1103 h (some q_36)) := ⟨_, rfl⟩
  refine J.eq (S' := S_39) eS_40.symm rfl rfl ?_
  have hm_42 : h ∈ hL S_39 := by rw [eS_40]; exact (mem_old hm_22)
  have hk_43 : Kd S_39 h 11 := by rw [eS_40]; exact (kd_nA (k := 14) (n := 6) hq_37 hm_22 hk_23)
  have hm_44 : q_1 ∈ hL S_39 := by rw [eS_40]; exact (mem_old hm_24)
  have hk_45 : Kd S_39 q_1 13 := by rw [eS_40]; exact (kd_nA (k := 14) (n := 6) hq_37 hm_24 hk_25)
  have hn_46 : Ln S_39 q_1 8000 := by rw [eS_40]; exact (ln_nA (k := 14) hq_37 hm_24 hn_26)
  have hz_47 : ∀ j, aI S_39 q_1 j = 0 := by rw [eS_40]; exact (fun j9 => rd_nAI (k := 14) (n := 6) hq_37 hm_24 (hz_27 j9))
  have hm_48 : q_16 ∈ hL S_39 := by rw [eS_40]; exact (mem_old hm_28)
  have hk_49 : Kd S_39 q_16 13 := by rw [eS_40]; exact (kd_nA (k := 14) (n := 6) hq_37 hm_28 hk_29)
  have hn_50 : Ln S_39 q_16 12000 := by rw [eS_40]; exact (ln_nA (k := 14) hq_37 hm_28 hn_30)
  have hz_51 : ∀ j, aI S_39 q_16 j = 0 := by rw [eS_40]; exact (fun j9 => rd_nAI (k := 14) (n := 6) hq_37 hm_28 (hz_31 j9))
  have hm_52 : q_36 ∈ hL S_39 := by rw [eS_40]; exact mem_new
  have hk_53 : Kd S_39 q_36 14 := by rw [eS_40]; exact (kd_nA' (k := 14) (n := 6))
  have hn_54 : Ln S_39 q_36 6 := by rw [eS_40]; exact (ln_nA' (k := 14))
  have hz_55 : ∀ j, aI S_39 q_36 j = 0 := by rw [eS_40]; exact (fun j9 => rd_nAI' (k := 14) (n := 6))
  have hv_56 : hR S_39 1100 h = (some q_1) := by rw [eS_40]; exact (rd_sRf (S := (nA S_19 q_36 14 6)) (g := 1103) (a := h) (v := (some q_36)) (by decide) hv_32)
  have hv_57 : hR S_39 1102 h = (some q_16) := by rw [eS_40]; exact (rd_sRf (S := (nA S_19 q_36 14 6)) (g := 1103) (a := h) (v := (some q_36)) (by decide) hv_33)
  have hv_58 : hR S_39 1103 h = (some q_36) := by rw [eS_40]; exact (rd_sR (S := (nA S_19 q_36 14 6)) (g := 1103) (a := h) (v := (some q_36)))
  have hf_59 : Fm (fun f9 b9 => (f9 = 1110 ∧ b9 = h) ∨ (f9 = 1111 ∧ b9 = h)) (fun f9 b9 => b9 = h) (fun _ => False) S S_39 := by rw [eS_40]; exact hf_41
  have hN_60 : NL S ((([] ++ [q_1]) ++ [q_16]) ++ [q_36]) S_39 := by rw [eS_40]; exact (NL.sR (S := (nA S_19 q_36 14 6)) (show NL S ((([] ++ [q_1]) ++ [q_16]) ++ [q_36]) (nA S_19 q_36 14 6) from NL.nA hN_35 hq_37 hz_38))
  refine j_newI (N := 7) C ka_int (by decide) (by decide) (Nat.le_of_ble_eq_true rfl) (M.cells (by decide)) (M.slots (Nat.le_of_ble_eq_true rfl)) dX11_init_33 (fun q_61 hq_62 => ?_)
  have hz_63 : q_61 ∉ hL S := fun h9 => hq_62 (hf_59.mem h9)
  refine j_putrF (f := 1104) C hm9 flX11_20o (by decide) rfl rfl dX11_init_35 (mem_old hm_42) (kd_nA (k := 14) (n := 7) hq_62 hm_42 hk_43) rfl ?_
  refine j_aload_n C dX11_init_38 rfl 0 rfl ?_
  refine j_iconst (v := (-1)) C dX11_init_39 (by decide) ?_
  refine j_puti (f := 1110) C flX11_23 (by decide) rfl rfl dX11_init_40 (mem_old hm_42) (kd_nA (k := 14) (n := 7) hq_62 hm_42 hk_43) rfl ?_
  refine j_aload_n C dX11_init_43 rfl 0 rfl ?_
  refine j_iconst (v := (-1)) C dX11_init_44 (by decide) ?_
  refine j_puti (f := 1111) C flX11_27 (by decide) rfl rfl dX11_init_45 (mem_old hm_42) (kd_nA (k := 14) (n := 7) hq_62 hm_42 hk_43) rfl ?_
  show J _ _ _ _ _ 48 _
  refine j_aload_n C dX11_init_48 rfl 0 rfl ?_
  have hf_66 : Fm (fun f9 b9 => (f9 = 1110 ∧ b9 = h) ∨ (f9 = 1111 ∧ b9 = h)) (fun f9 b9 => b9 = h) (fun _ => False) S (sI (sI (sR (nA S_39 q_61 14 7) 1104 h (some q_61)) 1110 h (-1)) 1111 h (-1)) := ((((hf_59.nA _ _ hq_62).sR _ (fun _ => rfl)).sI _ (fun _ => (Or.inl ⟨rfl, rfl⟩))).sI _ (fun _ => (Or.inr ⟨rfl, rfl⟩)))
  obtain ⟨S_64, eS_65⟩ : ∃ S9 : Hp, S9 = (sI (sI (sR (nA S_39 q_61 14 7) 1104 h (some q_61)) 1110 h (-1)) 1111 h (-1)) := ⟨_, rfl⟩
  refine J.eq (S' := S_64) eS_65.symm rfl rfl ?_
  have hm_67 : h ∈ hL S_64 := by rw [eS_65]; exact (mem_old hm_42)
  have hk_68 : Kd S_64 h 11 := by rw [eS_65]; exact (kd_nA (k := 14) (n := 7) hq_62 hm_42 hk_43)
  have hm_69 : q_1 ∈ hL S_64 := by rw [eS_65]; exact (mem_old hm_44)
  have hk_70 : Kd S_64 q_1 13 := by rw [eS_65]; exact (kd_nA (k := 14) (n := 7) hq_62 hm_44 hk_45)
  have hn_71 : Ln S_64 q_1 8000 := by rw [eS_65]; exact (ln_nA (k := 14) hq_62 hm_44 hn_46)
  have hz_72 : ∀ j, aI S_64 q_1 j = 0 := by rw [eS_65]; exact (fun j9 => rd_nAI (k := 14) (n := 7) hq_62 hm_44 (hz_47 j9))
  have hm_73 : q_16 ∈ hL S_64 := by rw [eS_65]; exact (mem_old hm_48)
  have hk_74 : Kd S_64 q_16 13 := by rw [eS_65]; exact (kd_nA (k := 14) (n := 7) hq_62 hm_48 hk_49)
  have hn_75 : Ln S_64 q_16 12000 := by rw [eS_65]; exact (ln_nA (k := 14) hq_62 hm_48 hn_50)
  have hz_76 : ∀ j, aI S_64 q_16 j = 0 := by rw [eS_65]; exact (fun j9 => rd_nAI (k := 14) (n := 7) hq_62 hm_48 (hz_51 j9))
  have hm_77 : q_36 ∈ hL S_64 := by rw [eS_65]; exact (mem_old hm_52)
  have hk_78 : Kd S_64 q_36 14 := by rw [eS_65]; exact (kd_nA (k := 14) (n := 7) hq_62 hm_52 hk_53)
  have hn_79 : Ln S_64 q_36 6 := by rw [eS_65]; exact (ln_nA (k := 14) hq_62 hm_52 hn_54)
  have hz_80 : ∀ j, aI S_64 q_36 j = 0 := by rw [eS_65]; exact (fun j9 => rd_nAI (k := 14) (n := 7) hq_62 hm_52 (hz_55 j9))
  have hm_81 : q_61 ∈ hL S_64 := by rw [eS_65]; exact mem_new
  have hk_82 : Kd S_64 q_61 14 := by rw [eS_65]; exact (kd_nA' (k := 14) (n := 7))
  have hn_83 : Ln S_64 q_61 7 := by rw [eS_65]; exact (ln_nA' (k := 14))
  have hz_84 : ∀ j, aI S_64 q_61 j = 0 := by rw [eS_65]; exact (fun j9 => rd_nAI' (k := 14) (n := 7))
  have hv_85 : hI S_64 1110 h = (-1) := by rw [eS_65]; exact (rd_sIf (S := (sI (sR (nA S_39 q_61 14 7) 1104 h (some q_61)) 1110 h (-1))) (g := 1111) (a := h) (v := (-1)) (by decide) (rd_sI (S := (sR (nA S_39 q_61 14 7) 1104 h (some q_61))) (g := 1110) (a := h) (v := (-1))))
  have hv_86 : hI S_64 1111 h = (-1) := by rw [eS_65]; exact (rd_sI (S := (sI (sR (nA S_39 q_61 14 7) 1104 h (some q_61)) 1110 h (-1))) (g := 1111) (a := h) (v := (-1)))
  have hv_87 : hR S_64 1100 h = (some q_1) := by rw [eS_65]; exact (rd_sRf (S := (nA S_39 q_61 14 7)) (g := 1104) (a := h) (v := (some q_61)) (by decide) hv_56)
  have hv_88 : hR S_64 1102 h = (some q_16) := by rw [eS_65]; exact (rd_sRf (S := (nA S_39 q_61 14 7)) (g := 1104) (a := h) (v := (some q_61)) (by decide) hv_57)
  have hv_89 : hR S_64 1103 h = (some q_36) := by rw [eS_65]; exact (rd_sRf (S := (nA S_39 q_61 14 7)) (g := 1104) (a := h) (v := (some q_61)) (by decide) hv_58)
  have hv_90 : hR S_64 1104 h = (some q_61) := by rw [eS_65]; exact (rd_sR (S := (nA S_39 q_61 14 7)) (g := 1104) (a := h) (v := (some q_61)))
  have hf_91 : Fm (fun f9 b9 => (f9 = 1110 ∧ b9 = h) ∨ (f9 = 1111 ∧ b9 = h)) (fun f9 b9 => b9 = h) (fun _ => False) S S_64 := by rw [eS_65]; exact hf_66
  have hN_92 : NL S (((([] ++ [q_1]) ++ [q_16]) ++ [q_36]) ++ [q_61]) S_64 := by rw [eS_65]; exact (NL.sI (S := (sI (sR (nA S_39 q_61 14 7) 1104 h (some q_61)) 1110 h (-1))) (NL.sI (S := (sR (nA S_39 q_61 14 7) 1104 h (some q_61))) (NL.sR (S := (nA S_39 q_61 14 7)) (show NL S (((([] ++ [q_1]) ++ [q_16]) ++ [q_36]) ++ [q_61]) (nA S_39 q_61 14 7) from NL.nA hN_60 hq_62 hz_63))))
  refine j_new (N := 10) C (ci := 6) rfl rfl klX11_30 knX6 kiX6 (M.cells (by decide)) (M.slots (by decide)) dX11_init_49 (fun q_93 hq_94 => ?_)
  have hz_95 : q_93 ∉ hL S := fun h9 => hq_94 (hf_91.mem h9)
  refine j_dup C dX11_init_52 rfl ?_
  have hf_96 : Fm (fun f9 b9 => (f9 = 1110 ∧ b9 = h) ∨ (f9 = 1111 ∧ b9 = h)) (fun f9 b9 => b9 = h) (fun _ => False) S (nO S_64 q_93 6) := (hf_91.nO _ hq_94)
  refine j_callI C [] [.ref q_93, .ref h] mlX11_32 mcX6_init (c_X6_init (nO S_64 q_93 6) q_93 mem_new (kd_nO' (k := 6))) (M.rm (by decide) (by decide) (Nat.le_of_ble_eq_true rfl) (Nat.le_of_ble_eq_true rfl)) rfl rfl (Nat.le_of_ble_eq_true rfl) dX11_init_53 (fun r_120 S_121 hp_122 => ?_)
  obtain ⟨rfl, hf_123, q_97, q_98, q_99, q_100, l_101, e_102, e_103, e_104, e_105, e_106, e_107, e_108, e_109, e_110, e_111, e_112, e_113, e_114, e_115, e_116, e_117, hRW_118, hNl_119⟩ := hp_122
  refine J.eq (st' := [.ref q_93, .ref h]) rfl rfl rfl ?_
  have hz_124 : ∀ j, aI S_121 q_1 j = 0 := fun j9 => (hf_123.ai (mem_old hm_69) (fun h9 => h9) j9).trans (hz_72 j9)
  have hz_125 : ∀ j, aI S_121 q_16 j = 0 := fun j9 => (hf_123.ai (mem_old hm_73) (fun h9 => h9) j9).trans (hz_76 j9)
  have hz_126 : ∀ j, aI S_121 q_36 j = 0 := fun j9 => (hf_123.ai (mem_old hm_77) (fun h9 => h9) j9).trans (hz_80 j9)
  have hz_127 : ∀ j, aI S_121 q_61 j = 0 := fun j9 => (hf_123.ai (mem_old hm_81) (fun h9 => h9) j9).trans (hz_84 j9)
  have hm_128 : h ∈ hL S_121 := hf_123.mem (mem_old hm_67)
  have hk_129 : Kd S_121 h 11 := hf_123.kd (mem_old hm_67) (kd_nO (k := 6) hq_94 hm_67 hk_68)
  have hm_130 : q_1 ∈ hL S_121 := hf_123.mem (mem_old hm_69)
  have hk_131 : Kd S_121 q_1 13 := hf_123.kd (mem_old hm_69) (kd_nO (k := 6) hq_94 hm_69 hk_70)
  have hn_132 : Ln S_121 q_1 8000 := hf_123.ln (mem_old hm_69) hn_71
  have hm_133 : q_16 ∈ hL S_121 := hf_123.mem (mem_old hm_73)
  have hk_134 : Kd S_121 q_16 13 := hf_123.kd (mem_old hm_73) (kd_nO (k := 6) hq_94 hm_73 hk_74)
  have hn_135 : Ln S_121 q_16 12000 := hf_123.ln (mem_old hm_73) hn_75
  have hm_136 : q_36 ∈ hL S_121 := hf_123.mem (mem_old hm_77)
  have hk_137 : Kd S_121 q_36 14 := hf_123.kd (mem_old hm_77) (kd_nO (k := 6) hq_94 hm_77 hk_78)
  have hn_138 : Ln S_121 q_36 6 := hf_123.ln (mem_old hm_77) hn_79
  have hm_139 : q_61 ∈ hL S_121 := hf_123.mem (mem_old hm_81)
  have hk_140 : Kd S_121 q_61 14 := hf_123.kd (mem_old hm_81) (kd_nO (k := 6) hq_94 hm_81 hk_82)
  have hn_141 : Ln S_121 q_61 7 := hf_123.ln (mem_old hm_81) hn_83
  have hm_142 : q_93 ∈ hL S_121 := hf_123.mem mem_new
  have hk_143 : Kd S_121 q_93 6 := hf_123.kd mem_new (kd_nO' (k := 6))
  have hv_144 : hI S_121 1110 h = (-1) := hf_123.fi (mem_old hm_67) (fun h9 => h9) (rd_nOI (k := 6) hq_94 hm_67 hv_85)
  have hv_145 : hI S_121 1111 h = (-1) := hf_123.fi (mem_old hm_67) (fun h9 => h9) (rd_nOI (k := 6) hq_94 hm_67 hv_86)
  have hv_146 : hI S_121 601 q_93 = 0 := hf_123.fi mem_new (fun h9 => h9) (rd_nOI' (k := 6))
  have hv_147 : hI S_121 602 q_93 = 0 := hf_123.fi mem_new (fun h9 => h9) (rd_nOI' (k := 6))
  have hv_148 : hI S_121 603 q_93 = 0 := hf_123.fi mem_new (fun h9 => h9) (rd_nOI' (k := 6))
  have hv_149 : hR S_121 1100 h = (some q_1) := hf_123.fr (mem_old hm_67) (fun q9 => (fun e9 => absurd (((kd_nO (k := 6) hq_94 hm_67 hk_68)).symm.trans ((congrArg (hK _) e9).trans (kd_nO' (k := 6)))) (by decide)) q9) (rd_nOR (k := 6) hq_94 hm_67 hv_87)
  have hv_150 : hR S_121 1102 h = (some q_16) := hf_123.fr (mem_old hm_67) (fun q9 => (fun e9 => absurd (((kd_nO (k := 6) hq_94 hm_67 hk_68)).symm.trans ((congrArg (hK _) e9).trans (kd_nO' (k := 6)))) (by decide)) q9) (rd_nOR (k := 6) hq_94 hm_67 hv_88)
  have hv_151 : hR S_121 1103 h = (some q_36) := hf_123.fr (mem_old hm_67) (fun q9 => (fun e9 => absurd (((kd_nO (k := 6) hq_94 hm_67 hk_68)).symm.trans ((congrArg (hK _) e9).trans (kd_nO' (k := 6)))) (by decide)) q9) (rd_nOR (k := 6) hq_94 hm_67 hv_89)
  have hv_152 : hR S_121 1104 h = (some q_61) := hf_123.fr (mem_old hm_67) (fun q9 => (fun e9 => absurd (((kd_nO (k := 6) hq_94 hm_67 hk_68)).symm.trans ((congrArg (hK _) e9).trans (kd_nO' (k := 6)))) (by decide)) q9) (rd_nOR (k := 6) hq_94 hm_67 hv_90)
  have hf_153 : Fm (fun f9 b9 => (f9 = 1110 ∧ b9 = h) ∨ (f9 = 1111 ∧ b9 = h)) (fun f9 b9 => b9 = h) (fun _ => False) S S_121 := hf_96.then hf_123 (fun a9 ha9 => ⟨(fun f9 h9 => h9.elim), (fun f9 h9 => (fun h8 => absurd (h8 ▸ ha9) hz_95) h9), (fun h9 => h9.elim)⟩)
  have hN_154 : NL S ((((([] ++ [q_1]) ++ [q_16]) ++ [q_36]) ++ [q_61]) ++ [q_93]) S_121 := NL.mono (show NL S ((((([] ++ [q_1]) ++ [q_16]) ++ [q_36]) ++ [q_61]) ++ [q_93]) (nO S_64 q_93 6) from NL.nO hN_92 hq_94 hz_95) (fun a9 h9 => hf_123.mem h9)
  have hN_155 : NL S (((((([] ++ [q_1]) ++ [q_16]) ++ [q_36]) ++ [q_61]) ++ [q_93]) ++ ([q_97, q_98, q_99] ++ (q_100 :: l_101))) S_121 := NL.app (show NL S ((((([] ++ [q_1]) ++ [q_16]) ++ [q_36]) ++ [q_61]) ++ [q_93]) (nO S_64 q_93 6) from NL.nO hN_92 hq_94 hz_95) hNl_119 (fun a9 h9 => hf_123.mem h9) (fun a9 h9 => hf_96.mem h9)
  refine j_putrF (f := 1106) C hm9 flX11_33o (by decide) rfl rfl dX11_init_56 hm_128 hk_129 rfl ?_
  refine j_aload_n C dX11_init_59 rfl 0 rfl ?_
  have hf_158 : Fm (fun f9 b9 => (f9 = 1110 ∧ b9 = h) ∨ (f9 = 1111 ∧ b9 = h)) (fun f9 b9 => b9 = h) (fun _ => False) S (sR S_121 1106 h (some q_93)) := (hf_153.sR _ (fun _ => rfl))
  have hf_159 : Fm (fun _ _ => False) (fun f9 b9 => b9 = h) (fun _ => False) S_121 (sR S_121 1106 h (some q_93)) := ((Fm.refl (WI := (fun _ _ => False)) (WR := (fun f9 b9 => b9 = h)) (WA := (fun _ => False))).sR _ (fun _ => rfl))
  refine j_new (N := 19) C (ci := 9) rfl rfl klX11_37 knX9 kiX9 (M.cells (by decide)) (M.slots (by decide)) dX11_init_60 (fun q_156 hq_157 => ?_)
  have hz_160 : q_156 ∉ hL S := fun h9 => hq_157 (hf_158.mem h9)
  have hz_161 : q_156 ∉ hL S_121 := fun h9 => hq_157 (hf_159.mem h9)
  refine j_dup C dX11_init_63 rfl ?_
  show J _ _ _ _ _ 64 _
  refine j_aload_n C dX11_init_64 rfl 0 rfl ?_
  refine j_getr (f := 1106) (v := q_93) C flX11_33 dX11_init_65 (mem_old hm_128) (kd_nO (k := 9) hq_157 hm_128 hk_129) (by decide) rfl (rd_nOR (k := 9) hq_157 hm_128 (rd_sR (S := S_121) (g := 1106) (a := h) (v := (some q_93)))) ?_
  have hf_162 : Fm (fun f9 b9 => (f9 = 1110 ∧ b9 = h) ∨ (f9 = 1111 ∧ b9 = h)) (fun f9 b9 => b9 = h) (fun _ => False) S (nO (sR S_121 1106 h (some q_93)) q_156 9) := (hf_158.nO _ hq_157)
  have hf_163 : Fm (fun _ _ => False) (fun f9 b9 => b9 = h) (fun _ => False) S_121 (nO (sR S_121 1106 h (some q_93)) q_156 9) := (hf_159.nO _ hq_157)
  refine j_callI C [.ref q_93] [.ref q_156, .ref h] mlX11_39 mcX9_init (c_X9_init (nO (sR S_121 1106 h (some q_93)) q_156 9) q_156 mem_new (kd_nO' (k := 9)) q_93) (M.rm (by decide) (by decide) (Nat.le_of_ble_eq_true rfl) (Nat.le_of_ble_eq_true rfl)) rfl rfl (Nat.le_of_ble_eq_true rfl) dX11_init_68 (fun r_173 S_174 hp_175 => ?_)
  obtain ⟨rfl, hf_176, e_165, l_164, e_166, e_167, e_168, e_169, e_170, e_171, e_172⟩ := hp_175
  refine J.eq (st' := [.ref q_156, .ref h]) rfl rfl rfl ?_
  have hz_177 : ∀ j, aI S_174 q_1 j = 0 := fun j9 => (hf_176.ai (mem_old hm_130) (fun h9 => h9) j9).trans (hz_124 j9)
  have hz_178 : ∀ j, aI S_174 q_16 j = 0 := fun j9 => (hf_176.ai (mem_old hm_133) (fun h9 => h9) j9).trans (hz_125 j9)
  have hz_179 : ∀ j, aI S_174 q_36 j = 0 := fun j9 => (hf_176.ai (mem_old hm_136) (fun h9 => h9) j9).trans (hz_126 j9)
  have hz_180 : ∀ j, aI S_174 q_61 j = 0 := fun j9 => (hf_176.ai (mem_old hm_139) (fun h9 => h9) j9).trans (hz_127 j9)
  have hm_181 : h ∈ hL S_174 := hf_176.mem (mem_old hm_128)
  have hk_182 : Kd S_174 h 11 := hf_176.kd (mem_old hm_128) (kd_nO (k := 9) hq_157 hm_128 hk_129)
  have hm_183 : q_1 ∈ hL S_174 := hf_176.mem (mem_old hm_130)
  have hk_184 : Kd S_174 q_1 13 := hf_176.kd (mem_old hm_130) (kd_nO (k := 9) hq_157 hm_130 hk_131)
  have hn_185 : Ln S_174 q_1 8000 := hf_176.ln (mem_old hm_130) hn_132
  have hm_186 : q_100 ∈ hL S_174 := hf_176.mem (mem_old e_111)
  have hk_187 : Kd S_174 q_100 21 := hf_176.kd (mem_old e_111) (kd_nO (k := 9) hq_157 e_111 e_112)
  have hn_188 : Ln S_174 q_100 13 := hf_176.ln (mem_old e_111) e_113
  have hm_189 : q_156 ∈ hL S_174 := hf_176.mem mem_new
  have hk_190 : Kd S_174 q_156 9 := hf_176.kd mem_new (kd_nO' (k := 9))
  have hm_191 : q_16 ∈ hL S_174 := hf_176.mem (mem_old hm_133)
  have hk_192 : Kd S_174 q_16 13 := hf_176.kd (mem_old hm_133) (kd_nO (k := 9) hq_157 hm_133 hk_134)
  have hn_193 : Ln S_174 q_16 12000 := hf_176.ln (mem_old hm_133) hn_135
  have hm_194 : q_36 ∈ hL S_174 := hf_176.mem (mem_old hm_136)
  have hk_195 : Kd S_174 q_36 14 := hf_176.kd (mem_old hm_136) (kd_nO (k := 9) hq_157 hm_136 hk_137)
  have hn_196 : Ln S_174 q_36 6 := hf_176.ln (mem_old hm_136) hn_138
  have hm_197 : q_61 ∈ hL S_174 := hf_176.mem (mem_old hm_139)
  have hk_198 : Kd S_174 q_61 14 := hf_176.kd (mem_old hm_139) (kd_nO (k := 9) hq_157 hm_139 hk_140)
  have hn_199 : Ln S_174 q_61 7 := hf_176.ln (mem_old hm_139) hn_141
  have hm_200 : q_93 ∈ hL S_174 := hf_176.mem (mem_old hm_142)
  have hk_201 : Kd S_174 q_93 6 := hf_176.kd (mem_old hm_142) (kd_nO (k := 9) hq_157 hm_142 hk_143)
  have hm_202 : q_97 ∈ hL S_174 := hf_176.mem (mem_old e_102)
  have hk_203 : Kd S_174 q_97 13 := hf_176.kd (mem_old e_102) (kd_nO (k := 9) hq_157 e_102 e_103)
  have hn_204 : Ln S_174 q_97 60000 := hf_176.ln (mem_old e_102) e_104
  have hm_205 : q_98 ∈ hL S_174 := hf_176.mem (mem_old e_105)
  have hk_206 : Kd S_174 q_98 14 := hf_176.kd (mem_old e_105) (kd_nO (k := 9) hq_157 e_105 e_106)
  have hn_207 : Ln S_174 q_98 12 := hf_176.ln (mem_old e_105) e_107
  have hm_208 : q_99 ∈ hL S_174 := hf_176.mem (mem_old e_108)
  have hk_209 : Kd S_174 q_99 14 := hf_176.kd (mem_old e_108) (kd_nO (k := 9) hq_157 e_108 e_109)
  have hn_210 : Ln S_174 q_99 12 := hf_176.ln (mem_old e_108) e_110
  have hv_211 : hI S_174 1110 h = (-1) := hf_176.fi (mem_old hm_128) (fun h9 => h9) (rd_nOI (k := 9) hq_157 hm_128 hv_144)
  have hv_212 : hI S_174 1111 h = (-1) := hf_176.fi (mem_old hm_128) (fun h9 => h9) (rd_nOI (k := 9) hq_157 hm_128 hv_145)
  have hv_213 : hI S_174 601 q_93 = 0 := hf_176.fi (mem_old hm_142) (fun h9 => h9) (rd_nOI (k := 9) hq_157 hm_142 hv_146)
  have hv_214 : hI S_174 602 q_93 = 0 := hf_176.fi (mem_old hm_142) (fun h9 => h9) (rd_nOI (k := 9) hq_157 hm_142 hv_147)
  have hv_215 : hI S_174 603 q_93 = 0 := hf_176.fi (mem_old hm_142) (fun h9 => h9) (rd_nOI (k := 9) hq_157 hm_142 hv_148)
  have hv_216 : hI S_174 914 q_156 = 0 := hf_176.fi mem_new (fun h9 => h9) (rd_nOI' (k := 9))
  have hv_217 : hI S_174 916 q_156 = 0 := hf_176.fi mem_new (fun h9 => h9) (rd_nOI' (k := 9))
  have hv_218 : hI S_174 918 q_156 = 0 := hf_176.fi mem_new (fun h9 => h9) (rd_nOI' (k := 9))
  have hv_219 : hR S_174 1100 h = (some q_1) := hf_176.fr (mem_old hm_128) (fun q9 => (fun e9 => absurd (((kd_nO (k := 9) hq_157 hm_128 hk_129)).symm.trans ((congrArg (hK _) e9).trans (kd_nO' (k := 9)))) (by decide)) q9) (rd_nOR (k := 9) hq_157 hm_128 (rd_sRf (S := S_121) (g := 1106) (a := h) (v := (some q_93)) (by decide) hv_149))
  have hv_220 : hR S_174 1102 h = (some q_16) := hf_176.fr (mem_old hm_128) (fun q9 => (fun e9 => absurd (((kd_nO (k := 9) hq_157 hm_128 hk_129)).symm.trans ((congrArg (hK _) e9).trans (kd_nO' (k := 9)))) (by decide)) q9) (rd_nOR (k := 9) hq_157 hm_128 (rd_sRf (S := S_121) (g := 1106) (a := h) (v := (some q_93)) (by decide) hv_150))
  have hv_221 : hR S_174 1103 h = (some q_36) := hf_176.fr (mem_old hm_128) (fun q9 => (fun e9 => absurd (((kd_nO (k := 9) hq_157 hm_128 hk_129)).symm.trans ((congrArg (hK _) e9).trans (kd_nO' (k := 9)))) (by decide)) q9) (rd_nOR (k := 9) hq_157 hm_128 (rd_sRf (S := S_121) (g := 1106) (a := h) (v := (some q_93)) (by decide) hv_151))
  have hv_222 : hR S_174 1104 h = (some q_61) := hf_176.fr (mem_old hm_128) (fun q9 => (fun e9 => absurd (((kd_nO (k := 9) hq_157 hm_128 hk_129)).symm.trans ((congrArg (hK _) e9).trans (kd_nO' (k := 9)))) (by decide)) q9) (rd_nOR (k := 9) hq_157 hm_128 (rd_sRf (S := S_121) (g := 1106) (a := h) (v := (some q_93)) (by decide) hv_152))
  have hv_223 : hR S_174 1106 h = (some q_93) := hf_176.fr (mem_old hm_128) (fun q9 => (fun e9 => absurd (((kd_nO (k := 9) hq_157 hm_128 hk_129)).symm.trans ((congrArg (hK _) e9).trans (kd_nO' (k := 9)))) (by decide)) q9) (rd_nOR (k := 9) hq_157 hm_128 (rd_sR (S := S_121) (g := 1106) (a := h) (v := (some q_93))))
  have hv_224 : hR S_174 600 q_93 = (some q_97) := hf_176.fr (mem_old hm_142) (fun q9 => (fun e9 => absurd (((kd_nO (k := 9) hq_157 hm_142 hk_143)).symm.trans ((congrArg (hK _) e9).trans (kd_nO' (k := 9)))) (by decide)) q9) (rd_nOR (k := 9) hq_157 hm_142 (rd_sRf (S := S_121) (g := 1106) (a := h) (v := (some q_93)) (by decide) e_114))
  have hv_225 : hR S_174 604 q_93 = (some q_98) := hf_176.fr (mem_old hm_142) (fun q9 => (fun e9 => absurd (((kd_nO (k := 9) hq_157 hm_142 hk_143)).symm.trans ((congrArg (hK _) e9).trans (kd_nO' (k := 9)))) (by decide)) q9) (rd_nOR (k := 9) hq_157 hm_142 (rd_sRf (S := S_121) (g := 1106) (a := h) (v := (some q_93)) (by decide) e_115))
  have hv_226 : hR S_174 605 q_93 = (some q_99) := hf_176.fr (mem_old hm_142) (fun q9 => (fun e9 => absurd (((kd_nO (k := 9) hq_157 hm_142 hk_143)).symm.trans ((congrArg (hK _) e9).trans (kd_nO' (k := 9)))) (by decide)) q9) (rd_nOR (k := 9) hq_157 hm_142 (rd_sRf (S := S_121) (g := 1106) (a := h) (v := (some q_93)) (by decide) e_116))
  have hv_227 : hR S_174 606 q_93 = (some q_100) := hf_176.fr (mem_old hm_142) (fun q9 => (fun e9 => absurd (((kd_nO (k := 9) hq_157 hm_142 hk_143)).symm.trans ((congrArg (hK _) e9).trans (kd_nO' (k := 9)))) (by decide)) q9) (rd_nOR (k := 9) hq_157 hm_142 (rd_sRf (S := S_121) (g := 1106) (a := h) (v := (some q_93)) (by decide) e_117))
  have hf_228 : Fm (fun f9 b9 => (f9 = 1110 ∧ b9 = h) ∨ (f9 = 1111 ∧ b9 = h)) (fun f9 b9 => b9 = h) (fun _ => False) S S_174 := hf_162.then hf_176 (fun a9 ha9 => ⟨(fun f9 h9 => h9.elim), (fun f9 h9 => (fun h8 => absurd (h8 ▸ ha9) hz_160) h9), (fun h9 => h9.elim)⟩)
  have hf_229 : Fm (fun _ _ => False) (fun f9 b9 => b9 = h) (fun _ => False) S_121 S_174 := hf_163.then hf_176 (fun a9 ha9 => ⟨(fun f9 h9 => h9.elim), (fun f9 h9 => (fun h8 => absurd (h8 ▸ ha9) hz_161) h9), (fun h9 => h9.elim)⟩)
  have hN_230 : NL S ((((((([] ++ [q_1]) ++ [q_16]) ++ [q_36]) ++ [q_61]) ++ [q_93]) ++ ([q_97, q_98, q_99] ++ (q_100 :: l_101))) ++ [q_156]) S_174 := NL.mono (show NL S ((((((([] ++ [q_1]) ++ [q_16]) ++ [q_36]) ++ [q_61]) ++ [q_93]) ++ ([q_97, q_98, q_99] ++ (q_100 :: l_101))) ++ [q_156]) (nO (sR S_121 1106 h (some q_93)) q_156 9) from NL.nO (NL.sR (S := S_121) hN_155) hq_157 hz_160) (fun a9 h9 => hf_176.mem h9)
  have hN_231 : NL S (((((((([] ++ [q_1]) ++ [q_16]) ++ [q_36]) ++ [q_61]) ++ [q_93]) ++ ([q_97, q_98, q_99] ++ (q_100 :: l_101))) ++ [q_156]) ++ l_164) S_174 := NL.app (show NL S ((((((([] ++ [q_1]) ++ [q_16]) ++ [q_36]) ++ [q_61]) ++ [q_93]) ++ ([q_97, q_98, q_99] ++ (q_100 :: l_101))) ++ [q_156]) (nO (sR S_121 1106 h (some q_93)) q_156 9) from NL.nO (NL.sR (S := S_121) hN_155) hq_157 hz_160) e_168 (fun a9 h9 => hf_176.mem h9) (fun a9 h9 => hf_162.mem h9)
  refine j_putrF (f := 1107) C hm9 flX11_42o (by decide) rfl rfl dX11_init_71 hm_181 hk_182 rfl ?_
  refine j_aload_n C dX11_init_74 rfl 0 rfl ?_
  have hf_234 : Fm (fun f9 b9 => (f9 = 1110 ∧ b9 = h) ∨ (f9 = 1111 ∧ b9 = h)) (fun f9 b9 => b9 = h) (fun _ => False) S (sR S_174 1107 h (some q_156)) := (hf_228.sR _ (fun _ => rfl))
  have hf_235 : Fm (fun _ _ => False) (fun f9 b9 => b9 = h) (fun _ => False) S_121 (sR S_174 1107 h (some q_156)) := (hf_229.sR _ (fun _ => rfl))
  have hf_236 : Fm (fun _ _ => False) (fun f9 b9 => b9 = h) (fun _ => False) S_174 (sR S_174 1107 h (some q_156)) := ((Fm.refl (WI := (fun _ _ => False)) (WR := (fun f9 b9 => b9 = h)) (WA := (fun _ => False))).sR _ (fun _ => rfl))
  refine j_new (N := 21) C (ci := 3) rfl rfl klX11_46 knX3 kiX3 (M.cells (by decide)) (M.slots (by decide)) dX11_init_75 (fun q_232 hq_233 => ?_)
  have hz_237 : q_232 ∉ hL S := fun h9 => hq_233 (hf_234.mem h9)
  have hz_238 : q_232 ∉ hL S_121 := fun h9 => hq_233 (hf_235.mem h9)
  have hz_239 : q_232 ∉ hL S_174 := fun h9 => hq_233 (hf_236.mem h9)
  refine j_dup C dX11_init_78 rfl ?_
  refine j_aload_n C dX11_init_79 rfl 0 rfl ?_
  show J _ _ _ _ _ 80 _
  refine j_getr (f := 1106) (v := q_93) C flX11_33 dX11_init_80 (mem_old hm_181) (kd_nO (k := 3) hq_233 hm_181 hk_182) (by decide) rfl (rd_nOR (k := 3) hq_233 hm_181 (rd_sRf (S := S_174) (g := 1107) (a := h) (v := (some q_156)) (by decide) hv_223)) ?_
  have hf_240 : Fm (fun f9 b9 => (f9 = 1110 ∧ b9 = h) ∨ (f9 = 1111 ∧ b9 = h)) (fun f9 b9 => b9 = h) (fun _ => False) S (nO (sR S_174 1107 h (some q_156)) q_232 3) := (hf_234.nO _ hq_233)
  have hf_241 : Fm (fun _ _ => False) (fun f9 b9 => b9 = h) (fun _ => False) S_121 (nO (sR S_174 1107 h (some q_156)) q_232 3) := (hf_235.nO _ hq_233)
  have hf_242 : Fm (fun _ _ => False) (fun f9 b9 => b9 = h) (fun _ => False) S_174 (nO (sR S_174 1107 h (some q_156)) q_232 3) := (hf_236.nO _ hq_233)
  refine j_callI C [.ref q_93] [.ref q_232, .ref h] mlX11_48 mcX3_init (c_X3_init (nO (sR S_174 1107 h (some q_156)) q_232 3) q_232 mem_new (kd_nO' (k := 3)) q_93) (M.rm (by decide) (by decide) (Nat.le_of_ble_eq_true rfl) (Nat.le_of_ble_eq_true rfl)) rfl rfl (Nat.le_of_ble_eq_true rfl) dX11_init_83 (fun r_263 S_264 hp_265 => ?_)
  obtain ⟨rfl, hf_266, e_246, q_243, q_244, q_245, e_247, e_248, e_249, e_250, e_251, e_252, e_253, e_254, e_255, e_256, e_257, e_258, e_259, e_260, e_261, hNl_262⟩ := hp_265
  refine J.eq (st' := [.ref q_232, .ref h]) rfl rfl rfl ?_
  have hz_267 : ∀ j, aI S_264 q_1 j = 0 := fun j9 => (hf_266.ai (mem_old hm_183) (fun h9 => h9) j9).trans (hz_177 j9)
  have hz_268 : ∀ j, aI S_264 q_16 j = 0 := fun j9 => (hf_266.ai (mem_old hm_191) (fun h9 => h9) j9).trans (hz_178 j9)
  have hz_269 : ∀ j, aI S_264 q_36 j = 0 := fun j9 => (hf_266.ai (mem_old hm_194) (fun h9 => h9) j9).trans (hz_179 j9)
  have hz_270 : ∀ j, aI S_264 q_61 j = 0 := fun j9 => (hf_266.ai (mem_old hm_197) (fun h9 => h9) j9).trans (hz_180 j9)
  have hm_271 : h ∈ hL S_264 := hf_266.mem (mem_old hm_181)
  have hk_272 : Kd S_264 h 11 := hf_266.kd (mem_old hm_181) (kd_nO (k := 3) hq_233 hm_181 hk_182)
  have hm_273 : q_1 ∈ hL S_264 := hf_266.mem (mem_old hm_183)
  have hk_274 : Kd S_264 q_1 13 := hf_266.kd (mem_old hm_183) (kd_nO (k := 3) hq_233 hm_183 hk_184)
  have hn_275 : Ln S_264 q_1 8000 := hf_266.ln (mem_old hm_183) hn_185
  have hm_276 : q_100 ∈ hL S_264 := hf_266.mem (mem_old hm_186)
  have hk_277 : Kd S_264 q_100 21 := hf_266.kd (mem_old hm_186) (kd_nO (k := 3) hq_233 hm_186 hk_187)
  have hn_278 : Ln S_264 q_100 13 := hf_266.ln (mem_old hm_186) hn_188
  have hm_279 : q_156 ∈ hL S_264 := hf_266.mem (mem_old hm_189)
  have hk_280 : Kd S_264 q_156 9 := hf_266.kd (mem_old hm_189) (kd_nO (k := 3) hq_233 hm_189 hk_190)
  have hm_281 : q_16 ∈ hL S_264 := hf_266.mem (mem_old hm_191)
  have hk_282 : Kd S_264 q_16 13 := hf_266.kd (mem_old hm_191) (kd_nO (k := 3) hq_233 hm_191 hk_192)
  have hn_283 : Ln S_264 q_16 12000 := hf_266.ln (mem_old hm_191) hn_193
  have hm_284 : q_232 ∈ hL S_264 := hf_266.mem mem_new
  have hk_285 : Kd S_264 q_232 3 := hf_266.kd mem_new (kd_nO' (k := 3))
  have hm_286 : q_36 ∈ hL S_264 := hf_266.mem (mem_old hm_194)
  have hk_287 : Kd S_264 q_36 14 := hf_266.kd (mem_old hm_194) (kd_nO (k := 3) hq_233 hm_194 hk_195)
  have hn_288 : Ln S_264 q_36 6 := hf_266.ln (mem_old hm_194) hn_196
  have hm_289 : q_61 ∈ hL S_264 := hf_266.mem (mem_old hm_197)
  have hk_290 : Kd S_264 q_61 14 := hf_266.kd (mem_old hm_197) (kd_nO (k := 3) hq_233 hm_197 hk_198)
  have hn_291 : Ln S_264 q_61 7 := hf_266.ln (mem_old hm_197) hn_199
  have hm_292 : q_93 ∈ hL S_264 := hf_266.mem (mem_old hm_200)
  have hk_293 : Kd S_264 q_93 6 := hf_266.kd (mem_old hm_200) (kd_nO (k := 3) hq_233 hm_200 hk_201)
  have hm_294 : q_97 ∈ hL S_264 := hf_266.mem (mem_old hm_202)
  have hk_295 : Kd S_264 q_97 13 := hf_266.kd (mem_old hm_202) (kd_nO (k := 3) hq_233 hm_202 hk_203)
  have hn_296 : Ln S_264 q_97 60000 := hf_266.ln (mem_old hm_202) hn_204
  have hm_297 : q_98 ∈ hL S_264 := hf_266.mem (mem_old hm_205)
  have hk_298 : Kd S_264 q_98 14 := hf_266.kd (mem_old hm_205) (kd_nO (k := 3) hq_233 hm_205 hk_206)
  have hn_299 : Ln S_264 q_98 12 := hf_266.ln (mem_old hm_205) hn_207
  have hm_300 : q_99 ∈ hL S_264 := hf_266.mem (mem_old hm_208)
  have hk_301 : Kd S_264 q_99 14 := hf_266.kd (mem_old hm_208) (kd_nO (k := 3) hq_233 hm_208 hk_209)
  have hn_302 : Ln S_264 q_99 12 := hf_266.ln (mem_old hm_208) hn_210
  have hv_303 : hI S_264 1110 h = (-1) := hf_266.fi (mem_old hm_181) (fun h9 => h9) (rd_nOI (k := 3) hq_233 hm_181 hv_211)
  have hv_304 : hI S_264 1111 h = (-1) := hf_266.fi (mem_old hm_181) (fun h9 => h9) (rd_nOI (k := 3) hq_233 hm_181 hv_212)
  have hv_305 : hI S_264 601 q_93 = 0 := hf_266.fi (mem_old hm_200) (fun h9 => h9) (rd_nOI (k := 3) hq_233 hm_200 hv_213)
  have hv_306 : hI S_264 602 q_93 = 0 := hf_266.fi (mem_old hm_200) (fun h9 => h9) (rd_nOI (k := 3) hq_233 hm_200 hv_214)
  have hv_307 : hI S_264 603 q_93 = 0 := hf_266.fi (mem_old hm_200) (fun h9 => h9) (rd_nOI (k := 3) hq_233 hm_200 hv_215)
  have hv_308 : hI S_264 914 q_156 = 0 := hf_266.fi (mem_old hm_189) (fun h9 => h9) (rd_nOI (k := 3) hq_233 hm_189 hv_216)
  have hv_309 : hI S_264 916 q_156 = 0 := hf_266.fi (mem_old hm_189) (fun h9 => h9) (rd_nOI (k := 3) hq_233 hm_189 hv_217)
  have hv_310 : hI S_264 918 q_156 = 0 := hf_266.fi (mem_old hm_189) (fun h9 => h9) (rd_nOI (k := 3) hq_233 hm_189 hv_218)
  have hv_311 : hR S_264 1100 h = (some q_1) := hf_266.fr (mem_old hm_181) (fun q9 => (fun e9 => absurd (((kd_nO (k := 3) hq_233 hm_181 hk_182)).symm.trans ((congrArg (hK _) e9).trans (kd_nO' (k := 3)))) (by decide)) q9) (rd_nOR (k := 3) hq_233 hm_181 (rd_sRf (S := S_174) (g := 1107) (a := h) (v := (some q_156)) (by decide) hv_219))
  have hv_312 : hR S_264 1102 h = (some q_16) := hf_266.fr (mem_old hm_181) (fun q9 => (fun e9 => absurd (((kd_nO (k := 3) hq_233 hm_181 hk_182)).symm.trans ((congrArg (hK _) e9).trans (kd_nO' (k := 3)))) (by decide)) q9) (rd_nOR (k := 3) hq_233 hm_181 (rd_sRf (S := S_174) (g := 1107) (a := h) (v := (some q_156)) (by decide) hv_220))
  have hv_313 : hR S_264 1103 h = (some q_36) := hf_266.fr (mem_old hm_181) (fun q9 => (fun e9 => absurd (((kd_nO (k := 3) hq_233 hm_181 hk_182)).symm.trans ((congrArg (hK _) e9).trans (kd_nO' (k := 3)))) (by decide)) q9) (rd_nOR (k := 3) hq_233 hm_181 (rd_sRf (S := S_174) (g := 1107) (a := h) (v := (some q_156)) (by decide) hv_221))
  have hv_314 : hR S_264 1104 h = (some q_61) := hf_266.fr (mem_old hm_181) (fun q9 => (fun e9 => absurd (((kd_nO (k := 3) hq_233 hm_181 hk_182)).symm.trans ((congrArg (hK _) e9).trans (kd_nO' (k := 3)))) (by decide)) q9) (rd_nOR (k := 3) hq_233 hm_181 (rd_sRf (S := S_174) (g := 1107) (a := h) (v := (some q_156)) (by decide) hv_222))
  have hv_315 : hR S_264 1106 h = (some q_93) := hf_266.fr (mem_old hm_181) (fun q9 => (fun e9 => absurd (((kd_nO (k := 3) hq_233 hm_181 hk_182)).symm.trans ((congrArg (hK _) e9).trans (kd_nO' (k := 3)))) (by decide)) q9) (rd_nOR (k := 3) hq_233 hm_181 (rd_sRf (S := S_174) (g := 1107) (a := h) (v := (some q_156)) (by decide) hv_223))
  have hv_316 : hR S_264 1107 h = (some q_156) := hf_266.fr (mem_old hm_181) (fun q9 => (fun e9 => absurd (((kd_nO (k := 3) hq_233 hm_181 hk_182)).symm.trans ((congrArg (hK _) e9).trans (kd_nO' (k := 3)))) (by decide)) q9) (rd_nOR (k := 3) hq_233 hm_181 (rd_sR (S := S_174) (g := 1107) (a := h) (v := (some q_156))))
  have hv_317 : hR S_264 600 q_93 = (some q_97) := hf_266.fr (mem_old hm_200) (fun q9 => (fun e9 => absurd (((kd_nO (k := 3) hq_233 hm_200 hk_201)).symm.trans ((congrArg (hK _) e9).trans (kd_nO' (k := 3)))) (by decide)) q9) (rd_nOR (k := 3) hq_233 hm_200 (rd_sRf (S := S_174) (g := 1107) (a := h) (v := (some q_156)) (by decide) hv_224))
  have hv_318 : hR S_264 604 q_93 = (some q_98) := hf_266.fr (mem_old hm_200) (fun q9 => (fun e9 => absurd (((kd_nO (k := 3) hq_233 hm_200 hk_201)).symm.trans ((congrArg (hK _) e9).trans (kd_nO' (k := 3)))) (by decide)) q9) (rd_nOR (k := 3) hq_233 hm_200 (rd_sRf (S := S_174) (g := 1107) (a := h) (v := (some q_156)) (by decide) hv_225))
  have hv_319 : hR S_264 605 q_93 = (some q_99) := hf_266.fr (mem_old hm_200) (fun q9 => (fun e9 => absurd (((kd_nO (k := 3) hq_233 hm_200 hk_201)).symm.trans ((congrArg (hK _) e9).trans (kd_nO' (k := 3)))) (by decide)) q9) (rd_nOR (k := 3) hq_233 hm_200 (rd_sRf (S := S_174) (g := 1107) (a := h) (v := (some q_156)) (by decide) hv_226))
  have hv_320 : hR S_264 606 q_93 = (some q_100) := hf_266.fr (mem_old hm_200) (fun q9 => (fun e9 => absurd (((kd_nO (k := 3) hq_233 hm_200 hk_201)).symm.trans ((congrArg (hK _) e9).trans (kd_nO' (k := 3)))) (by decide)) q9) (rd_nOR (k := 3) hq_233 hm_200 (rd_sRf (S := S_174) (g := 1107) (a := h) (v := (some q_156)) (by decide) hv_227))
  have hv_321 : hR S_264 900 q_156 = (some q_93) := hf_266.fr (mem_old hm_189) (fun q9 => (fun e9 => absurd (((kd_nO (k := 3) hq_233 hm_189 hk_190)).symm.trans ((congrArg (hK _) e9).trans (kd_nO' (k := 3)))) (by decide)) q9) (rd_nOR (k := 3) hq_233 hm_189 (rd_sRf (S := S_174) (g := 1107) (a := h) (v := (some q_156)) (by decide) e_165))
  have hf_322 : Fm (fun f9 b9 => (f9 = 1110 ∧ b9 = h) ∨ (f9 = 1111 ∧ b9 = h)) (fun f9 b9 => b9 = h) (fun _ => False) S S_264 := hf_240.then hf_266 (fun a9 ha9 => ⟨(fun f9 h9 => h9.elim), (fun f9 h9 => (fun h8 => absurd (h8 ▸ ha9) hz_237) h9), (fun h9 => h9.elim)⟩)
  have hf_323 : Fm (fun _ _ => False) (fun f9 b9 => b9 = h) (fun _ => False) S_121 S_264 := hf_241.then hf_266 (fun a9 ha9 => ⟨(fun f9 h9 => h9.elim), (fun f9 h9 => (fun h8 => absurd (h8 ▸ ha9) hz_238) h9), (fun h9 => h9.elim)⟩)
  have hf_324 : Fm (fun _ _ => False) (fun f9 b9 => b9 = h) (fun _ => False) S_174 S_264 := hf_242.then hf_266 (fun a9 ha9 => ⟨(fun f9 h9 => h9.elim), (fun f9 h9 => (fun h8 => absurd (h8 ▸ ha9) hz_239) h9), (fun h9 => h9.elim)⟩)
  have hN_325 : NL S ((((((((([] ++ [q_1]) ++ [q_16]) ++ [q_36]) ++ [q_61]) ++ [q_93]) ++ ([q_97, q_98, q_99] ++ (q_100 :: l_101))) ++ [q_156]) ++ l_164) ++ [q_232]) S_264 := NL.mono (show NL S ((((((((([] ++ [q_1]) ++ [q_16]) ++ [q_36]) ++ [q_61]) ++ [q_93]) ++ ([q_97, q_98, q_99] ++ (q_100 :: l_101))) ++ [q_156]) ++ l_164) ++ [q_232]) (nO (sR S_174 1107 h (some q_156)) q_232 3) from NL.nO (NL.sR (S := S_174) hN_231) hq_233 hz_237) (fun a9 h9 => hf_266.mem h9)
  have hz_326 : q_243 ∉ hL S := fun h9 => e_247 (hf_240.mem h9)
  have hz_327 : q_243 ∉ hL S_121 := fun h9 => e_247 (hf_241.mem h9)
  have hz_328 : q_243 ∉ hL S_174 := fun h9 => e_247 (hf_242.mem h9)
  have hz_329 : q_244 ∉ hL S := fun h9 => e_252 (hf_240.mem h9)
  have hz_330 : q_244 ∉ hL S_121 := fun h9 => e_252 (hf_241.mem h9)
  have hz_331 : q_244 ∉ hL S_174 := fun h9 => e_252 (hf_242.mem h9)
  have hz_332 : q_245 ∉ hL S := fun h9 => e_257 (hf_240.mem h9)
  have hz_333 : q_245 ∉ hL S_121 := fun h9 => e_257 (hf_241.mem h9)
  have hz_334 : q_245 ∉ hL S_174 := fun h9 => e_257 (hf_242.mem h9)
  have hN_335 : NL S (((((((((([] ++ [q_1]) ++ [q_16]) ++ [q_36]) ++ [q_61]) ++ [q_93]) ++ ([q_97, q_98, q_99] ++ (q_100 :: l_101))) ++ [q_156]) ++ l_164) ++ [q_232]) ++ [q_243, q_244, q_245]) S_264 := NL.app (show NL S ((((((((([] ++ [q_1]) ++ [q_16]) ++ [q_36]) ++ [q_61]) ++ [q_93]) ++ ([q_97, q_98, q_99] ++ (q_100 :: l_101))) ++ [q_156]) ++ l_164) ++ [q_232]) (nO (sR S_174 1107 h (some q_156)) q_232 3) from NL.nO (NL.sR (S := S_174) hN_231) hq_233 hz_237) hNl_262 (fun a9 h9 => hf_266.mem h9) (fun a9 h9 => hf_240.mem h9)
  refine j_putrF (f := 1108) C hm9 flX11_49o (by decide) rfl rfl dX11_init_86 hm_271 hk_272 rfl ?_
  have hf_338 : Fm (fun f9 b9 => (f9 = 1110 ∧ b9 = h) ∨ (f9 = 1111 ∧ b9 = h)) (fun f9 b9 => b9 = h) (fun _ => False) S (sR S_264 1108 h (some q_232)) := (hf_322.sR _ (fun _ => rfl))
  have hf_339 : Fm (fun _ _ => False) (fun f9 b9 => b9 = h) (fun _ => False) S_121 (sR S_264 1108 h (some q_232)) := (hf_323.sR _ (fun _ => rfl))
  have hf_340 : Fm (fun _ _ => False) (fun f9 b9 => b9 = h) (fun _ => False) S_174 (sR S_264 1108 h (some q_232)) := (hf_324.sR _ (fun _ => rfl))
  obtain ⟨S_336, eS_337⟩ : ∃ S9 : Hp, S9 = (sR S_264 1108 h (some q_232)) := ⟨_, rfl⟩
  refine J.eq (S' := S_336) eS_337.symm rfl rfl ?_
  have hm_341 : h ∈ hL S_336 := by rw [eS_337]; exact hm_271
  have hk_342 : Kd S_336 h 11 := by rw [eS_337]; exact hk_272
  have hm_343 : q_1 ∈ hL S_336 := by rw [eS_337]; exact hm_273
  have hk_344 : Kd S_336 q_1 13 := by rw [eS_337]; exact hk_274
  have hn_345 : Ln S_336 q_1 8000 := by rw [eS_337]; exact hn_275
  have hz_346 : ∀ j, aI S_336 q_1 j = 0 := by rw [eS_337]; exact hz_267
  have hm_347 : q_100 ∈ hL S_336 := by rw [eS_337]; exact hm_276
  have hk_348 : Kd S_336 q_100 21 := by rw [eS_337]; exact hk_277
  have hn_349 : Ln S_336 q_100 13 := by rw [eS_337]; exact hn_278
  have hm_350 : q_156 ∈ hL S_336 := by rw [eS_337]; exact hm_279
  have hk_351 : Kd S_336 q_156 9 := by rw [eS_337]; exact hk_280
  have hm_352 : q_16 ∈ hL S_336 := by rw [eS_337]; exact hm_281
  have hk_353 : Kd S_336 q_16 13 := by rw [eS_337]; exact hk_282
  have hn_354 : Ln S_336 q_16 12000 := by rw [eS_337]; exact hn_283
  have hz_355 : ∀ j, aI S_336 q_16 j = 0 := by rw [eS_337]; exact hz_268
  have hm_356 : q_232 ∈ hL S_336 := by rw [eS_337]; exact hm_284
  have hk_357 : Kd S_336 q_232 3 := by rw [eS_337]; exact hk_285
  have hm_358 : q_243 ∈ hL S_336 := by rw [eS_337]; exact e_248
  have hk_359 : Kd S_336 q_243 15 := by rw [eS_337]; exact e_249
  have hn_360 : Ln S_336 q_243 12 := by rw [eS_337]; exact e_250
  have hm_361 : q_244 ∈ hL S_336 := by rw [eS_337]; exact e_253
  have hk_362 : Kd S_336 q_244 13 := by rw [eS_337]; exact e_254
  have hn_363 : Ln S_336 q_244 12000 := by rw [eS_337]; exact e_255
  have hm_364 : q_245 ∈ hL S_336 := by rw [eS_337]; exact e_258
  have hk_365 : Kd S_336 q_245 16 := by rw [eS_337]; exact e_259
  have hn_366 : Ln S_336 q_245 16384 := by rw [eS_337]; exact e_260
  have hm_367 : q_36 ∈ hL S_336 := by rw [eS_337]; exact hm_286
  have hk_368 : Kd S_336 q_36 14 := by rw [eS_337]; exact hk_287
  have hn_369 : Ln S_336 q_36 6 := by rw [eS_337]; exact hn_288
  have hz_370 : ∀ j, aI S_336 q_36 j = 0 := by rw [eS_337]; exact hz_269
  have hm_371 : q_61 ∈ hL S_336 := by rw [eS_337]; exact hm_289
  have hk_372 : Kd S_336 q_61 14 := by rw [eS_337]; exact hk_290
  have hn_373 : Ln S_336 q_61 7 := by rw [eS_337]; exact hn_291
  have hz_374 : ∀ j, aI S_336 q_61 j = 0 := by rw [eS_337]; exact hz_270
  have hm_375 : q_93 ∈ hL S_336 := by rw [eS_337]; exact hm_292
  have hk_376 : Kd S_336 q_93 6 := by rw [eS_337]; exact hk_293
  have hm_377 : q_97 ∈ hL S_336 := by rw [eS_337]; exact hm_294
  have hk_378 : Kd S_336 q_97 13 := by rw [eS_337]; exact hk_295
  have hn_379 : Ln S_336 q_97 60000 := by rw [eS_337]; exact hn_296
  have hm_380 : q_98 ∈ hL S_336 := by rw [eS_337]; exact hm_297
  have hk_381 : Kd S_336 q_98 14 := by rw [eS_337]; exact hk_298
  have hn_382 : Ln S_336 q_98 12 := by rw [eS_337]; exact hn_299
  have hm_383 : q_99 ∈ hL S_336 := by rw [eS_337]; exact hm_300
  have hk_384 : Kd S_336 q_99 14 := by rw [eS_337]; exact hk_301
  have hn_385 : Ln S_336 q_99 12 := by rw [eS_337]; exact hn_302
  have hv_386 : hI S_336 1110 h = (-1) := by rw [eS_337]; exact hv_303
  have hv_387 : hI S_336 1111 h = (-1) := by rw [eS_337]; exact hv_304
  have hv_388 : hI S_336 601 q_93 = 0 := by rw [eS_337]; exact hv_305
  have hv_389 : hI S_336 602 q_93 = 0 := by rw [eS_337]; exact hv_306
  have hv_390 : hI S_336 603 q_93 = 0 := by rw [eS_337]; exact hv_307
  have hv_391 : hI S_336 914 q_156 = 0 := by rw [eS_337]; exact hv_308
  have hv_392 : hI S_336 916 q_156 = 0 := by rw [eS_337]; exact hv_309
  have hv_393 : hI S_336 918 q_156 = 0 := by rw [eS_337]; exact hv_310
  have hv_394 : hR S_336 1100 h = (some q_1) := by rw [eS_337]; exact (rd_sRf (S := S_264) (g := 1108) (a := h) (v := (some q_232)) (by decide) hv_311)
  have hv_395 : hR S_336 1102 h = (some q_16) := by rw [eS_337]; exact (rd_sRf (S := S_264) (g := 1108) (a := h) (v := (some q_232)) (by decide) hv_312)
  have hv_396 : hR S_336 1103 h = (some q_36) := by rw [eS_337]; exact (rd_sRf (S := S_264) (g := 1108) (a := h) (v := (some q_232)) (by decide) hv_313)
  have hv_397 : hR S_336 1104 h = (some q_61) := by rw [eS_337]; exact (rd_sRf (S := S_264) (g := 1108) (a := h) (v := (some q_232)) (by decide) hv_314)
  have hv_398 : hR S_336 1106 h = (some q_93) := by rw [eS_337]; exact (rd_sRf (S := S_264) (g := 1108) (a := h) (v := (some q_232)) (by decide) hv_315)
  have hv_399 : hR S_336 1107 h = (some q_156) := by rw [eS_337]; exact (rd_sRf (S := S_264) (g := 1108) (a := h) (v := (some q_232)) (by decide) hv_316)
  have hv_400 : hR S_336 1108 h = (some q_232) := by rw [eS_337]; exact (rd_sR (S := S_264) (g := 1108) (a := h) (v := (some q_232)))
  have hv_401 : hR S_336 300 q_232 = (some q_93) := by rw [eS_337]; exact (rd_sRf (S := S_264) (g := 1108) (a := h) (v := (some q_232)) (by decide) e_246)
  have hv_402 : hR S_336 307 q_232 = (some q_243) := by rw [eS_337]; exact (rd_sRf (S := S_264) (g := 1108) (a := h) (v := (some q_232)) (by decide) e_251)
  have hv_403 : hR S_336 317 q_232 = (some q_244) := by rw [eS_337]; exact (rd_sRf (S := S_264) (g := 1108) (a := h) (v := (some q_232)) (by decide) e_256)
  have hv_404 : hR S_336 320 q_232 = (some q_245) := by rw [eS_337]; exact (rd_sRf (S := S_264) (g := 1108) (a := h) (v := (some q_232)) (by decide) e_261)
  have hv_405 : hR S_336 600 q_93 = (some q_97) := by rw [eS_337]; exact (rd_sRf (S := S_264) (g := 1108) (a := h) (v := (some q_232)) (by decide) hv_317)
  have hv_406 : hR S_336 604 q_93 = (some q_98) := by rw [eS_337]; exact (rd_sRf (S := S_264) (g := 1108) (a := h) (v := (some q_232)) (by decide) hv_318)
  have hv_407 : hR S_336 605 q_93 = (some q_99) := by rw [eS_337]; exact (rd_sRf (S := S_264) (g := 1108) (a := h) (v := (some q_232)) (by decide) hv_319)
  have hv_408 : hR S_336 606 q_93 = (some q_100) := by rw [eS_337]; exact (rd_sRf (S := S_264) (g := 1108) (a := h) (v := (some q_232)) (by decide) hv_320)
  have hv_409 : hR S_336 900 q_156 = (some q_93) := by rw [eS_337]; exact (rd_sRf (S := S_264) (g := 1108) (a := h) (v := (some q_232)) (by decide) hv_321)
  have hf_410 : Fm (fun f9 b9 => (f9 = 1110 ∧ b9 = h) ∨ (f9 = 1111 ∧ b9 = h)) (fun f9 b9 => b9 = h) (fun _ => False) S S_336 := by rw [eS_337]; exact hf_338
  have hf_411 : Fm (fun _ _ => False) (fun f9 b9 => b9 = h) (fun _ => False) S_121 S_336 := by rw [eS_337]; exact hf_339
  have hf_412 : Fm (fun _ _ => False) (fun f9 b9 => b9 = h) (fun _ => False) S_174 S_336 := by rw [eS_337]; exact hf_340
  have hN_413 : NL S (((((((((([] ++ [q_1]) ++ [q_16]) ++ [q_36]) ++ [q_61]) ++ [q_93]) ++ ([q_97, q_98, q_99] ++ (q_100 :: l_101))) ++ [q_156]) ++ l_164) ++ [q_232]) ++ [q_243, q_244, q_245]) S_336 := by rw [eS_337]; exact (NL.sR (S := S_264) hN_335)
  have hRe : RWs S_336 q_100 l_101 := RWs.fm hRW_118 hf_411 e_111 (fun z => z)
  have hxe : ∀ a ∈ (q_156 :: l_164 : List Nat), a ≠ h := fun a ha e => by
    rcases List.mem_cons.mp ha with q9 | q9
    · exact hz_160 (by rw [← q9, e]; exact hm)
    · exact (e_168.2 a q9).1 (by rw [e]; exact (mem_old hm_128))
  have hle : (q_156 :: l_164 : List Nat).length = 106 := congrArg (· + 1) e_167
  have hWe : Wt s9K s9N s9P s9Q (fun i => (q_156 :: l_164 : List Nat).getD i 0) S_336 := Wt.fm e_166 s9_p s9_n s9_q hf_412 (fun p hp e => hxe _ (getD_in (by rw [hle, ← s9_l]; exact s9_p p hp)) e) (fun _ _ z => z)
  have hz_414 : ∀ j, aI S_336 ((q_156 :: l_164 : List Nat).getD 6 0) j = 0 := fun j => ((hf_412).ai (e_166.1 6 _ rfl).1 (fun z => z) j).trans (e_169 j)
  have hz_415 : ∀ j, aI S_336 ((q_156 :: l_164 : List Nat).getD 9 0) j = 0 := fun j => ((hf_412).ai (e_166.1 9 _ rfl).1 (fun z => z) j).trans (e_170 j)
  have hz_416 : ∀ j, aI S_336 ((q_156 :: l_164 : List Nat).getD 14 0) j = 0 := fun j => ((hf_412).ai (e_166.1 14 _ rfl).1 (fun z => z) j).trans (e_171 j)
  have hz_417 : ∀ j, aI S_336 ((q_156 :: l_164 : List Nat).getD 19 0) j = 0 := fun j => ((hf_412).ai (e_166.1 19 _ rfl).1 (fun z => z) j).trans (e_172 j)
  exact j_vret C M dX11_init_89 (Nat.le_of_ble_eq_true rfl) (Nat.le_of_ble_eq_true rfl) ⟨rfl, hf_410, hv_386, hv_387, q_1, q_16, q_36, q_61, q_93, q_97, q_98, q_99, q_100, l_101, q_156, l_164, q_232, q_243, q_244, q_245, ⟨hm_343, hk_344⟩, ⟨hm_352, hk_353⟩, ⟨hm_367, hk_368⟩, ⟨hm_371, hk_372⟩, ⟨hm_375, hk_376⟩, ⟨hm_377, hk_378⟩, ⟨hm_380, hk_381⟩, ⟨hm_383, hk_384⟩, ⟨hm_347, hk_348⟩, ⟨hm_356, hk_357⟩, ⟨hm_358, hk_359⟩, ⟨hm_361, hk_362⟩, ⟨hm_364, hk_365⟩, hn_345, hn_354, hn_369, hn_373, hn_379, hn_382, hn_385, hn_349, hn_360, hn_363, hn_366, hv_394, hv_395, hv_396, hv_397, hv_398, hv_399, hv_400, hv_405, hv_406, hv_407, hv_408, hv_409, hv_401, hv_402, hv_403, hv_404, hRe, hWe, hle, hN_413, hz_374, hz_414, hz_415, hz_416, hz_417⟩
