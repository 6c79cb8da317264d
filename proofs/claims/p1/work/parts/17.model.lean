/-- how many blanks stand ahead of place k of text i -/
def cntS (i : Nat) : Nat → Nat
  | 0 => 0
  | k + 1 => cntS i k + (if chv i k = 32 then 1 else 0)
theorem cntS_y {i k : Nat} (h : chv i k = 32) : cntS i (k + 1) = cntS i k + 1 := by
  show cntS i k + (if chv i k = 32 then 1 else 0) = _
  rw [if_pos h]
theorem cntS_n {i k : Nat} (h : ¬ chv i k = 32) : cntS i (k + 1) = cntS i k := by
  show cntS i k + (if chv i k = 32 then 1 else 0) = _
  rw [if_neg h]; rfl

theorem dX12_readRow_0 : decode cX12_readRow 0 = .ok (.iload_n 2, 1) := by decide +kernel
theorem dX12_readRow_1 : decode cX12_readRow 1 = .ok (.istore_n 3, 1) := by decide +kernel
theorem dX12_readRow_2 : decode cX12_readRow 2 = .ok (.iconst 0, 1) := by decide +kernel
theorem dX12_readRow_3 : decode cX12_readRow 3 = .ok (.istore 4, 2) := by decide +kernel
theorem dX12_readRow_5 : decode cX12_readRow 5 = .ok (.iconst 0, 1) := by decide +kernel
theorem dX12_readRow_6 : decode cX12_readRow 6 = .ok (.istore 5, 2) := by decide +kernel
theorem dX12_readRow_8 : decode cX12_readRow 8 = .ok (.iconst 0, 1) := by decide +kernel
theorem dX12_readRow_9 : decode cX12_readRow 9 = .ok (.istore 6, 2) := by decide +kernel
theorem dX12_readRow_11 : decode cX12_readRow 11 = .ok (.iconst 0, 1) := by decide +kernel
theorem dX12_readRow_12 : decode cX12_readRow 12 = .ok (.istore 7, 2) := by decide +kernel
theorem dX12_readRow_14 : decode cX12_readRow 14 = .ok (.iload 7, 2) := by decide +kernel
theorem dX12_readRow_16 : decode cX12_readRow 16 = .ok (.aload_n 1, 1) := by decide +kernel
theorem dX12_readRow_17 : decode cX12_readRow 17 = .ok (.invokevirtual 513, 3) := by decide +kernel
theorem dX12_readRow_20 : decode cX12_readRow 20 = .ok (.if_icmp .ge 120, 3) := by decide +kernel
theorem dX12_readRow_23 : decode cX12_readRow 23 = .ok (.aload_n 1, 1) := by decide +kernel
theorem dX12_readRow_24 : decode cX12_readRow 24 = .ok (.iload 7, 2) := by decide +kernel
theorem dX12_readRow_26 : decode cX12_readRow 26 = .ok (.invokevirtual 518, 3) := by decide +kernel
theorem dX12_readRow_29 : decode cX12_readRow 29 = .ok (.istore 8, 2) := by decide +kernel
theorem dX12_readRow_31 : decode cX12_readRow 31 = .ok (.iload 8, 2) := by decide +kernel
theorem dX12_readRow_33 : decode cX12_readRow 33 = .ok (.bipush 32, 2) := by decide +kernel
theorem dX12_readRow_35 : decode cX12_readRow 35 = .ok (.if_icmp .ne 34, 3) := by decide +kernel
theorem dX12_readRow_38 : decode cX12_readRow 38 = .ok (.aload_n 0, 1) := by decide +kernel
theorem dX12_readRow_39 : decode cX12_readRow 39 = .ok (.getfield 108, 3) := by decide +kernel
theorem dX12_readRow_42 : decode cX12_readRow 42 = .ok (.iload_n 3, 1) := by decide +kernel
theorem dX12_readRow_43 : decode cX12_readRow 43 = .ok (.iload 4, 2) := by decide +kernel
theorem dX12_readRow_45 : decode cX12_readRow 45 = .ok (.iastore, 1) := by decide +kernel
theorem dX12_readRow_46 : decode cX12_readRow 46 = .ok (.aload_n 0, 1) := by decide +kernel
theorem dX12_readRow_47 : decode cX12_readRow 47 = .ok (.getfield 111, 3) := by decide +kernel
theorem dX12_readRow_50 : decode cX12_readRow 50 = .ok (.iload_n 3, 1) := by decide +kernel
theorem dX12_readRow_51 : decode cX12_readRow 51 = .ok (.iload 5, 2) := by decide +kernel
theorem dX12_readRow_53 : decode cX12_readRow 53 = .ok (.iastore, 1) := by decide +kernel
theorem dX12_readRow_54 : decode cX12_readRow 54 = .ok (.iinc 3 1, 3) := by decide +kernel
theorem dX12_readRow_57 : decode cX12_readRow 57 = .ok (.iconst 0, 1) := by decide +kernel
theorem dX12_readRow_58 : decode cX12_readRow 58 = .ok (.istore 4, 2) := by decide +kernel
theorem dX12_readRow_60 : decode cX12_readRow 60 = .ok (.iconst 0, 1) := by decide +kernel
theorem dX12_readRow_61 : decode cX12_readRow 61 = .ok (.istore 5, 2) := by decide +kernel
theorem dX12_readRow_63 : decode cX12_readRow 63 = .ok (.iconst 0, 1) := by decide +kernel
theorem dX12_readRow_64 : decode cX12_readRow 64 = .ok (.istore 6, 2) := by decide +kernel
theorem dX12_readRow_66 : decode cX12_readRow 66 = .ok (.goto 68, 3) := by decide +kernel
theorem dX12_readRow_69 : decode cX12_readRow 69 = .ok (.iload 8, 2) := by decide +kernel
theorem dX12_readRow_71 : decode cX12_readRow 71 = .ok (.bipush 58, 2) := by decide +kernel
theorem dX12_readRow_73 : decode cX12_readRow 73 = .ok (.if_icmp .ne 9, 3) := by decide +kernel
theorem dX12_readRow_76 : decode cX12_readRow 76 = .ok (.iconst 1, 1) := by decide +kernel
theorem dX12_readRow_77 : decode cX12_readRow 77 = .ok (.istore 6, 2) := by decide +kernel
theorem dX12_readRow_79 : decode cX12_readRow 79 = .ok (.goto 55, 3) := by decide +kernel
theorem dX12_readRow_82 : decode cX12_readRow 82 = .ok (.iload 6, 2) := by decide +kernel
theorem dX12_readRow_84 : decode cX12_readRow 84 = .ok (.ifCond .eq 37, 3) := by decide +kernel
theorem dX12_readRow_87 : decode cX12_readRow 87 = .ok (.iload 5, 2) := by decide +kernel
theorem dX12_readRow_89 : decode cX12_readRow 89 = .ok (.bipush 16, 2) := by decide +kernel
theorem dX12_readRow_91 : decode cX12_readRow 91 = .ok (.imul, 1) := by decide +kernel
theorem dX12_readRow_92 : decode cX12_readRow 92 = .ok (.iload 8, 2) := by decide +kernel
theorem dX12_readRow_94 : decode cX12_readRow 94 = .ok (.bipush 57, 2) := by decide +kernel
theorem dX12_readRow_96 : decode cX12_readRow 96 = .ok (.if_icmp .gt 11, 3) := by decide +kernel
theorem dX12_readRow_99 : decode cX12_readRow 99 = .ok (.iload 8, 2) := by decide +kernel
theorem dX12_readRow_101 : decode cX12_readRow 101 = .ok (.bipush 48, 2) := by decide +kernel
theorem dX12_readRow_103 : decode cX12_readRow 103 = .ok (.isub, 1) := by decide +kernel
theorem dX12_readRow_104 : decode cX12_readRow 104 = .ok (.goto 11, 3) := by decide +kernel
theorem dX12_readRow_107 : decode cX12_readRow 107 = .ok (.iload 8, 2) := by decide +kernel
theorem dX12_readRow_109 : decode cX12_readRow 109 = .ok (.bipush 97, 2) := by decide +kernel
theorem dX12_readRow_111 : decode cX12_readRow 111 = .ok (.isub, 1) := by decide +kernel
theorem dX12_readRow_112 : decode cX12_readRow 112 = .ok (.bipush 10, 2) := by decide +kernel
theorem dX12_readRow_114 : decode cX12_readRow 114 = .ok (.iadd, 1) := by decide +kernel
theorem dX12_readRow_115 : decode cX12_readRow 115 = .ok (.iadd, 1) := by decide +kernel
theorem dX12_readRow_116 : decode cX12_readRow 116 = .ok (.istore 5, 2) := by decide +kernel
theorem dX12_readRow_118 : decode cX12_readRow 118 = .ok (.goto 16, 3) := by decide +kernel
theorem dX12_readRow_121 : decode cX12_readRow 121 = .ok (.iload 4, 2) := by decide +kernel
theorem dX12_readRow_123 : decode cX12_readRow 123 = .ok (.bipush 10, 2) := by decide +kernel
theorem dX12_readRow_125 : decode cX12_readRow 125 = .ok (.imul, 1) := by decide +kernel
theorem dX12_readRow_126 : decode cX12_readRow 126 = .ok (.iload 8, 2) := by decide +kernel
theorem dX12_readRow_128 : decode cX12_readRow 128 = .ok (.iadd, 1) := by decide +kernel
theorem dX12_readRow_129 : decode cX12_readRow 129 = .ok (.bipush 48, 2) := by decide +kernel
theorem dX12_readRow_131 : decode cX12_readRow 131 = .ok (.isub, 1) := by decide +kernel
theorem dX12_readRow_132 : decode cX12_readRow 132 = .ok (.istore 4, 2) := by decide +kernel
theorem dX12_readRow_134 : decode cX12_readRow 134 = .ok (.iinc 7 1, 3) := by decide +kernel
theorem dX12_readRow_137 : decode cX12_readRow 137 = .ok (.goto (-123), 3) := by decide +kernel
theorem dX12_readRow_140 : decode cX12_readRow 140 = .ok (.return_, 1) := by decide +kernel
set_option maxRecDepth 100000 in
set_option maxHeartbeats 4000000 in
theorem c_X12_readRow (v : EV) (S : Hp) (m q1 q2 i a0 : Nat) (hm : m ∈ hL S) (hk : hK S m = 12) (r1 : hR S 1256 m = some q1) (r2 : hR S 1257 m = some q2) (m1 : q1 ∈ hL S) (k1 : Kd S q1 14) (l1 : Ln S q1 148) (m2 : q2 ∈ hL S) (k2 : Kd S q2 14) (l2 : Ln S q2 148) (hi : i < 2) (hz9 : nI (txLen.getD i 0) >>> ((0 : Int32) &&& 31) = nI (txLen.getD i 0)) (hl9 : txLen.getD i 0 < 2 ^ 31) (hc : ∀ k, k < txLen.getD i 0 → chv i k = 32 → a0 + cntS i k < 148) : CtA v 5 yX12_readRow cX12_readRow 9 none 0 0 [.ref m, .ref (v.2.2 (20 + i)), .int (nI (a0 + 0))] S (fun r S' => r = none ∧ Fm (fun _ _ => False) (fun _ _ => False) (fun b9 => b9 = q1 ∨ b9 = q2) S S') := by
  refine ct_ofA (by decide) (Nat.le_of_ble_eq_true rfl) fun x hv9 hn9 C M hm9 => ?_
  subst hv9
  have C : CB x RX12 cX12_readRow := C
  refine J.eq (lv' := [(0, .ref m), (1, .ref ((x_v x).2.2 (20 + i))), (2, .int (nI (a0 + 0)))]) rfl rfl rfl ?_
  refine j_iload_n C dX12_readRow_0 rfl 2 rfl ?_
  refine j_istore_n (lv' := [(3, .int (nI (a0 + 0))), (0, .ref m), (1, .ref ((x_v x).2.2 (20 + i))), (2, .int (nI (a0 + 0)))]) C dX12_readRow_1 rfl (by rw [hn9]; decide) rfl ?_
  refine j_iconst (v := 0) C dX12_readRow_2 (by decide) ?_
  refine j_istore (lv' := [(4, .int 0), (3, .int (nI (a0 + 0))), (0, .ref m), (1, .ref ((x_v x).2.2 (20 + i))), (2, .int (nI (a0 + 0)))]) C dX12_readRow_3 (by rw [hn9]; decide) rfl ?_
  refine j_iconst (v := 0) C dX12_readRow_5 (by decide) ?_
  refine j_istore (lv' := [(5, .int 0), (4, .int 0), (3, .int (nI (a0 + 0))), (0, .ref m), (1, .ref ((x_v x).2.2 (20 + i))), (2, .int (nI (a0 + 0)))]) C dX12_readRow_6 (by rw [hn9]; decide) rfl ?_
  refine j_iconst (v := 0) C dX12_readRow_8 (by decide) ?_
  refine j_istore (lv' := [(6, .int 0), (5, .int 0), (4, .int 0), (3, .int (nI (a0 + 0))), (0, .ref m), (1, .ref ((x_v x).2.2 (20 + i))), (2, .int (nI (a0 + 0)))]) C dX12_readRow_9 (by rw [hn9]; decide) rfl ?_
  show J _ _ _ _ _ 11 _
  refine j_iconst (v := 0) C dX12_readRow_11 (by decide) ?_
  refine j_istore (lv' := [(7, .int 0), (6, .int 0), (5, .int 0), (4, .int 0), (3, .int (nI (a0 + 0))), (0, .ref m), (1, .ref ((x_v x).2.2 (20 + i))), (2, .int (nI (a0 + 0)))]) C dX12_readRow_12 (by rw [hn9]; decide) rfl ?_
  have loop_5 : ∀ (m9 k0 : Nat) (S_2 : Hp) (b4 : Int32) (b5 : Int32) (b6 : Int32), k0 + m9 = (txLen.getD i 0) → Fm (fun _ _ => False) (fun _ _ => False) (fun b9 => b9 = q1 ∨ b9 = q2) S S_2 → J x (0) (0) S_2 [(7, .int (nI k0)), (6, .int b6), (5, .int b5), (4, .int b4), (3, .int (nI (a0 + cntS i k0))), (0, .ref m), (1, .ref ((x_v x).2.2 (20 + i))), (2, .int (nI (a0 + 0)))] 14 [] := by
    intro m9
    induction m9 with
    | zero =>
      intro k0 S_2 b4 b5 b6 hi_6 hl_3 
      have hm_7 : m ∈ hL S_2 := hl_3.mem hm
      have hk_8 : Kd S_2 m 12 := hl_3.kd hm hk
      have hm_9 : q1 ∈ hL S_2 := hl_3.mem m1
      have hk_10 : Kd S_2 q1 14 := hl_3.kd m1 k1
      have hn_11 : Ln S_2 q1 148 := hl_3.ln m1 l1
      have hm_12 : q2 ∈ hL S_2 := hl_3.mem m2
      have hk_13 : Kd S_2 q2 14 := hl_3.kd m2 k2
      have hn_14 : Ln S_2 q2 148 := hl_3.ln m2 l2
      have hv_15 : hR S_2 1256 m = (some q1) := hl_3.fr hm (fun h9 => h9) r1
      have hv_16 : hR S_2 1257 m = (some q2) := hl_3.fr hm (fun h9 => h9) r2
      have hf_17 : Fm (fun _ _ => False) (fun _ _ => False) (fun b9 => b9 = q1 ∨ b9 = q2) S S_2 := (Fm.refl (WI := (fun _ _ => False)) (WR := (fun _ _ => False)) (WA := (fun b9 => b9 = q1 ∨ b9 = q2))).then hl_3 (fun a9 ha9 => ⟨(fun f9 h9 => h9.elim), (fun f9 h9 => h9.elim), (fun h9 => (fun h9 => h9.elim (fun h8 => (Or.inl h8)) (fun h8 => (Or.inr h8))) h9)⟩)
      refine j_iload C dX12_readRow_14 0 rfl ?_
      refine j_aload_n C dX12_readRow_16 rfl 6 rfl ?_
      refine j_callVX C [] [.int (nI k0)] mlX12_513 mcJ0_length_8abf5 (c_length (x_v x) S_2 i hi hz9) (st_recv C hi) (M.rm (by decide) (by decide) (Nat.le_of_ble_eq_true rfl) (Nat.le_of_ble_eq_true rfl)) rfl rfl (Nat.le_of_ble_eq_true rfl) dX12_readRow_17 (fun r_18 S_19 hp_20 => ?_)
      obtain ⟨rfl, e_21⟩ := hp_20
      refine J.eq (S' := S_2) (st' := [.int (nI (txLen.getD i 0)), .int (nI k0)]) e_21 rfl rfl ?_
      refine j_ic_ge (tgt := 140) C dX12_readRow_20 (by decide) (fun c_20 => ?_) (fun c_20 => absurd (nI_le (by omega) (by omega)) c_20)
      exact j_vret C M dX12_readRow_140 (Nat.le_of_ble_eq_true rfl) (Nat.le_of_ble_eq_true rfl) ⟨rfl, hf_17⟩
    | succ m9 ih_4 =>
      intro k0 S_2 b4 b5 b6 hi_6 hl_3 
      have hm_22 : m ∈ hL S_2 := hl_3.mem hm
      have hk_23 : Kd S_2 m 12 := hl_3.kd hm hk
      have hm_24 : q1 ∈ hL S_2 := hl_3.mem m1
      have hk_25 : Kd S_2 q1 14 := hl_3.kd m1 k1
      have hn_26 : Ln S_2 q1 148 := hl_3.ln m1 l1
      have hm_27 : q2 ∈ hL S_2 := hl_3.mem m2
      have hk_28 : Kd S_2 q2 14 := hl_3.kd m2 k2
      have hn_29 : Ln S_2 q2 148 := hl_3.ln m2 l2
      have hv_30 : hR S_2 1256 m = (some q1) := hl_3.fr hm (fun h9 => h9) r1
      have hv_31 : hR S_2 1257 m = (some q2) := hl_3.fr hm (fun h9 => h9) r2
      have hf_32 : Fm (fun _ _ => False) (fun _ _ => False) (fun b9 => b9 = q1 ∨ b9 = q2) S S_2 := (Fm.refl (WI := (fun _ _ => False)) (WR := (fun _ _ => False)) (WA := (fun b9 => b9 = q1 ∨ b9 = q2))).then hl_3 (fun a9 ha9 => ⟨(fun f9 h9 => h9.elim), (fun f9 h9 => h9.elim), (fun h9 => (fun h9 => h9.elim (fun h8 => (Or.inl h8)) (fun h8 => (Or.inr h8))) h9)⟩)
      refine j_iload C dX12_readRow_14 0 rfl ?_
      refine j_aload_n C dX12_readRow_16 rfl 6 rfl ?_
      refine j_callVX C [] [.int (nI k0)] mlX12_513 mcJ0_length_8abf5 (c_length (x_v x) S_2 i hi hz9) (st_recv C hi) (M.rm (by decide) (by decide) (Nat.le_of_ble_eq_true rfl) (Nat.le_of_ble_eq_true rfl)) rfl rfl (Nat.le_of_ble_eq_true rfl) dX12_readRow_17 (fun r_33 S_34 hp_35 => ?_)
      obtain ⟨rfl, e_36⟩ := hp_35
      refine J.eq (S' := S_2) (st' := [.int (nI (txLen.getD i 0)), .int (nI k0)]) e_36 rfl rfl ?_
      refine j_ic_ge (tgt := 140) C dX12_readRow_20 (by decide) (fun c_20 => absurd c_20 (nI_ge (by omega) (by omega))) (fun c_20 => ?_)
      show J _ _ _ _ _ 23 _
      refine j_aload_n C dX12_readRow_23 rfl 6 rfl ?_
      refine j_iload C dX12_readRow_24 0 rfl ?_
      refine j_callVX C [.int (nI k0)] [] mlX12_518 mcJ0_charAt_5068e (c_charAt (x_v x) S_2 i k0 hi (by omega) hl9) (st_recv C hi) (M.rm (by decide) (by decide) (Nat.le_of_ble_eq_true rfl) (Nat.le_of_ble_eq_true rfl)) rfl rfl (Nat.le_of_ble_eq_true rfl) dX12_readRow_26 (fun r_37 S_38 hp_39 => ?_)
      obtain ⟨rfl, e_40⟩ := hp_39
      refine J.eq (S' := S_2) (st' := [.int (chv i k0)]) e_40 rfl rfl ?_
      refine j_istore (lv' := [(8, .int (chv i k0)), (7, .int (nI k0)), (6, .int b6), (5, .int b5), (4, .int b4), (3, .int (nI (a0 + cntS i k0))), (0, .ref m), (1, .ref ((x_v x).2.2 (20 + i))), (2, .int (nI (a0 + 0)))]) C dX12_readRow_29 (by rw [hn9]; decide) rfl ?_
      refine j_iload C dX12_readRow_31 0 rfl ?_
      refine j_bipush (v := 32) C dX12_readRow_33 (by decide) ?_
      refine j_ic_ne (tgt := 69) C dX12_readRow_35 (by decide) (fun c_35 => ?_) (fun c_35 => ?_)
      · skip
        have hc9 := cntS_n c_35
        refine J.eq (lv' := [(8, .int (chv i k0)), (7, .int (nI k0)), (6, .int b6), (5, .int b5), (4, .int b4), (3, .int (nI (a0 + cntS i (k0 + 1)))), (0, .ref m), (1, .ref ((x_v x).2.2 (20 + i))), (2, .int (nI (a0 + 0)))]) rfl (by rw [hc9]) rfl ?_
        refine j_iload C dX12_readRow_69 0 rfl ?_
        refine j_bipush (v := 58) C dX12_readRow_71 (by decide) ?_
        show J _ _ _ _ _ 73 _
        refine j_ic_ne (tgt := 82) C dX12_readRow_73 (by decide) (fun c_73 => ?_) (fun c_73 => ?_)
        · skip
          refine j_iload C dX12_readRow_82 2 rfl ?_
          refine j_if_eq (tgt := 121) C dX12_readRow_84 (by decide) (fun c_84 => ?_) (fun c_84 => ?_)
          · skip
            refine j_iload C dX12_readRow_121 4 rfl ?_
            refine j_bipush (v := 10) C dX12_readRow_123 (by decide) ?_
            refine j_imul C dX12_readRow_125 rfl ?_
            refine j_iload C dX12_readRow_126 0 rfl ?_
            refine j_iadd C dX12_readRow_128 rfl ?_
            refine j_bipush (v := 48) C dX12_readRow_129 (by decide) ?_
            refine j_isub C dX12_readRow_131 rfl ?_
            show J _ _ _ _ _ 132 _
            refine j_istore (lv' := [(4, .int (((b4 * 10) + (chv i k0)) - 48)), (8, .int (chv i k0)), (7, .int (nI k0)), (6, .int b6), (5, .int b5), (3, .int (nI (a0 + cntS i (k0 + 1)))), (0, .ref m), (1, .ref ((x_v x).2.2 (20 + i))), (2, .int (nI (a0 + 0)))]) C dX12_readRow_132 (by rw [hn9]; decide) rfl ?_
            refine j_iinc (q := 2) (v := nI (k0 + 1)) (lv' := [(7, .int (nI (k0 + 1))), (4, .int (((b4 * 10) + (chv i k0)) - 48)), (8, .int (chv i k0)), (6, .int b6), (5, .int b5), (3, .int (nI (a0 + cntS i (k0 + 1)))), (0, .ref m), (1, .ref ((x_v x).2.2 (20 + i))), (2, .int (nI (a0 + 0)))]) C dX12_readRow_134 rfl (by rw [show Int32.ofInt 1 = 1 by decide]; exact nI_add k0 1) (by rw [hn9]; decide) rfl ?_
            refine j_goto (tgt := 14) C dX12_readRow_137 (by decide) ?_
            refine J.sub [0, 3, 4, 1, 5, 6, 7, 8] (lv' := [(7, .int (nI (k0 + 1))), (6, .int b6), (5, .int b5), (4, .int (((b4 * 10) + (chv i k0)) - 48)), (3, .int (nI (a0 + cntS i (k0 + 1)))), (0, .ref m), (1, .ref ((x_v x).2.2 (20 + i))), (2, .int (nI (a0 + 0)))]) (by rfl) ?_
            exact ih_4 (k0 + 1) _ (((b4 * 10) + (chv i k0)) - 48) b5 b6 (by omega) hf_32 
          · skip
            refine j_iload C dX12_readRow_87 3 rfl ?_
            refine j_bipush (v := 16) C dX12_readRow_89 (by decide) ?_
            refine j_imul C dX12_readRow_91 rfl ?_
            refine j_iload C dX12_readRow_92 0 rfl ?_
            refine j_bipush (v := 57) C dX12_readRow_94 (by decide) ?_
            show J _ _ _ _ _ 96 _
            refine j_ic_gt (tgt := 107) C dX12_readRow_96 (by decide) (fun c_96 => ?_) (fun c_96 => ?_)
            · skip
              refine j_iload C dX12_readRow_107 0 rfl ?_
              refine j_bipush (v := 97) C dX12_readRow_109 (by decide) ?_
              refine j_isub C dX12_readRow_111 rfl ?_
              refine j_bipush (v := 10) C dX12_readRow_112 (by decide) ?_
              refine j_iadd C dX12_readRow_114 rfl ?_
              refine j_iadd C dX12_readRow_115 rfl ?_
              refine j_istore (lv' := [(5, .int ((b5 * 16) + (((chv i k0) - 97) + 10))), (8, .int (chv i k0)), (7, .int (nI k0)), (6, .int b6), (4, .int b4), (3, .int (nI (a0 + cntS i (k0 + 1)))), (0, .ref m), (1, .ref ((x_v x).2.2 (20 + i))), (2, .int (nI (a0 + 0)))]) C dX12_readRow_116 (by rw [hn9]; decide) rfl ?_
              refine j_goto (tgt := 134) C dX12_readRow_118 (by decide) ?_
              show J _ _ _ _ _ 134 _
              refine j_iinc (q := 2) (v := nI (k0 + 1)) (lv' := [(7, .int (nI (k0 + 1))), (5, .int ((b5 * 16) + (((chv i k0) - 97) + 10))), (8, .int (chv i k0)), (6, .int b6), (4, .int b4), (3, .int (nI (a0 + cntS i (k0 + 1)))), (0, .ref m), (1, .ref ((x_v x).2.2 (20 + i))), (2, .int (nI (a0 + 0)))]) C dX12_readRow_134 rfl (by rw [show Int32.ofInt 1 = 1 by decide]; exact nI_add k0 1) (by rw [hn9]; decide) rfl ?_
              refine j_goto (tgt := 14) C dX12_readRow_137 (by decide) ?_
              refine J.sub [0, 3, 1, 4, 5, 6, 7, 8] (lv' := [(7, .int (nI (k0 + 1))), (6, .int b6), (5, .int ((b5 * 16) + (((chv i k0) - 97) + 10))), (4, .int b4), (3, .int (nI (a0 + cntS i (k0 + 1)))), (0, .ref m), (1, .ref ((x_v x).2.2 (20 + i))), (2, .int (nI (a0 + 0)))]) (by rfl) ?_
              exact ih_4 (k0 + 1) _ b4 ((b5 * 16) + (((chv i k0) - 97) + 10)) b6 (by omega) hf_32 
            · skip
              refine j_iload C dX12_readRow_99 0 rfl ?_
              refine j_bipush (v := 48) C dX12_readRow_101 (by decide) ?_
              refine j_isub C dX12_readRow_103 rfl ?_
              refine j_goto (tgt := 115) C dX12_readRow_104 (by decide) ?_
              refine j_iadd C dX12_readRow_115 rfl ?_
              refine j_istore (lv' := [(5, .int ((b5 * 16) + ((chv i k0) - 48))), (8, .int (chv i k0)), (7, .int (nI k0)), (6, .int b6), (4, .int b4), (3, .int (nI (a0 + cntS i (k0 + 1)))), (0, .ref m), (1, .ref ((x_v x).2.2 (20 + i))), (2, .int (nI (a0 + 0)))]) C dX12_readRow_116 (by rw [hn9]; decide) rfl ?_
              show J _ _ _ _ _ 118 _
              refine j_goto (tgt := 134) C dX12_readRow_118 (by decide) ?_
              refine j_iinc (q := 2) (v := nI (k0 + 1)) (lv' := [(7, .int (nI (k0 + 1))), (5, .int ((b5 * 16) + ((chv i k0) - 48))), (8, .int (chv i k0)), (6, .int b6), (4, .int b4), (3, .int (nI (a0 + cntS i (k0 + 1)))), (0, .ref m), (1, .ref ((x_v x).2.2 (20 + i))), (2, .int (nI (a0 + 0)))]) C dX12_readRow_134 rfl (by rw [show Int32.ofInt 1 = 1 by decide]; exact nI_add k0 1) (by rw [hn9]; decide) rfl ?_
              refine j_goto (tgt := 14) C dX12_readRow_137 (by decide) ?_
              refine J.sub [0, 3, 1, 4, 5, 6, 7, 8] (lv' := [(7, .int (nI (k0 + 1))), (6, .int b6), (5, .int ((b5 * 16) + ((chv i k0) - 48))), (4, .int b4), (3, .int (nI (a0 + cntS i (k0 + 1)))), (0, .ref m), (1, .ref ((x_v x).2.2 (20 + i))), (2, .int (nI (a0 + 0)))]) (by rfl) ?_
              exact ih_4 (k0 + 1) _ b4 ((b5 * 16) + ((chv i k0) - 48)) b6 (by omega) hf_32 
        · skip
          refine j_iconst (v := 1) C dX12_readRow_76 (by decide) ?_
          refine j_istore (lv' := [(6, .int 1), (8, .int (chv i k0)), (7, .int (nI k0)), (5, .int b5), (4, .int b4), (3, .int (nI (a0 + cntS i (k0 + 1)))), (0, .ref m), (1, .ref ((x_v x).2.2 (20 + i))), (2, .int (nI (a0 + 0)))]) C dX12_readRow_77 (by rw [hn9]; decide) rfl ?_
          refine j_goto (tgt := 134) C dX12_readRow_79 (by decide) ?_
          refine j_iinc (q := 2) (v := nI (k0 + 1)) (lv' := [(7, .int (nI (k0 + 1))), (6, .int 1), (8, .int (chv i k0)), (5, .int b5), (4, .int b4), (3, .int (nI (a0 + cntS i (k0 + 1)))), (0, .ref m), (1, .ref ((x_v x).2.2 (20 + i))), (2, .int (nI (a0 + 0)))]) C dX12_readRow_134 rfl (by rw [show Int32.ofInt 1 = 1 by decide]; exact nI_add k0 1) (by rw [hn9]; decide) rfl ?_
          refine j_goto (tgt := 14) C dX12_readRow_137 (by decide) ?_
          show J _ _ _ _ _ 14 _
          refine J.sub [0, 1, 3, 4, 5, 6, 7, 8] (lv' := [(7, .int (nI (k0 + 1))), (6, .int 1), (5, .int b5), (4, .int b4), (3, .int (nI (a0 + cntS i (k0 + 1)))), (0, .ref m), (1, .ref ((x_v x).2.2 (20 + i))), (2, .int (nI (a0 + 0)))]) (by rfl) ?_
          exact ih_4 (k0 + 1) _ b4 b5 1 (by omega) hf_32 
      · skip
        have hb9 := hc k0 (by omega) c_35
        refine j_aload_n C dX12_readRow_38 rfl 6 rfl ?_
        refine j_getr (f := 1256) (v := q1) C flX12_108 dX12_readRow_39 hm_22 hk_23 (by decide) rfl hv_30 ?_
        refine j_iload_n C dX12_readRow_42 rfl 5 rfl ?_
        refine j_iload C dX12_readRow_43 4 rfl ?_
        refine j_iast (j := (a0 + cntS i k0)) C dX12_readRow_45 hm_24 hk_25 (inr_of (n := 148) hn_26 (vp_in_nI (by omega) (by omega))) (nI_clamp (by omega)) ?_
        refine j_aload_n C dX12_readRow_46 rfl 6 rfl ?_
        refine j_getr (f := 1257) (v := q2) C flX12_111 dX12_readRow_47 hm_22 hk_23 (by decide) rfl hv_31 ?_
        refine j_iload_n C dX12_readRow_50 rfl 5 rfl ?_
        show J _ _ _ _ _ 51 _
        refine j_iload C dX12_readRow_51 3 rfl ?_
        refine j_iast (j := (a0 + cntS i k0)) C dX12_readRow_53 hm_27 hk_28 (inr_of (n := 148) hn_29 (vp_in_nI (by omega) (by omega))) (nI_clamp (by omega)) ?_
        refine j_iinc (q := 5) (v := nI (a0 + cntS i (k0 + 1))) (lv' := [(3, .int (nI (a0 + cntS i (k0 + 1)))), (8, .int (chv i k0)), (7, .int (nI k0)), (6, .int b6), (5, .int b5), (4, .int b4), (0, .ref m), (1, .ref ((x_v x).2.2 (20 + i))), (2, .int (nI (a0 + 0)))]) C dX12_readRow_54 rfl (by rw [show Int32.ofInt 1 = 1 by decide, cntS_y c_35]; exact nI_add _ 1) (by rw [hn9]; decide) rfl ?_
        refine j_iconst (v := 0) C dX12_readRow_57 (by decide) ?_
        refine j_istore (lv' := [(4, .int 0), (3, .int (nI (a0 + cntS i (k0 + 1)))), (8, .int (chv i k0)), (7, .int (nI k0)), (6, .int b6), (5, .int b5), (0, .ref m), (1, .ref ((x_v x).2.2 (20 + i))), (2, .int (nI (a0 + 0)))]) C dX12_readRow_58 (by rw [hn9]; decide) rfl ?_
        refine j_iconst (v := 0) C dX12_readRow_60 (by decide) ?_
        refine j_istore (lv' := [(5, .int 0), (4, .int 0), (3, .int (nI (a0 + cntS i (k0 + 1)))), (8, .int (chv i k0)), (7, .int (nI k0)), (6, .int b6), (0, .ref m), (1, .ref ((x_v x).2.2 (20 + i))), (2, .int (nI (a0 + 0)))]) C dX12_readRow_61 (by rw [hn9]; decide) rfl ?_
        refine j_iconst (v := 0) C dX12_readRow_63 (by decide) ?_
        show J _ _ _ _ _ 64 _
        refine j_istore (lv' := [(6, .int 0), (5, .int 0), (4, .int 0), (3, .int (nI (a0 + cntS i (k0 + 1)))), (8, .int (chv i k0)), (7, .int (nI k0)), (0, .ref m), (1, .ref ((x_v x).2.2 (20 + i))), (2, .int (nI (a0 + 0)))]) C dX12_readRow_64 (by rw [hn9]; decide) rfl ?_
        refine j_goto (tgt := 134) C dX12_readRow_66 (by decide) ?_
        refine j_iinc (q := 5) (v := nI (k0 + 1)) (lv' := [(7, .int (nI (k0 + 1))), (6, .int 0), (5, .int 0), (4, .int 0), (3, .int (nI (a0 + cntS i (k0 + 1)))), (8, .int (chv i k0)), (0, .ref m), (1, .ref ((x_v x).2.2 (20 + i))), (2, .int (nI (a0 + 0)))]) C dX12_readRow_134 rfl (by rw [show Int32.ofInt 1 = 1 by decide]; exact nI_add k0 1) (by rw [hn9]; decide) rfl ?_
        refine j_goto (tgt := 14) C dX12_readRow_137 (by decide) ?_
        refine J.sub [0, 1, 2, 3, 4, 6, 7, 8] (lv' := [(7, .int (nI (k0 + 1))), (6, .int 0), (5, .int 0), (4, .int 0), (3, .int (nI (a0 + cntS i (k0 + 1)))), (0, .ref m), (1, .ref ((x_v x).2.2 (20 + i))), (2, .int (nI (a0 + 0)))]) (by rfl) ?_
        exact ih_4 (k0 + 1) _ 0 0 0 (by omega) ((hf_32.tI _ _ (fun _ => (Or.inl rfl))).tI _ _ (fun _ => (Or.inr rfl))) 
  refine J.sub [0, 1, 2, 3, 4, 5, 6, 7] (lv' := [(7, .int (nI 0)), (6, .int 0), (5, .int 0), (4, .int 0), (3, .int (nI (a0 + cntS i 0))), (0, .ref m), (1, .ref ((x_v x).2.2 (20 + i))), (2, .int (nI (a0 + 0)))]) (by rw [nI_0]; rfl) ?_
  exact loop_5 (txLen.getD i 0) 0 _ 0 0 0 (by omega) Fm.refl 

theorem tx_facts : ∀ i, i < 2 → (nI (txLen.getD i 0) >>> ((0 : Int32) &&& 31) = nI (txLen.getD i 0) ∧ txLen.getD i 0 < 2 ^ 31) := by decide
set_option maxRecDepth 100000 in
theorem tx_cnt : ∀ i, i < 2 → ∀ k, k < txLen.getD i 0 → (chv i k = 32 → 74 * i + cntS i k < 148) := by decide +kernel

theorem dX12_readCodes_0 : decode cX12_readCodes 0 = .ok (.aload_n 0, 1) := by decide +kernel
theorem dX12_readCodes_1 : decode cX12_readCodes 1 = .ok (.ldc_w 505, 3) := by decide +kernel
theorem dX12_readCodes_4 : decode cX12_readCodes 4 = .ok (.iconst 0, 1) := by decide +kernel
theorem dX12_readCodes_5 : decode cX12_readCodes 5 = .ok (.invokevirtual 507, 3) := by decide +kernel
theorem dX12_readCodes_8 : decode cX12_readCodes 8 = .ok (.aload_n 0, 1) := by decide +kernel
theorem dX12_readCodes_9 : decode cX12_readCodes 9 = .ok (.ldc_w 511, 3) := by decide +kernel
theorem dX12_readCodes_12 : decode cX12_readCodes 12 = .ok (.bipush 74, 2) := by decide +kernel
theorem dX12_readCodes_14 : decode cX12_readCodes 14 = .ok (.invokevirtual 507, 3) := by decide +kernel
theorem dX12_readCodes_17 : decode cX12_readCodes 17 = .ok (.return_, 1) := by decide +kernel
set_option maxRecDepth 100000 in
set_option maxHeartbeats 4000000 in
theorem c_X12_readCodes (S : Hp) (m q1 q2 : Nat) (hm : m ∈ hL S) (hk : hK S m = 12) (r1 : hR S 1256 m = some q1) (r2 : hR S 1257 m = some q2) (m1 : q1 ∈ hL S) (k1 : Kd S q1 14) (l1 : Ln S q1 148) (m2 : q2 ∈ hL S) (k2 : Kd S q2 14) (l2 : Ln S q2 148) : Ct 6 yX12_readCodes cX12_readCodes 1 none 0 0 [.ref m] S (fun r S' => r = none ∧ Fm (fun _ _ => False) (fun _ _ => False) (fun b9 => b9 = q1 ∨ b9 = q2) S S') := by
  refine ct_of (by decide) (Nat.le_of_ble_eq_true rfl) fun x hn9 C M hm9 => ?_
  have C : CB x RX12 cX12_readCodes := C
  refine J.eq (lv' := [(0, .ref m)]) rfl rfl rfl ?_
  refine j_aload_n C dX12_readCodes_0 rfl 0 rfl ?_
  refine j_ldcwS (q := (x_v x).2.2 (20 + 0)) C (tx_ok C).2.2.1 dX12_readCodes_1 ?_
  refine j_iconst (v := 0) C dX12_readCodes_4 (by decide) ?_
  refine j_callVA (ci := 12) C [.ref ((x_v x).2.2 (20 + 0)), .int 0] [] mlX12_507 mcX12_readRow (c_X12_readRow (x_v x) S m q1 q2 0 0 hm hk r1 r2 m1 k1 l1 m2 k2 l2 (by decide) (tx_facts 0 (by decide)).1 (tx_facts 0 (by decide)).2 (tx_cnt 0 (by decide))) hm hk rfl (M.rm (by decide) (by decide) (Nat.le_of_ble_eq_true rfl) (Nat.le_of_ble_eq_true rfl)) rfl rfl (Nat.le_of_ble_eq_true rfl) dX12_readCodes_5 (fun r_1 S_2 hp_3 => ?_)
  obtain ⟨rfl, hf_4⟩ := hp_3
  refine J.eq (st' := []) rfl rfl rfl ?_
  have hm_5 : m ∈ hL S_2 := hf_4.mem hm
  have hk_6 : Kd S_2 m 12 := hf_4.kd hm hk
  have hm_7 : q1 ∈ hL S_2 := hf_4.mem m1
  have hk_8 : Kd S_2 q1 14 := hf_4.kd m1 k1
  have hn_9 : Ln S_2 q1 148 := hf_4.ln m1 l1
  have hm_10 : q2 ∈ hL S_2 := hf_4.mem m2
  have hk_11 : Kd S_2 q2 14 := hf_4.kd m2 k2
  have hn_12 : Ln S_2 q2 148 := hf_4.ln m2 l2
  have hv_13 : hR S_2 1256 m = (some q1) := hf_4.fr hm (fun h9 => h9) r1
  have hv_14 : hR S_2 1257 m = (some q2) := hf_4.fr hm (fun h9 => h9) r2
  have hf_15 : Fm (fun _ _ => False) (fun _ _ => False) (fun b9 => b9 = q1 ∨ b9 = q2) S S_2 := (Fm.refl (WI := (fun _ _ => False)) (WR := (fun _ _ => False)) (WA := (fun b9 => b9 = q1 ∨ b9 = q2))).then hf_4 (fun a9 ha9 => ⟨(fun f9 h9 => h9.elim), (fun f9 h9 => h9.elim), (fun h9 => (fun h9 => h9.elim (fun h8 => (Or.inl h8)) (fun h8 => (Or.inr h8))) h9)⟩)
  refine j_aload_n C dX12_readCodes_8 rfl 0 rfl ?_
  refine j_ldcwS (q := (x_v x).2.2 (20 + 1)) C (tx_ok C).2.2.2.1 dX12_readCodes_9 ?_
  refine j_bipush (v := 74) C dX12_readCodes_12 (by decide) ?_
  refine j_callVA (ci := 12) C [.ref ((x_v x).2.2 (20 + 1)), .int 74] [] mlX12_507 mcX12_readRow (c_X12_readRow (x_v x) S_2 m q1 q2 1 74 hm_5 hk_6 hv_13 hv_14 hm_7 hk_8 hn_9 hm_10 hk_11 hn_12 (by decide) (tx_facts 1 (by decide)).1 (tx_facts 1 (by decide)).2 (tx_cnt 1 (by decide))) hm_5 hk_6 rfl (M.rm (by decide) (by decide) (Nat.le_of_ble_eq_true rfl) (Nat.le_of_ble_eq_true rfl)) rfl rfl (Nat.le_of_ble_eq_true rfl) dX12_readCodes_14 (fun r_16 S_17 hp_18 => ?_)
  obtain ⟨rfl, hf_19⟩ := hp_18
  refine J.eq (st' := []) rfl rfl rfl ?_
  have hm_20 : m ∈ hL S_17 := hf_19.mem hm_5
  have hk_21 : Kd S_17 m 12 := hf_19.kd hm_5 hk_6
  have hm_22 : q1 ∈ hL S_17 := hf_19.mem hm_7
  have hk_23 : Kd S_17 q1 14 := hf_19.kd hm_7 hk_8
  have hn_24 : Ln S_17 q1 148 := hf_19.ln hm_7 hn_9
  have hm_25 : q2 ∈ hL S_17 := hf_19.mem hm_10
  have hk_26 : Kd S_17 q2 14 := hf_19.kd hm_10 hk_11
  have hn_27 : Ln S_17 q2 148 := hf_19.ln hm_10 hn_12
  have hv_28 : hR S_17 1256 m = (some q1) := hf_19.fr hm_5 (fun h9 => h9) hv_13
  have hv_29 : hR S_17 1257 m = (some q2) := hf_19.fr hm_5 (fun h9 => h9) hv_14
  have hf_30 : Fm (fun _ _ => False) (fun _ _ => False) (fun b9 => b9 = q1 ∨ b9 = q2) S S_17 := hf_15.then hf_19 (fun a9 ha9 => ⟨(fun f9 h9 => h9.elim), (fun f9 h9 => h9.elim), (fun h9 => (fun h9 => h9.elim (fun h8 => (Or.inl h8)) (fun h8 => (Or.inr h8))) h9)⟩)
  exact j_vret C M dX12_readCodes_17 (Nat.le_of_ble_eq_true rfl) (Nat.le_of_ble_eq_true rfl) ⟨rfl, hf_30⟩
