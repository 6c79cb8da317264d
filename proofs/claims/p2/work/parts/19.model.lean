/-- how many blanks stand ahead of place k of text i -/
def cntS (i : Nat) : Nat → Nat
  | 0 => 0
  | k + 1 => cntS i k + (if chv i k = 32 then 1 else 0)
theorem cntS_y {i k : Nat} (h : chv i k = 32) : cntS i (k + 1) = cntS i k + 1 := by
  show cntS i k + (if chv i k = 32 then 1 else 0) = _
  rw [if_pos h]
theorem cntS_n {i k : Nat} (h : ¬ chv i k = 32) : cntS i (k + 1) = cntS i k := by
  show cntS i k + (if chv i k = 32 then 1 else 0) = _
  rw [if_neg h]; rfl

theorem dX12_readRow_0 : decode cX12_readRow 0 = .ok (.iload_n 2, 1) := by decide +kernel
theorem dX12_readRow_1 : decode cX12_readRow 1 = .ok (.istore_n 3, 1) := by decide +kernel
theorem dX12_readRow_2 : decode cX12_readRow 2 = .ok (.iconst 0, 1) := by decide +kernel
theorem dX12_readRow_3 : decode cX12_readRow 3 = .ok (.istore 4, 2) := by decide +kernel
theorem dX12_readRow_5 : decode cX12_readRow 5 = .ok (.iconst 0, 1) := by decide +kernel
theorem dX12_readRow_6 : decode cX12_readRow 6 = .ok (.istore 5, 2) := by decide +kernel
theorem dX12_readRow_8 : decode cX12_readRow 8 = .ok (.iconst 0, 1) := by decide +kernel
theorem dX12_readRow_9 : decode cX12_readRow 9 = .ok (.istore 6, 2) := by decide +kernel
theorem dX12_readRow_11 : decode cX12_readRow 11 = .ok (.iconst 0, 1) := by decide +kernel
theorem dX12_readRow_12 : decode cX12_readRow 12 = .ok (.istore 7, 2) := by decide +kernel
theorem dX12_readRow_14 : decode cX12_readRow 14 = .ok (.iload 7, 2) := by decide +kernel
theorem dX12_readRow_16 : decode cX12_readRow 16 = .ok (.aload_n 1, 1) := by decide +kernel
theorem dX12_readRow_17 : decode cX12_readRow 17 = .ok (.invokevirtual 513, 3) := by decide +kernel
theorem dX12_readRow_20 : decode cX12_readRow 20 = .ok (.if_icmp .ge 120, 3) := by decide +kernel
theorem dX12_readRow_23 : decode cX12_readRow 23 = .ok (.aload_n 1, 1) := by decide +kernel
theorem dX12_readRow_24 : decode cX12_readRow 24 = .ok (.iload 7, 2) := by decide +kernel
theorem dX12_readRow_26 : decode cX12_readRow 26 = .ok (.invokevirtual 518, 3) := by decide +kernel
theorem dX12_readRow_29 : decode cX12_readRow 29 = .ok (.istore 8, 2) := by decide +kernel
theorem dX12_readRow_31 : decode cX12_readRow 31 = .ok (.iload 8, 2) := by decide +kernel
theorem dX12_readRow_33 : decode cX12_readRow 33 = .ok (.bipush 32, 2) := by decide +kernel
theorem dX12_readRow_35 : decode cX12_readRow 35 = .ok (.if_icmp .ne 34, 3) := by decide +kernel
theorem dX12_readRow_38 : decode cX12_readRow 38 = .ok (.aload_n 0, 1) := by decide +kernel
theorem dX12_readRow_39 : decode cX12_readRow 39 = .ok (.getfield 108, 3) := by decide +kernel
theorem dX12_readRow_42 : decode cX12_readRow 42 = .ok (.iload_n 3, 1) := by decide +kernel
theorem dX12_readRow_43 : decode cX12_readRow 43 = .ok (.iload 4, 2) := by decide +kernel
theorem dX12_readRow_45 : decode cX12_readRow 45 = .ok (.iastore, 1) := by decide +kernel
theorem dX12_readRow_46 : decode cX12_readRow 46 = .ok (.aload_n 0, 1) := by decide +kernel
theorem dX12_readRow_47 : decode cX12_readRow 47 = .ok (.getfield 111, 3) := by decide +kernel
theorem dX12_readRow_50 : decode cX12_readRow 50 = .ok (.iload_n 3, 1) := by decide +kernel
theorem dX12_readRow_51 : decode cX12_readRow 51 = .ok (.iload 5, 2) := by decide +kernel
theorem dX12_readRow_53 : decode cX12_readRow 53 = .ok (.iastore, 1) := by decide +kernel
theorem dX12_readRow_54 : decode cX12_readRow 54 = .ok (.iinc 3 1, 3) := by decide +kernel
theorem dX12_readRow_57 : decode cX12_readRow 57 = .ok (.iconst 0, 1) := by decide +kernel
theorem dX12_readRow_58 : decode cX12_readRow 58 = .ok (.istore 4, 2) := by decide +kernel
theorem dX12_readRow_60 : decode cX12_readRow 60 = .ok (.iconst 0, 1) := by decide +kernel
theorem dX12_readRow_61 : decode cX12_readRow 61 = .ok (.istore 5, 2) := by decide +kernel
theorem dX12_readRow_63 : decode cX12_readRow 63 = .ok (.iconst 0, 1) := by decide +kernel
theorem dX12_readRow_64 : decode cX12_readRow 64 = .ok (.istore 6, 2) := by decide +kernel
theorem dX12_readRow_66 : decode cX12_readRow 66 = .ok (.goto 68, 3) := by decide +kernel
theorem dX12_readRow_69 : decode cX12_readRow 69 = .ok (.iload 8, 2) := by decide +kernel
theorem dX12_readRow_71 : decode cX12_readRow 71 = .ok (.bipush 58, 2) := by decide +kernel
theorem dX12_readRow_73 : decode cX12_readRow 73 = .ok (.if_icmp .ne 9, 3) := by decide +kernel
theorem dX12_readRow_76 : decode cX12_readRow 76 = .ok (.iconst 1, 1) := by decide +kernel
theorem dX12_readRow_77 : decode cX12_readRow 77 = .ok (.istore 6, 2) := by decide +kernel
theorem dX12_readRow_79 : decode cX12_readRow 79 = .ok (.goto 55, 3) := by decide +kernel
theorem dX12_readRow_82 : decode cX12_readRow 82 = .ok (.iload 6, 2) := by decide +kernel
theorem dX12_readRow_84 : decode cX12_readRow 84 = .ok (.ifCond .eq 37, 3) := by decide +kernel
theorem dX12_readRow_87 : decode cX12_readRow 87 = .ok (.iload 5, 2) := by decide +kernel
theorem dX12_readRow_89 : decode cX12_readRow 89 = .ok (.bipush 16, 2) := by decide +kernel
theorem dX12_readRow_91 : decode cX12_readRow 91 = .ok (.imul, 1) := by decide +kernel
theorem dX12_readRow_92 : decode cX12_readRow 92 = .ok (.iload 8, 2) := by decide +kernel
theorem dX12_readRow_94 : decode cX12_readRow 94 = .ok (.bipush 57, 2) := by decide +kernel
theorem dX12_readRow_96 : decode cX12_readRow 96 = .ok (.if_icmp .gt 11, 3) := by decide +kernel
theorem dX12_readRow_99 : decode cX12_readRow 99 = .ok (.iload 8, 2) := by decide +kernel
theorem dX12_readRow_101 : decode cX12_readRow 101 = .ok (.bipush 48, 2) := by decide +kernel
theorem dX12_readRow_103 : decode cX12_readRow 103 = .ok (.isub, 1) := by decide +kernel
theorem dX12_readRow_104 : decode cX12_readRow 104 = .ok (.goto 11, 3) := by decide +kernel
theorem dX12_readRow_107 : decode cX12_readRow 107 = .ok (.iload 8, 2) := by decide +kernel
theorem dX12_readRow_109 : decode cX12_readRow 109 = .ok (.bipush 97, 2) := by decide +kernel
theorem dX12_readRow_111 : decode cX12_readRow 111 = .ok (.isub, 1) := by decide +kernel
theorem dX12_readRow_112 : decode cX12_readRow 112 = .ok (.bipush 10, 2) := by decide +kernel
theorem dX12_readRow_114 : decode cX12_readRow 114 = .ok (.iadd, 1) := by decide +kernel
theorem dX12_readRow_115 : decode cX12_readRow 115 = .ok (.iadd, 1) := by decide +kernel
theorem dX12_readRow_116 : decode cX12_readRow 116 = .ok (.istore 5, 2) := by decide +kernel
theorem dX12_readRow_118 : decode cX12_readRow 118 = .ok (.goto 16, 3) := by decide +kernel
theorem dX12_readRow_121 : decode cX12_readRow 121 = .ok (.iload 4, 2) := by decide +kernel
theorem dX12_readRow_123 : decode cX12_readRow 123 = .ok (.bipush 10, 2) := by decide +kernel
theorem dX12_readRow_125 : decode cX12_readRow 125 = .ok (.imul, 1) := by decide +kernel
theorem dX12_readRow_126 : decode cX12_readRow 126 = .ok (.iload 8, 2) := by decide +kernel
theorem dX12_readRow_128 : decode cX12_readRow 128 = .ok (.iadd, 1) := by decide +kernel
theorem dX12_readRow_129 : decode cX12_readRow 129 = .ok (.bipush 48, 2) := by decide +kernel
theorem dX12_readRow_131 : decode cX12_readRow 131 = .ok (.isub, 1) := by decide +kernel
theorem dX12_readRow_132 : decode cX12_readRow 132 = .ok (.istore 4, 2) := by decide +kernel
theorem dX12_readRow_134 : decode cX12_readRow 134 = .ok (.iinc 7 1, 3) := by decide +kernel
theorem dX12_readRow_137 : decode cX12_readRow 137 = .ok (.goto (-123), 3) := by decide +kernel
theorem dX12_readRow_140 : decode cX12_readRow 140 = .ok (.return_, 1) := by decide +kernel
set_option maxRecDepth 100000 in
set_option maxHeartbeats 4000000 in
theorem c_X12_readRow (v : EV) (S : Hp) (m q1 q2 i a0 : Nat) (hm : m ∈ hL S) (hk : hK S m = 12) (r1 : hR S 1256 m = some q1) (r2 : hR S 1257 m = some q2) (m1 : q1 ∈ hL S) (k1 : Kd S q1 14) (l1 : Ln S q1 148) (m2 : q2 ∈ hL S) (k2 : Kd S q2 14) (l2 : Ln S q2 148) (hi : i < 2) (hz9 : nI (txLen.getD i 0) >>> ((0 : Int32) &&& 31) = nI (txLen.getD i 0)) (hl9 : txLen.getD i 0 < 2 ^ 31) (hc : ∀ k, k < txLen.getD i 0 → chv i k = 32 → a0 + cntS i k < 148) : CtA v 5 yX12_readRow cX12_readRow 9 none 0 0 [.ref m, .ref (v.2.2 (20 + i)), .int (nI (a0 + 0))] S (fun r S' => r = none ∧ Fm (fun _ _ => False) (fun _ _ => False) (fun b9 => b9 = q1 ∨ b9 = q2) S S') := by
  refine ct_ofA (by decide) (Nat.le_of_ble_eq_true rfl) fun x hv9 hn9 C M hm9 => ?_
  subst hv9
  have C : CB x RX12 cX12_readRow := C
  refine J.eq (lv' := [(0, .ref m), (1, .ref ((x_v x).2.2 (20 + i))), (2, .int (nI (a0 + 0)))]) rfl rfl rfl ?_
  refine j_iload_n C dX12_readRow_0 rfl 2 rfl ?_
  refine j_istore_n (lv' := [(3, .int (nI (a0 + 0))), (0, .ref m), (1, .ref ((x_v x).2.2 (20 + i))), (2, .int (nI (a0 + 0)))]) C dX12_readRow_1 rfl (by rw [hn9]; decide) rfl ?_
  refine j_iconst (v := 0) C dX12_readRow_2 (by decide) ?_
  refine j_istore (lv' := [(4, .int 0), (3, .int (nI (a0 + 0))), (0, .ref m), (1, .ref ((x_v x).2.2 (20 + i))), (2, .int (nI (a0 + 0)))]) C dX12_readRow_3 (by rw [hn9]; decide) rfl ?_
  refine j_iconst (v := 0) C dX12_readRow_5 (by decide) ?_
  refine j_istore (lv' := [(5, .int 0), (4, .int 0), (3, .int (nI (a0 + 0))), (0, .ref m), (1, .ref ((x_v x).2.2 (20 + i))), (2, .int (nI (a0 + 0)))]) C dX12_readRow_6 (by rw [hn9]; decide) rfl ?_
  refine j_iconst (v := 0) C dX12_readRow_8 (by decide) ?_
  refine j_istore (lv' := [(6, .int 0), (5, .int 0), (4, .int 0), (3, .int (nI (a0 + 0))), (0, .ref m), (1, .ref ((x_v x).2.2 (20 + i))), (2, .int (nI (a0 + 0)))]) C dX12_readRow_9 (by rw [hn9]; decide) rfl ?_
  show J _ _ _ _ _ 11 _
  refine j_iconst (v := 0) C dX12_readRow_11 (by decide) ?_
  refine j_istore (lv' := [(7, .int 0), (6, .int 0), (5, .int 0), (4, .int 0), (3, .int (nI (a0 + 0))), (0, .ref m), (1, .ref ((x_v x).2.2 (20 + i))), (2, .int (nI (a0 + 0)))]) C dX12_readRow_12 (by rw [hn9]; decide) rfl ?_
  have loop_5 : ∀ (m9 k0 : Nat) (S_2 : Hp) (b4 : Int32) (b5 : Int32) (b6 : Int32), k0 + m9 = (txLen.getD i 0) → Fm (fun _ _ => False) (fun _ _ => False) (fun b9 => b9 = q1 ∨ b9 = q2) S S_2 → J x (0) (0) S_2 [(7, .int (nI k0)), (6, .int b6), (5, .int b5), (4, .int b4), (3, .int (nI (a0 + cntS i k0))), (0, .ref m), (1, .ref ((x_v x).2.2 (20 + i))), (2, .int (nI (a0 + 0)))] 14 [] := by
    intro m9
    induction m9 with
    | zero =>
      intro k0 S_2 b4 b5 b6 hi_6 hl_3 
      have hm_7 : m ∈ hL S_2 := hl_3.mem hm
      have hk_8 : Kd S_2 m 12 := hl_3.kd hm hk
      have hm_9 : q1 ∈ hL S_2 := hl_3.mem m1
      have hk_10 : Kd S_2 q1 14 := hl_3.kd m1 k1
      have hn_11 : Ln S_2 q1 148 := hl_3.ln m1 l1
      have hm_12 : q2 ∈ hL S_2 := hl_3.mem m2
      have hk_13 : Kd S_2 q2 14 := hl_3.kd m2 k2
      have hn_14 : Ln S_2 q2 148 := hl_3.ln m2 l2
      have hv_15 : hR S_2 1256 m = (some q1) := hl_3.fr hm (fun h9 => h9) r1
      have hv_16 : hR S_2 1257 m = (some q2) := hl_3.fr hm (fun h9 => h9) r2
      have hf_17 : Fm (fun _ _ => False) (fun _ _ => False) (fun b9 => b9 = q1 ∨ b9 = q2) S S_2 := (Fm.refl (WI := (fun _ _ => False)) (WR := (fun _ _ => False)) (WA := (fun b9 => b9 = q1 ∨ b9 = q2))).then hl_3 (fun a9 ha9 => ⟨(fun f9 h9 => h9.elim), (fun f9 h9 => h9.elim), (fun h9 => (fun h9 => h9.elim (fun h8 => (Or.inl h8)) (fun h8 => (Or.inr h8))) h9)⟩)
      refine j_iload C dX12_readRow_14 0 rfl ?_
      refine j_aload_n C dX12_readRow_16 rfl 6 rfl ?_
      refine j_callVX C [] [.int (nI k0)] mlX12_513 mcJ0_length_8abf5 (c_length (x_v x) S_2 i hi hz9) (st_recv C hi) (M.rm (by decide) (by decide) (Nat.le_of_ble_eq_true rfl) (Nat.le_of_ble_eq_true rfl)) rfl rfl (Nat.le_of_ble_eq_true rfl) dX12_readRow_17 (fun r_18 S_19 hp_20 => ?_)
      obtain ⟨rfl, e_21⟩ := hp_20
      refine J.eq (S' := S_2) (st' := [.int (nI (txLen.getD i 0)), .int (nI k0)]) e_21 rfl rfl ?_
      refine j_ic_ge (tgt := 140) C dX12_readRow_20 (by decide) (fun c_20 => ?_) (fun c_20 => absurd (nI_le (by omega) (by omega)) c_20)
      exact j_vret C M dX12_readRow_140 (Nat.le_of_ble_eq_true rfl) (Nat.le_of_ble_eq_true rfl) ⟨rfl, hf_17⟩
    | succ m9 ih_4 =>
      intro k0 S_2 b4 b5 b6 hi_6 hl_3 
      have hm_22 : m ∈ hL S_2 := hl_3.mem hm
      have hk_23 : Kd S_2 m 12 := hl_3.kd hm hk
      have hm_24 : q1 ∈ hL S_2 := hl_3.mem m1
      have hk_25 : Kd S_2 q1 14 := hl_3.kd m1 k1
      have hn_26 : Ln S_2 q1 148 := hl_3.ln m1 l1
      have hm_27 : q2 ∈ hL S_2 := hl_3.mem m2
      have hk_28 : Kd S_2 q2 14 := hl_3.kd m2 k2
      have hn_29 : Ln S_2 q2 148 := hl_3.ln m2 l2
      have hv_30 : hR S_2 1256 m = (some q1) := hl_3.fr hm (fun h9 => h9) r1
      have hv_31 : hR S_2 1257 m = (some q2) := hl_3.fr hm (fun h9 => h9) r2
      have hf_32 : Fm (fun _ _ => False) (fun _ _ => False) (fun b9 => b9 = q1 ∨ b9 = q2) S S_2 := (Fm.refl (WI := (fun _ _ => False)) (WR := (fun _ _ => False)) (WA := (fun b9 => b9 = q1 ∨ b9 = q2))).then hl_3 (fun a9 ha9 => ⟨(fun f9 h9 => h9.elim), (fun f9 h9 => h9.elim), (fun h9 => (fun h9 => h9.elim (fun h8 => (Or.inl h8)) (fun h8 => (Or.inr h8))) h9)⟩)
      refine j_iload C dX12_readRow_14 0 rfl ?_
      refine j_aload_n C dX12_readRow_16 rfl 6 rfl ?_
      refine j_callVX C [] [.int (nI k0)] mlX12_513 mcJ0_length_8abf5 (c_length (x_v x) S_2 i hi hz9) (st_recv C hi) (M.rm (by decide) (by decide) (Nat.le_of_ble_eq_true rfl) (Nat.le_of_ble_eq_true rfl)) rfl rfl (Nat.le_of_ble_eq_true rfl) dX12_readRow_17 (fun r_33 S_34 hp_35 => ?_)
      obtain ⟨rfl, e_36⟩ := hp_35
      refine J.eq (S' := S_2) (st' := [.int (nI (txLen.getD i 0)), .int (nI k0)]) e_36 rfl rfl ?_
      refine j_ic_ge (tgt := 140) C dX12_readRow_20 (by decide) (fun c_20 => absurd c_20 (nI_ge (by omega) (by omega))) (fun c_20 => ?_)
      show J _ _ _ _ _ 23 _
      refine j_aload_n C dX12_readRow_23 rfl 6 rfl ?_
      refine j_iload C dX12_readRow_24 0 rfl ?_
      refine j_callVX C [.int (nI k0)] [] mlX12_518 mcJ0_charAt_5068e (c_charAt (x_v x) S_2 i k0 hi (by omega) hl9) (st_recv C hi) (M.rm (by decide) (by decide) (Nat.le_of_ble_eq_true rfl) (Nat.le_of_ble_eq_true rfl)) rfl rfl (Nat.le_of_ble_eq_true rfl) dX12_readRow_26 (fun r_37 S_38 hp_39 => ?_)
      obtain ⟨rfl, e_40⟩ := hp_39
      refine J.eq (S' := S_2) (st' := [.int (chv i k0)]) e_40 rfl rfl ?_
      refine j_istore (lv' := [(8, .int (chv i k0)), (7, .int (nI k0)), (6, .int b6), (5, .int b5), (4, .int b4), (3, .int (nI (a0 + cntS i k0))), (0, .ref m), (1, .ref ((x_v x).2.2 (20 + i))), (2, .int (nI (a0 + 0)))]) C dX12_readRow_29 (by rw [hn9]; decide) rfl ?_
      refine j_iload C dX12_readRow_31 0 rfl ?_
      refine j_bipush (v := 32) C dX12_readRow_33 (by decide) ?_
      refine j_ic_ne (tgt := 69) C dX12_readRow_35 (by decide) (fun c_35 => ?_) (fun c_35 => ?_)
      · skip
        have hc9 := cntS_n c_35
        refine J.eq (lv' := [(8, .int (chv i k0)), (7, .int (nI k0)), (6, .int b6), (5, .int b5), (4, .int b4), (3, .int (nI (a0 + cntS i (k0 + 1)))), (0, .ref m), (1, .ref ((x_v x).2.2 (20 + i))), (2, .int (nI (a0 + 0)))]) rfl (by rw [hc9]) rfl ?_
        refine j_iload C dX12_readRow_69 0 rfl ?_
        refine j_bipush (v := 58) C dX12_readRow_71 (by decide) ?_
        show J _ _ _ _ _ 73 _
        refine j_ic_ne (tgt := 82) C dX12_readRow_73 (by decide) (fun c_73 => ?_) (fun c_73 => ?_)
        · skip
          refine j_iload C dX12_readRow_82 2 rfl ?_
          refine j_if_eq (tgt := 121) C dX12_readRow_84 (by decide) (fun c_84 => ?_) (fun c_84 => ?_)
          · skip
            refine j_iload C dX12_readRow_121 4 rfl ?_
            refine j_bipush (v := 10) C dX12_readRow_123 (by decide) ?_
            refine j_imul C dX12_readRow_125 rfl ?_
            refine j_iload C dX12_readRow_126 0 rfl ?_
            refine j_iadd C dX12_readRow_128 rfl ?_
            refine j_bipush (v := 48) C dX12_readRow_129 (by decide) ?_
            refine j_isub C dX12_readRow_131 rfl ?_
            show J _ _ _ _ _ 132 _
            refine j_istore (lv' := [(4, .int (((b4 * 10) + (chv i k0)) - 48)), (8, .int (chv i k0)), (7, .int (nI k0)), (6, .int b6), (5, .int b5), (3, .int (nI (a0 + cntS i (k0 + 1)))), (0, .ref m), (1, .ref ((x_v x).2.2 (20 + i))), (2, .int (nI (a0 + 0)))]) C dX12_readRow_132 (by rw [hn9]; decide) rfl ?_
            refine j_iinc (q := 2) (v := nI (k0 + 1)) (lv' := [(7, .int (nI (k0 + 1))), (4, .int (((b4 * 10) + (chv i k0)) - 48)), (8, .int (chv i k0)), (6, .int b6), (5, .int b5), (3, .int (nI (a0 + cntS i (k0 + 1)))), (0, .ref m), (1, .ref ((x_v x).2.2 (20 + i))), (2, .int (nI (a0 + 0)))]) C dX12_readRow_134 rfl (by rw [show Int32.ofInt 1 = 1 by decide]; exact nI_add k0 1) (by rw [hn9]; decide) rfl ?_
            refine j_goto (tgt := 14) C dX12_readRow_137 (by decide) ?_
            refine J.sub [0, 3, 4, 1, 5, 6, 7, 8] (lv' := [(7, .int (nI (k0 + 1))), (6, .int b6), (5, .int b5), (4, .int (((b4 * 10) + (chv i k0)) - 48)), (3, .int (nI (a0 + cntS i (k0 + 1)))), (0, .ref m), (1, .ref ((x_v x).2.2 (20 + i))), (2, .int (nI (a0 + 0)))]) (by rfl) ?_
            exact ih_4 (k0 + 1) _ (((b4 * 10) + (chv i k0)) - 48) b5 b6 (by omega) hf_32 
          · skip
            refine j_iload C dX12_readRow_87 3 rfl ?_
            refine j_bipush (v := 16) C dX12_readRow_89 (by decide) ?_
            refine j_imul C dX12_readRow_91 rfl ?_
            refine j_iload C dX12_readRow_92 0 rfl ?_
            refine j_bipush (v := 57) C dX12_readRow_94 (by decide) ?_
            show J _ _ _ _ _ 96 _
            refine j_ic_gt (tgt := 107) C dX12_readRow_96 (by decide) (fun c_96 => ?_) (fun c_96 => ?_)
            · skip
              refine j_iload C dX12_readRow_107 0 rfl ?_
              refine j_bipush (v := 97) C dX12_readRow_109 (by decide) ?_
              refine j_isub C dX12_readRow_111 rfl ?_
              refine j_bipush (v := 10) C dX12_readRow_112 (by decide) ?_
              refine j_iadd C dX12_readRow_114 rfl ?_
              refine j_iadd C dX12_readRow_115 rfl ?_
              refine j_istore (lv' := [(5, .int ((b5 * 16) + (((chv i k0) - 97) + 10))), (8, .int (chv i k0)), (7, .int (nI k0)), (6, .int b6), (4, .int b4), (3, .int (nI (a0 + cntS i (k0 + 1)))), (0, .ref m), (1, .ref ((x_v x).2.2 (20 + i))), (2, .int (nI (a0 + 0)))]) C dX12_readRow_116 (by rw [hn9]; decide) rfl ?_
              refine j_goto (tgt := 134) C dX12_readRow_118 (by decide) ?_
              show J _ _ _ _ _ 134 _
              refine j_iinc (q := 2) (v := nI (k0 + 1)) (lv' := [(7, .int (nI (k0 + 1))), (5, .int ((b5 * 16) + (((chv i k0) - 97) + 10))), (8, .int (chv i k0)), (6, .int b6), (4, .int b4), (3, .int (nI (a0 + cntS i (k0 + 1)))), (0, .ref m), (1, .ref ((x_v x).2.2 (20 + i))), (2, .int (nI (a0 + 0)))]) C dX12_readRow_134 rfl (by rw [show Int32.ofInt 1 = 1 by decide]; exact nI_add k0 1) (by rw [hn9]; decide) rfl ?_
              refine j_goto (tgt := 14) C dX12_readRow_137 (by decide) ?_
              refine J.sub [0, 3, 1, 4, 5, 6, 7, 8] (lv' := [(7, .int (nI (k0 + 1))), (6, .int b6), (5, .int ((b5 * 16) + (((chv i k0) - 97) + 10))), (4, .int b4), (3, .int (nI (a0 + cntS i (k0 + 1)))), (0, .ref m), (1, .ref ((x_v x).2.2 (20 + i))), (2, .int (nI (a0 + 0)))]) (by rfl) ?_
              exact ih_4 (k0 + 1) _ b4 ((b5 * 16) + (((chv i k0) - 97) + 10)) b6 (by omega) hf_32 
            · skip
              refine j_iload C dX12_readRow_99 0 rfl ?_
              refine j_bipush (v := 48) C dX12_readRow_101 (by decide) ?_
              refine j_isub C dX12_readRow_103 rfl ?_
              refine j_goto (tgt := 115) C dX12_readRow_104 (by decide) ?_
              refine j_iadd C dX12_readRow_115 rfl ?_
              refine j_istore (lv' := [(5, .int ((b5 * 16) + ((chv i k0) - 48))), (8, .int (chv i k0)), (7, .int (nI k0)), (6, .int b6), (4, .int b4), (3, .int (nI (a0 + cntS i (k0 + 1)))), (0, .ref m), (1, .ref ((x_v x).2.2 (20 + i))), (2, .int (nI (a0 + 0)))]) C dX12_readRow_116 (by rw [hn9]; decide) rfl ?_
              show J _ _ _ _ _ 118 _
              refine j_goto (tgt := 134) C dX12_readRow_118 (by decide) ?_
              refine j_iinc (q := 2) (v := nI (k0 + 1)) (lv' := [(7, .int (nI (k0 + 1))), (5, .int ((b5 * 16) + ((chv i k0) - 48))), (8, .int (chv i k0)), (6, .int b6), (4, .int b4), (3, .int (nI (a0 + cntS i (k0 + 1)))), (0, .ref m), (1, .ref ((x_v x).2.2 (20 + i))), (2, .int (nI (a0 + 0)))]) C dX12_readRow_134 rfl (by rw [show Int32.ofInt 1 = 1 by decide]; exact nI_add k0 1) (by rw [hn9]; decide) rfl ?_
              refine j_goto (tgt := 14) C dX12_readRow_137 (by decide) ?_
              refine J.sub [0, 3, 1, 4, 5, 6, 7, 8] (lv' := [(7, .int (nI (k0 + 1))), (6, .int b6), (5, .int ((b5 * 16) + ((chv i k0) - 48))), (4, .int b4), (3, .int (nI (a0 + cntS i (k0 + 1)))), (0, .ref m), (1, .ref ((x_v x).2.2 (20 + i))), (2, .int (nI (a0 + 0)))]) (by rfl) ?_
              exact ih_4 (k0 + 1) _ b4 ((b5 * 16) + ((chv i k0) - 48)) b6 (by omega) hf_32 
        · skip
          refine j_iconst (v := 1) C dX12_readRow_76 (by decide) ?_
          refine j_istore (lv' := [(6, .int 1), (8, .int (chv i k0)), (7, .int (nI k0)), (5, .int b5), (4, .int b4), (3, .int (nI (a0 + cntS i (k0 + 1)))), (0, .ref m), (1, .ref ((x_v x).2.2 (20 + i))), (2, .int (nI (a0 + 0)))]) C dX12_readRow_77 (by rw [hn9]; decide) rfl ?_
          refine j_goto (tgt := 134) C dX12_readRow_79 (by decide) ?_
          refine j_iinc (q := 2) (v := nI (k0 + 1)) (lv' := [(7, .int (nI (k0 + 1))), (6, .int 1), (8, .int (chv i k0)), (5, .int b5), (4, .int b4), (3, .int (nI (a0 + cntS i (k0 + 1)))), (0, .ref m), (1, .ref ((x_v x).2.2 (20 + i))), (2, .int (nI (a0 + 0)))]) C dX12_readRow_134 rfl (by rw [show Int32.ofInt 1 = 1 by decide]; exact nI_add k0 1) (by rw [hn9]; decide) rfl ?_
          refine j_goto (tgt := 14) C dX12_readRow_137 (by decide) ?_
          show J _ _ _ _ _ 14 _
          refine J.sub [0, 1, 3, 4, 5, 6, 7, 8] (lv' := [(7, .int (nI (k0 + 1))), (6, .int 1), (5, .int b5), (4, .int b4), (3, .int (nI (a0 + cntS i (k0 + 1)))), (0, .ref m), (1, .ref ((x_v x).2.2 (20 + i))), (2, .int (nI (a0 + 0)))]) (by rfl) ?_
          exact ih_4 (k0 + 1) _ b4 b5 1 (by omega) hf_32 
      · skip
        have hb9 := hc k0 (by omega) c_35
        refine j_aload_n C dX12_readRow_38 rfl 6 rfl ?_
        refine j_getr (f := 1256) (v := q1) C flX12_108 dX12_readRow_39 hm_22 hk_23 (by decide) rfl hv_30 ?_
        refine j_iload_n C dX12_readRow_42 rfl 5 rfl ?_
        refine j_iload C dX12_readRow_43 4 rfl ?_
        refine j_iast (j := (a0 + cntS i k0)) C dX12_readRow_45 hm_24 hk_25 (inr_of (n := 148) hn_26 (vp_in_nI (by omega) (by omega))) (nI_clamp (by omega)) ?_
        refine j_aload_n C dX12_readRow_46 rfl 6 rfl ?_
        refine j_getr (f := 1257) (v := q2) C flX12_111 dX12_readRow_47 hm_22 hk_23 (by decide) rfl hv_31 ?_
        refine j_iload_n C dX12_readRow_50 rfl 5 rfl ?_
        show J _ _ _ _ _ 51 _
        refine j_iload C dX12_readRow_51 3 rfl ?_
        refine j_iast (j := (a0 + cntS i k0)) C dX12_readRow_53 hm_27 hk_28 (inr_of (n := 148) hn_29 (vp_in_nI (by omega) (by omega))) (nI_clamp (by omega)) ?_
        refine j_iinc (q := 5) (v := nI (a0 + cntS i (k0 + 1))) (lv' := [(3, .int (nI (a0 + cntS i (k0 + 1)))), (8, .int (chv i k0)), (7, .int (nI k0)), (6, .int b6), (5, .int b5), (4, .int b4), (0, .ref m), (1, .ref ((x_v x).2.2 (20 + i))), (2, .int (nI (a0 + 0)))]) C dX12_readRow_54 rfl (by rw [show Int32.ofInt 1 = 1 by decide, cntS_y c_35]; exact nI_add _ 1) (by rw [hn9]; decide) rfl ?_
        refine j_iconst (v := 0) C dX12_readRow_57 (by decide) ?_
        refine j_istore (lv' := [(4, .int 0), (3, .int (nI (a0 + cntS i (k0 + 1)))), (8, .int (chv i k0)), (7, .int (nI k0)), (6, .int b6), (5, .int b5), (0, .ref m), (1, .ref ((x_v x).2.2 (20 + i))), (2, .int (nI (a0 + 0)))]) C dX12_readRow_58 (by rw [hn9]; decide) rfl ?_
        refine j_iconst (v := 0) C dX12_readRow_60 (by decide) ?_
        refine j_istore (lv' := [(5, .int 0), (4, .int 0), (3, .int (nI (a0 + cntS i (k0 + 1)))), (8, .int (chv i k0)), (7, .int (nI k0)), (6, .int b6), (0, .ref m), (1, .ref ((x_v x).2.2 (20 + i))), (2, .int (nI (a0 + 0)))]) C dX12_readRow_61 (by rw [hn9]; decide) rfl ?_
        refine j_iconst (v := 0) C dX12_readRow_63 (by decide) ?_
        show J _ _ _ _ _ 64 _
        refine j_istore (lv' := [(6, .int 0), (5, .int 0), (4, .int 0), (3, .int (nI (a0 + cntS i (k0 + 1)))), (8, .int (chv i k0)), (7, .int (nI k0)), (0, .ref m), (1, .ref ((x_v x).2.2 (20 + i))), (2, .int (nI (a0 + 0)))]) C dX12_readRow_64 (by rw [hn9]; decide) rfl ?_
        refine j_goto (tgt := 134) C dX12_readRow_66 (by decide) ?_
        refine j_iinc (q := 5) (v := nI (k0 + 1)) (lv' := [(7, .int (nI (k0 + 1))), (6, .int 0), (5, .int 0), (4, .int 0), (3, .int (nI (a0 + cntS i (k0 + 1)))), (8, .int (chv i k0)), (0, .ref m), (1, .ref ((x_v x).2.2 (20 + i))), (2, .int (nI (a0 + 0)))]) C dX12_readRow_134 rfl (by rw [show Int32.ofInt 1 = 1 by decide]; exact nI_add k0 1) (by rw [hn9]; decide) rfl ?_
        refine j_goto (tgt := 14) C dX12_readRow_137 (by decide) ?_
        refine J.sub [0, 1, 2, 3, 4, 6, 7, 8] (lv' := [(7, .int (nI (k0 + 1))), (6, .int 0), (5, .int 0), (4, .int 0), (3, .int (nI (a0 + cntS i (k0 + 1)))), (0, .ref m), (1, .ref ((x_v x).2.2 (20 + i))), (2, .int (nI (a0 + 0)))]) (by rfl) ?_
        exact ih_4 (k0 + 1) _ 0 0 0 (by omega) ((hf_32.tI _ _ (fun _ => (Or.inl rfl))).tI _ _ (fun _ => (Or.inr rfl))) 
  refine J.sub [0, 1, 2, 3, 4, 5, 6, 7] (lv' := [(7, .int (nI 0)), (6, .int 0), (5, .int 0), (4, .int 0), (3, .int (nI (a0 + cntS i 0))), (0, .ref m), (1, .ref ((x_v x).2.2 (20 + i))), (2, .int (nI (a0 + 0)))]) (by rw [nI_0]; rfl) ?_
  exact loop_5 (txLen.getD i 0) 0 _ 0 0 0 (by omega) Fm.refl 

theorem tx_facts : ∀ i, i < 2 → (nI (txLen.getD i 0) >>> ((0 : Int32) &&& 31) = nI (txLen.getD i 0) ∧ txLen.getD i 0 < 2 ^ 31) := by decide
set_option maxRecDepth 100000 in
theorem tx_cnt : ∀ i, i < 2 → ∀ k, k < txLen.getD i 0 → (chv i k = 32 → 74 * i + cntS i k < 148) := by decide +kernel

theorem dX12_readCodes_0 : decode cX12_readCodes 0 = .ok (.aload_n 0, 1) := by decide +kernel
theorem dX12_readCodes_1 : decode cX12_readCodes 1 = .ok (.ldc_w 505, 3) := by decide +kernel
theorem dX12_readCodes_4 : decode cX12_readCodes 4 = .ok (.iconst 0, 1) := by decide +kernel
theorem dX12_readCodes_5 : decode cX12_readCodes 5 = .ok (.invokevirtual 507, 3) := by decide +kernel
theorem dX12_readCodes_8 : decode cX12_readCodes 8 = .ok (.aload_n 0, 1) := by decide +kernel
theorem dX12_readCodes_9 : decode cX12_readCodes 9 = .ok (.ldc_w 511, 3) := by decide +kernel
theorem dX12_readCodes_12 : decode cX12_readCodes 12 = .ok (.bipush 74, 2) := by decide +kernel
theorem dX12_readCodes_14 : decode cX12_readCodes 14 = .ok (.invokevirtual 507, 3) := by decide +kernel
theorem dX12_readCodes_17 : decode cX12_readCodes 17 = .ok (.return_, 1) := by decide +kernel
set_option maxRecDepth 100000 in
set_option maxHeartbeats 4000000 in
theorem c_X12_readCodes (S : Hp) (m q1 q2 : Nat) (hm : m ∈ hL S) (hk : hK S m = 12) (r1 : hR S 1256 m = some q1) (r2 : hR S 1257 m = some q2) (m1 : q1 ∈ hL S) (k1 : Kd S q1 14) (l1 : Ln S q1 148) (m2 : q2 ∈ hL S) (k2 : Kd S q2 14) (l2 : Ln S q2 148) : Ct 6 yX12_readCodes cX12_readCodes 1 none 0 0 [.ref m] S (fun r S' => r = none ∧ Fm (fun _ _ => False) (fun _ _ => False) (fun b9 => b9 = q1 ∨ b9 = q2) S S') := by
  refine ct_of (by decide) (Nat.le_of_ble_eq_true rfl) fun x hn9 C M hm9 => ?_
  have C : CB x RX12 cX12_readCodes := C
  refine J.eq (lv' := [(0, .ref m)]) rfl rfl rfl ?_
  refine j_aload_n C dX12_readCodes_0 rfl 0 rfl ?_
  refine j_ldcwS (q := (x_v x).2.2 (20 + 0)) C (tx_ok C).2.2.1 dX12_readCodes_1 ?_
  refine j_iconst (v := 0) C dX12_readCodes_4 (by decide) ?_
  refine j_callVA (ci := 12) C [.ref ((x_v x).2.2 (20 + 0)), .int 0] [] mlX12_507 mcX12_readRow (c_X12_readRow (x_v x) S m q1 q2 0 0 hm hk r1 r2 m1 k1 l1 m2 k2 l2 (by decide) (tx_facts 0 (by decide)).1 (tx_facts 0 (by decide)).2 (tx_cnt 0 (by decide))) hm hk rfl (M.rm (by decide) (by decide) (Nat.le_of_ble_eq_true rfl) (Nat.le_of_ble_eq_true rfl)) rfl rfl (Nat.le_of_ble_eq_true rfl) dX12_readCodes_5 (fun r_1 S_2 hp_3 => ?_)
  obtain ⟨rfl, hf_4⟩ := hp_3
  refine J.eq (st' := []) rfl rfl rfl ?_
  have hm_5 : m ∈ hL S_2 := hf_4.mem hm
  have hk_6 : Kd S_2 m 12 := hf_4.kd hm hk
  have hm_7 : q1 ∈ hL S_2 := hf_4.mem m1
  have hk_8 : Kd S_2 q1 14 := hf_4.kd m1 k1
  have hn_9 : Ln S_2 q1 148 := hf_4.ln m1 l1
  have hm_10 : q2 ∈ hL S_2 := hf_4.mem m2
  have hk_11 : Kd S_2 q2 14 := hf_4.kd m2 k2
  have hn_12 : Ln S_2 q2 148 := hf_4.ln m2 l2
  have hv_13 : hR S_2 1256 m = (some q1) := hf_4.fr hm (fun h9 => h9) r1
  have hv_14 : hR S_2 1257 m = (some q2) := hf_4.fr hm (fun h9 => h9) r2
  have hf_15 : Fm (fun _ _ => False) (fun _ _ => False) (fun b9 => b9 = q1 ∨ b9 = q2) S S_2 := (Fm.refl (WI := (fun _ _ => False)) (WR := (fun _ _ => False)) (WA := (fun b9 => b9 = q1 ∨ b9 = q2))).then hf_4 (fun a9 ha9 => ⟨(fun f9 h9 => h9.elim), (fun f9 h9 => h9.elim), (fun h9 => (fun h9 => h9.elim (fun h8 => (Or.inl h8)) (fun h8 => (Or.inr h8))) h9)⟩)
  refine j_aload_n C dX12_readCodes_8 rfl 0 rfl ?_
  refine j_ldcwS (q := (x_v x).2.2 (20 + 1)) C (tx_ok C).2.2.2.1 dX12_readCodes_9 ?_
  refine j_bipush (v := 74) C dX12_readCodes_12 (by decide) ?_
  refine j_callVA (ci := 12) C [.ref ((x_v x).2.2 (20 + 1)), .int 74] [] mlX12_507 mcX12_readRow (c_X12_readRow (x_v x) S_2 m q1 q2 1 74 hm_5 hk_6 hv_13 hv_14 hm_7 hk_8 hn_9 hm_10 hk_11 hn_12 (by decide) (tx_facts 1 (by decide)).1 (tx_facts 1 (by decide)).2 (tx_cnt 1 (by decide))) hm_5 hk_6 rfl (M.rm (by decide) (by decide) (Nat.le_of_ble_eq_true rfl) (Nat.le_of_ble_eq_true rfl)) rfl rfl (Nat.le_of_ble_eq_true rfl) dX12_readCodes_14 (fun r_16 S_17 hp_18 => ?_)
  obtain ⟨rfl, hf_19⟩ := hp_18
  refine J.eq (st' := []) rfl rfl rfl ?_
  have hm_20 : m ∈ hL S_17 := hf_19.mem hm_5
  have hk_21 : Kd S_17 m 12 := hf_19.kd hm_5 hk_6
  have hm_22 : q1 ∈ hL S_17 := hf_19.mem hm_7
  have hk_23 : Kd S_17 q1 14 := hf_19.kd hm_7 hk_8
  have hn_24 : Ln S_17 q1 148 := hf_19.ln hm_7 hn_9
  have hm_25 : q2 ∈ hL S_17 := hf_19.mem hm_10
  have hk_26 : Kd S_17 q2 14 := hf_19.kd hm_10 hk_11
  have hn_27 : Ln S_17 q2 148 := hf_19.ln hm_10 hn_12
  have hv_28 : hR S_17 1256 m = (some q1) := hf_19.fr hm_5 (fun h9 => h9) hv_13
  have hv_29 : hR S_17 1257 m = (some q2) := hf_19.fr hm_5 (fun h9 => h9) hv_14
  have hf_30 : Fm (fun _ _ => False) (fun _ _ => False) (fun b9 => b9 = q1 ∨ b9 = q2) S S_17 := hf_15.then hf_19 (fun a9 ha9 => ⟨(fun f9 h9 => h9.elim), (fun f9 h9 => h9.elim), (fun h9 => (fun h9 => h9.elim (fun h8 => (Or.inl h8)) (fun h8 => (Or.inr h8))) h9)⟩)
  exact j_vret C M dX12_readCodes_17 (Nat.le_of_ble_eq_true rfl) (Nat.le_of_ble_eq_true rfl) ⟨rfl, hf_30⟩

/-- from S, by new arrays (address, kind, length, field of h), comes S' -/
def Ini (h : Nat) : Hp → List (Nat × Nat × Nat × Nat) → Hp → Prop
  | S, [], S' => S' = S
  | S, e :: l, S' => e.1 ∉ hL S ∧ Ini h (sR (nA S e.1 e.2.1 e.2.2.1) e.2.2.2 h (some e.1)) l S'
theorem Ini_nil {h : Nat} {S : Hp} : Ini h S [] S := rfl
theorem Ini_cons {h q k n f : Nat} {S S1 S' : Hp} {l : List (Nat × Nat × Nat × Nat)} (hq : q ∉ hL S) (e : S1 = sR (nA S q k n) f h (some q)) (hi : Ini h S1 l S') : Ini h S ((q, k, n, f) :: l) S' := ⟨hq, by subst e; exact hi⟩
theorem Ini_all {h : Nat} : ∀ (l : List (Nat × Nat × Nat × Nat)) (S S' : Hp) (fs : List Nat), h ∈ hL S → Ini h S l S' → l.map (fun e => e.2.2.2) = fs → fs.Nodup → Fm (fun _ _ => False) (fun f9 b9 => b9 = h ∧ f9 ∈ fs) (fun _ => False) S S' ∧ ∀ e, e ∈ l → e.1 ∉ hL S ∧ e.1 ∈ hL S' ∧ Kd S' e.1 e.2.1 ∧ Ln S' e.1 e.2.2.1 ∧ hR S' e.2.2.2 h = some e.1 ∧ ∀ j, aI S' e.1 j = 0
  | [], S, S', fs, _, hi, _, _ => by
    cases hi
    exact ⟨Fm.refl, fun e he => absurd he List.not_mem_nil⟩
  | e :: l, S, S', fs, hm, hi, hf, hn => by
    obtain ⟨hq, hi⟩ := hi
    cases fs with
    | nil => cases hf
    | cons f0 fs =>
    injection hf with hf0 hf
    obtain ⟨hnf, hn⟩ := List.nodup_cons.mp hn
    generalize hS1 : sR (nA S e.1 e.2.1 e.2.2.1) e.2.2.2 h (some e.1) = S1 at hi
    have hm1 : h ∈ hL S1 := by rw [← hS1]; exact mem_old hm
    obtain ⟨h1, h2⟩ := Ini_all l S1 S' fs hm1 hi hf hn
    have hF1 : Fm (fun _ _ => False) (fun f9 b9 => b9 = h ∧ f9 ∈ f0 :: fs) (fun _ => False) S S1 := by
      rw [← hS1]
      exact (Fm.refl.nA _ _ hq).sR _ (fun _ => ⟨rfl, by rw [← hf0]; exact List.mem_cons_self⟩)
    have g1 : e.1 ∈ hL S1 := by rw [← hS1]; exact mem_new
    have g2 : hK S1 e.1 = e.2.1 := by rw [← hS1]; exact kd_nA' (k := e.2.1) (n := e.2.2.1)
    have g3 : hN S1 e.1 = e.2.2.1 := by rw [← hS1]; exact ln_nA' (k := e.2.1)
    have g4 : hR S1 e.2.2.2 h = some e.1 := by rw [← hS1]; exact rd_sR
    have g5 : ∀ j, aI S1 e.1 j = 0 := by rw [← hS1]; exact fun j => rd_nAI' (k := e.2.1) (n := e.2.2.1)
    refine ⟨hF1.then h1 (fun a _ => ⟨fun f h9 => h9.elim, fun f h9 => ⟨h9.1, List.mem_cons_of_mem _ h9.2⟩, fun h9 => h9.elim⟩), fun e' he' => ?_⟩
    rcases List.mem_cons.mp he' with rfl | he'
    · refine ⟨hq, h1.mem g1, h1.kd g1 g2, h1.ln g1 g3, h1.fr hm1 (fun h9 => ?_) g4, fun j => (h1.ai g1 (fun h9 => h9) j).trans (g5 j)⟩
      exact hnf (by rw [← hf0]; exact h9.2)
    · obtain ⟨a1, a2⟩ := h2 e' he'
      exact ⟨fun h9 => a1 (hF1.mem h9), a2⟩

theorem Ini_nin {h : Nat} : ∀ (l : List (Nat × Nat × Nat × Nat)) (S S' : Hp), Ini h S l S' → ∀ (j : Nat) (y : Nat × Nat × Nat × Nat), l[j]? = some y → y.1 ∉ hL S
  | [], S, S', _, j, y, hy => by simp at hy
  | e :: l, S, S', hi, j, y, hy => by
    obtain ⟨hq, hi⟩ := hi
    cases j with
    | zero =>
      cases (show e = y by simpa using hy)
      exact hq
    | succ j =>
      have hy : l[j]? = some y := by simpa using hy
      exact fun h9 => Ini_nin l _ S' hi j y hy (mem_old h9)
theorem Ini_ne {h : Nat} : ∀ (l : List (Nat × Nat × Nat × Nat)) (S S' : Hp), Ini h S l S' → ∀ (i j : Nat) (x y : Nat × Nat × Nat × Nat), i < j → l[i]? = some x → l[j]? = some y → x.1 ≠ y.1
  | [], S, S', _, i, j, x, y, _, hx, _ => by simp at hx
  | e :: l, S, S', hi, i, j, x, y, hij, hx, hy => by
    obtain ⟨hq, hi⟩ := hi
    cases j with
    | zero => omega
    | succ j =>
    cases i with
    | succ i => exact Ini_ne l _ S' hi i j x y (by omega) (by simpa using hx) (by simpa using hy)
    | zero =>
      cases (show e = x by simpa using hx)
      have hy : l[j]? = some y := by simpa using hy
      exact ne_of_nin (Ini_nin l _ S' hi j y hy) mem_new

theorem Ini_NL {h : Nat} : ∀ (l : List (Nat × Nat × Nat × Nat)) (S S' : Hp), Ini h S l S' → (∀ a, a ∈ hL S → a ∈ hL S') ∧ NL S (l.map (fun e => e.1)) S'
  | [], S, S', hi => by
    cases hi
    exact ⟨fun a ha => ha, NL.nil⟩
  | e :: l, S, S', hi => by
    obtain ⟨hq, hi⟩ := hi
    obtain ⟨h1, h2⟩ := Ini_NL l _ S' hi
    have hm : ∀ a, a ∈ hL S → a ∈ hL (sR (nA S e.1 e.2.1 e.2.2.1) e.2.2.2 h (some e.1)) := fun a ha => mem_old ha
    have hn : e.1 ∈ hL (sR (nA S e.1 e.2.1 e.2.2.1) e.2.2.2 h (some e.1)) := mem_new
    refine ⟨fun a ha => h1 a (hm a ha), List.Pairwise.cons (fun b hb e9 => (h2.2 b hb).1 (e9 ▸ hn)) h2.1, fun q hq9 => ?_⟩
    rcases List.mem_cons.mp hq9 with rfl | hq9
    · exact ⟨hq, h1 _ hn⟩
    · exact ⟨fun z => (h2.2 q hq9).1 (hm q z), (h2.2 q hq9).2⟩
def sMK : List Nat := [12, 14, 14, 17, 17, 14, 14, 17, 14, 14, 17, 17, 14, 14, 14, 17, 17, 14, 13, 13, 14, 14, 13, 13, 13, 13, 14, 14, 13, 14, 14, 17, 14, 14, 14, 14, 14, 14, 15, 15, 15]
def sMN : List (Nat × Nat) := [(1, 192), (2, 960), (3, 17), (4, 17), (5, 119), (6, 4096), (7, 400), (8, 2000), (9, 12800), (10, 16), (11, 16), (12, 16), (13, 16), (14, 256), (15, 16), (16, 16), (17, 16), (18, 24000), (19, 12000), (20, 7), (21, 6), (22, 8000), (23, 6000), (24, 64000), (25, 768000), (26, 12), (27, 12), (28, 60008), (29, 12), (30, 20), (31, 17), (32, 148), (33, 148), (34, 640), (35, 640), (36, 12), (37, 400), (38, 400), (39, 40), (40, 40)]
def sMP : List (Nat × Nat × Nat) := [(1200, 0, 1), (1201, 0, 2), (1202, 0, 3), (1203, 0, 4), (1204, 0, 5), (1205, 0, 6), (1206, 0, 7), (1207, 0, 8), (1208, 0, 9), (1210, 0, 10), (1211, 0, 11), (1212, 0, 12), (1213, 0, 13), (1214, 0, 14), (1215, 0, 15), (1216, 0, 16), (1217, 0, 17), (1218, 0, 18), (1219, 0, 19), (1220, 0, 20), (1221, 0, 21), (1223, 0, 22), (1225, 0, 23), (1234, 0, 24), (1237, 0, 25), (1238, 0, 26), (1239, 0, 27), (1241, 0, 28), (1246, 0, 29), (1248, 0, 30), (1250, 0, 31), (1256, 0, 32), (1257, 0, 33), (1258, 0, 34), (1259, 0, 35), (1270, 0, 36), (1272, 0, 37), (1273, 0, 38), (1274, 0, 39), (1275, 0, 40)]

theorem dX12_init_0 : decode cX12_init 0 = .ok (.aload_n 0, 1) := by decide +kernel
theorem dX12_init_1 : decode cX12_init 1 = .ok (.invokespecial 1, 3) := by decide +kernel
theorem dX12_init_4 : decode cX12_init 4 = .ok (.aload_n 0, 1) := by decide +kernel
theorem dX12_init_5 : decode cX12_init 5 = .ok (.sipush 192, 3) := by decide +kernel
theorem dX12_init_8 : decode cX12_init 8 = .ok (.newarray .int, 2) := by decide +kernel
theorem dX12_init_10 : decode cX12_init 10 = .ok (.putfield 9, 3) := by decide +kernel
theorem dX12_init_13 : decode cX12_init 13 = .ok (.aload_n 0, 1) := by decide +kernel
theorem dX12_init_14 : decode cX12_init 14 = .ok (.sipush 960, 3) := by decide +kernel
theorem dX12_init_17 : decode cX12_init 17 = .ok (.newarray .int, 2) := by decide +kernel
theorem dX12_init_19 : decode cX12_init 19 = .ok (.putfield 13, 3) := by decide +kernel
theorem dX12_init_22 : decode cX12_init 22 = .ok (.aload_n 0, 1) := by decide +kernel
theorem dX12_init_23 : decode cX12_init 23 = .ok (.bipush 17, 2) := by decide +kernel
theorem dX12_init_25 : decode cX12_init 25 = .ok (.newarray .boolean, 2) := by decide +kernel
theorem dX12_init_27 : decode cX12_init 27 = .ok (.putfield 16, 3) := by decide +kernel
theorem dX12_init_30 : decode cX12_init 30 = .ok (.aload_n 0, 1) := by decide +kernel
theorem dX12_init_31 : decode cX12_init 31 = .ok (.bipush 17, 2) := by decide +kernel
theorem dX12_init_33 : decode cX12_init 33 = .ok (.newarray .boolean, 2) := by decide +kernel
theorem dX12_init_35 : decode cX12_init 35 = .ok (.putfield 20, 3) := by decide +kernel
theorem dX12_init_38 : decode cX12_init 38 = .ok (.aload_n 0, 1) := by decide +kernel
theorem dX12_init_39 : decode cX12_init 39 = .ok (.bipush 119, 2) := by decide +kernel
theorem dX12_init_41 : decode cX12_init 41 = .ok (.newarray .int, 2) := by decide +kernel
theorem dX12_init_43 : decode cX12_init 43 = .ok (.putfield 23, 3) := by decide +kernel
theorem dX12_init_46 : decode cX12_init 46 = .ok (.aload_n 0, 1) := by decide +kernel
theorem dX12_init_47 : decode cX12_init 47 = .ok (.sipush 4096, 3) := by decide +kernel
theorem dX12_init_50 : decode cX12_init 50 = .ok (.newarray .int, 2) := by decide +kernel
theorem dX12_init_52 : decode cX12_init 52 = .ok (.putfield 26, 3) := by decide +kernel
theorem dX12_init_55 : decode cX12_init 55 = .ok (.aload_n 0, 1) := by decide +kernel
theorem dX12_init_56 : decode cX12_init 56 = .ok (.sipush 400, 3) := by decide +kernel
theorem dX12_init_59 : decode cX12_init 59 = .ok (.newarray .boolean, 2) := by decide +kernel
theorem dX12_init_61 : decode cX12_init 61 = .ok (.putfield 29, 3) := by decide +kernel
theorem dX12_init_64 : decode cX12_init 64 = .ok (.aload_n 0, 1) := by decide +kernel
theorem dX12_init_65 : decode cX12_init 65 = .ok (.sipush 2000, 3) := by decide +kernel
theorem dX12_init_68 : decode cX12_init 68 = .ok (.newarray .int, 2) := by decide +kernel
theorem dX12_init_70 : decode cX12_init 70 = .ok (.putfield 32, 3) := by decide +kernel
theorem dX12_init_73 : decode cX12_init 73 = .ok (.aload_n 0, 1) := by decide +kernel
theorem dX12_init_74 : decode cX12_init 74 = .ok (.sipush 12800, 3) := by decide +kernel
theorem dX12_init_77 : decode cX12_init 77 = .ok (.newarray .int, 2) := by decide +kernel
theorem dX12_init_79 : decode cX12_init 79 = .ok (.putfield 35, 3) := by decide +kernel
theorem dX12_init_82 : decode cX12_init 82 = .ok (.aload_n 0, 1) := by decide +kernel
theorem dX12_init_83 : decode cX12_init 83 = .ok (.bipush 16, 2) := by decide +kernel
theorem dX12_init_85 : decode cX12_init 85 = .ok (.newarray .boolean, 2) := by decide +kernel
theorem dX12_init_87 : decode cX12_init 87 = .ok (.putfield 38, 3) := by decide +kernel
theorem dX12_init_90 : decode cX12_init 90 = .ok (.aload_n 0, 1) := by decide +kernel
theorem dX12_init_91 : decode cX12_init 91 = .ok (.bipush 16, 2) := by decide +kernel
theorem dX12_init_93 : decode cX12_init 93 = .ok (.newarray .boolean, 2) := by decide +kernel
theorem dX12_init_95 : decode cX12_init 95 = .ok (.putfield 41, 3) := by decide +kernel
theorem dX12_init_98 : decode cX12_init 98 = .ok (.aload_n 0, 1) := by decide +kernel
theorem dX12_init_99 : decode cX12_init 99 = .ok (.bipush 16, 2) := by decide +kernel
theorem dX12_init_101 : decode cX12_init 101 = .ok (.newarray .int, 2) := by decide +kernel
theorem dX12_init_103 : decode cX12_init 103 = .ok (.putfield 44, 3) := by decide +kernel
theorem dX12_init_106 : decode cX12_init 106 = .ok (.aload_n 0, 1) := by decide +kernel
theorem dX12_init_107 : decode cX12_init 107 = .ok (.bipush 16, 2) := by decide +kernel
theorem dX12_init_109 : decode cX12_init 109 = .ok (.newarray .int, 2) := by decide +kernel
theorem dX12_init_111 : decode cX12_init 111 = .ok (.putfield 47, 3) := by decide +kernel
theorem dX12_init_114 : decode cX12_init 114 = .ok (.aload_n 0, 1) := by decide +kernel
theorem dX12_init_115 : decode cX12_init 115 = .ok (.sipush 256, 3) := by decide +kernel
theorem dX12_init_118 : decode cX12_init 118 = .ok (.newarray .int, 2) := by decide +kernel
theorem dX12_init_120 : decode cX12_init 120 = .ok (.putfield 50, 3) := by decide +kernel
theorem dX12_init_123 : decode cX12_init 123 = .ok (.aload_n 0, 1) := by decide +kernel
theorem dX12_init_124 : decode cX12_init 124 = .ok (.bipush 16, 2) := by decide +kernel
theorem dX12_init_126 : decode cX12_init 126 = .ok (.newarray .boolean, 2) := by decide +kernel
theorem dX12_init_128 : decode cX12_init 128 = .ok (.putfield 53, 3) := by decide +kernel
theorem dX12_init_131 : decode cX12_init 131 = .ok (.aload_n 0, 1) := by decide +kernel
theorem dX12_init_132 : decode cX12_init 132 = .ok (.bipush 16, 2) := by decide +kernel
theorem dX12_init_134 : decode cX12_init 134 = .ok (.newarray .boolean, 2) := by decide +kernel
theorem dX12_init_136 : decode cX12_init 136 = .ok (.putfield 56, 3) := by decide +kernel
theorem dX12_init_139 : decode cX12_init 139 = .ok (.aload_n 0, 1) := by decide +kernel
theorem dX12_init_140 : decode cX12_init 140 = .ok (.bipush 16, 2) := by decide +kernel
theorem dX12_init_142 : decode cX12_init 142 = .ok (.newarray .int, 2) := by decide +kernel
theorem dX12_init_144 : decode cX12_init 144 = .ok (.putfield 59, 3) := by decide +kernel
theorem dX12_init_147 : decode cX12_init 147 = .ok (.aload_n 0, 1) := by decide +kernel
theorem dX12_init_148 : decode cX12_init 148 = .ok (.sipush 24000, 3) := by decide +kernel
theorem dX12_init_151 : decode cX12_init 151 = .ok (.newarray .byte, 2) := by decide +kernel
theorem dX12_init_153 : decode cX12_init 153 = .ok (.putfield 62, 3) := by decide +kernel
theorem dX12_init_156 : decode cX12_init 156 = .ok (.aload_n 0, 1) := by decide +kernel
theorem dX12_init_157 : decode cX12_init 157 = .ok (.sipush 12000, 3) := by decide +kernel
theorem dX12_init_160 : decode cX12_init 160 = .ok (.newarray .byte, 2) := by decide +kernel
theorem dX12_init_162 : decode cX12_init 162 = .ok (.putfield 66, 3) := by decide +kernel
theorem dX12_init_165 : decode cX12_init 165 = .ok (.aload_n 0, 1) := by decide +kernel
theorem dX12_init_166 : decode cX12_init 166 = .ok (.bipush 7, 2) := by decide +kernel
theorem dX12_init_168 : decode cX12_init 168 = .ok (.newarray .int, 2) := by decide +kernel
theorem dX12_init_170 : decode cX12_init 170 = .ok (.putfield 69, 3) := by decide +kernel
theorem dX12_init_173 : decode cX12_init 173 = .ok (.aload_n 0, 1) := by decide +kernel
theorem dX12_init_174 : decode cX12_init 174 = .ok (.bipush 6, 2) := by decide +kernel
theorem dX12_init_176 : decode cX12_init 176 = .ok (.newarray .int, 2) := by decide +kernel
theorem dX12_init_178 : decode cX12_init 178 = .ok (.putfield 72, 3) := by decide +kernel
theorem dX12_init_181 : decode cX12_init 181 = .ok (.aload_n 0, 1) := by decide +kernel
theorem dX12_init_182 : decode cX12_init 182 = .ok (.sipush 8000, 3) := by decide +kernel
theorem dX12_init_185 : decode cX12_init 185 = .ok (.newarray .byte, 2) := by decide +kernel
theorem dX12_init_187 : decode cX12_init 187 = .ok (.putfield 75, 3) := by decide +kernel
theorem dX12_init_190 : decode cX12_init 190 = .ok (.aload_n 0, 1) := by decide +kernel
theorem dX12_init_191 : decode cX12_init 191 = .ok (.sipush 6000, 3) := by decide +kernel
theorem dX12_init_194 : decode cX12_init 194 = .ok (.newarray .byte, 2) := by decide +kernel
theorem dX12_init_196 : decode cX12_init 196 = .ok (.putfield 78, 3) := by decide +kernel
theorem dX12_init_199 : decode cX12_init 199 = .ok (.aload_n 0, 1) := by decide +kernel
theorem dX12_init_200 : decode cX12_init 200 = .ok (.ldc 81, 2) := by decide +kernel
theorem dX12_init_202 : decode cX12_init 202 = .ok (.newarray .byte, 2) := by decide +kernel
theorem dX12_init_204 : decode cX12_init 204 = .ok (.putfield 82, 3) := by decide +kernel
theorem dX12_init_207 : decode cX12_init 207 = .ok (.aload_n 0, 1) := by decide +kernel
theorem dX12_init_208 : decode cX12_init 208 = .ok (.ldc 85, 2) := by decide +kernel
theorem dX12_init_210 : decode cX12_init 210 = .ok (.newarray .byte, 2) := by decide +kernel
theorem dX12_init_212 : decode cX12_init 212 = .ok (.putfield 86, 3) := by decide +kernel
theorem dX12_init_215 : decode cX12_init 215 = .ok (.aload_n 0, 1) := by decide +kernel
theorem dX12_init_216 : decode cX12_init 216 = .ok (.bipush 12, 2) := by decide +kernel
theorem dX12_init_218 : decode cX12_init 218 = .ok (.newarray .int, 2) := by decide +kernel
theorem dX12_init_220 : decode cX12_init 220 = .ok (.putfield 89, 3) := by decide +kernel
theorem dX12_init_223 : decode cX12_init 223 = .ok (.aload_n 0, 1) := by decide +kernel
theorem dX12_init_224 : decode cX12_init 224 = .ok (.bipush 12, 2) := by decide +kernel
theorem dX12_init_226 : decode cX12_init 226 = .ok (.newarray .int, 2) := by decide +kernel
theorem dX12_init_228 : decode cX12_init 228 = .ok (.putfield 92, 3) := by decide +kernel
theorem dX12_init_231 : decode cX12_init 231 = .ok (.aload_n 0, 1) := by decide +kernel
theorem dX12_init_232 : decode cX12_init 232 = .ok (.ldc 95, 2) := by decide +kernel
theorem dX12_init_234 : decode cX12_init 234 = .ok (.newarray .byte, 2) := by decide +kernel
theorem dX12_init_236 : decode cX12_init 236 = .ok (.putfield 96, 3) := by decide +kernel
theorem dX12_init_239 : decode cX12_init 239 = .ok (.aload_n 0, 1) := by decide +kernel
theorem dX12_init_240 : decode cX12_init 240 = .ok (.bipush 12, 2) := by decide +kernel
theorem dX12_init_242 : decode cX12_init 242 = .ok (.newarray .int, 2) := by decide +kernel
theorem dX12_init_244 : decode cX12_init 244 = .ok (.putfield 99, 3) := by decide +kernel
theorem dX12_init_247 : decode cX12_init 247 = .ok (.aload_n 0, 1) := by decide +kernel
theorem dX12_init_248 : decode cX12_init 248 = .ok (.bipush 20, 2) := by decide +kernel
theorem dX12_init_250 : decode cX12_init 250 = .ok (.newarray .int, 2) := by decide +kernel
theorem dX12_init_252 : decode cX12_init 252 = .ok (.putfield 102, 3) := by decide +kernel
theorem dX12_init_255 : decode cX12_init 255 = .ok (.aload_n 0, 1) := by decide +kernel
theorem dX12_init_256 : decode cX12_init 256 = .ok (.bipush 17, 2) := by decide +kernel
theorem dX12_init_258 : decode cX12_init 258 = .ok (.newarray .boolean, 2) := by decide +kernel
theorem dX12_init_260 : decode cX12_init 260 = .ok (.putfield 105, 3) := by decide +kernel
theorem dX12_init_263 : decode cX12_init 263 = .ok (.aload_n 0, 1) := by decide +kernel
theorem dX12_init_264 : decode cX12_init 264 = .ok (.sipush 148, 3) := by decide +kernel
theorem dX12_init_267 : decode cX12_init 267 = .ok (.newarray .int, 2) := by decide +kernel
theorem dX12_init_269 : decode cX12_init 269 = .ok (.putfield 108, 3) := by decide +kernel
theorem dX12_init_272 : decode cX12_init 272 = .ok (.aload_n 0, 1) := by decide +kernel
theorem dX12_init_273 : decode cX12_init 273 = .ok (.sipush 148, 3) := by decide +kernel
theorem dX12_init_276 : decode cX12_init 276 = .ok (.newarray .int, 2) := by decide +kernel
theorem dX12_init_278 : decode cX12_init 278 = .ok (.putfield 111, 3) := by decide +kernel
theorem dX12_init_281 : decode cX12_init 281 = .ok (.aload_n 0, 1) := by decide +kernel
theorem dX12_init_282 : decode cX12_init 282 = .ok (.sipush 640, 3) := by decide +kernel
theorem dX12_init_285 : decode cX12_init 285 = .ok (.newarray .int, 2) := by decide +kernel
theorem dX12_init_287 : decode cX12_init 287 = .ok (.putfield 114, 3) := by decide +kernel
theorem dX12_init_290 : decode cX12_init 290 = .ok (.aload_n 0, 1) := by decide +kernel
theorem dX12_init_291 : decode cX12_init 291 = .ok (.sipush 640, 3) := by decide +kernel
theorem dX12_init_294 : decode cX12_init 294 = .ok (.newarray .int, 2) := by decide +kernel
theorem dX12_init_296 : decode cX12_init 296 = .ok (.putfield 117, 3) := by decide +kernel
theorem dX12_init_299 : decode cX12_init 299 = .ok (.aload_n 0, 1) := by decide +kernel
theorem dX12_init_300 : decode cX12_init 300 = .ok (.bipush 12, 2) := by decide +kernel
theorem dX12_init_302 : decode cX12_init 302 = .ok (.newarray .int, 2) := by decide +kernel
theorem dX12_init_304 : decode cX12_init 304 = .ok (.putfield 120, 3) := by decide +kernel
theorem dX12_init_307 : decode cX12_init 307 = .ok (.aload_n 0, 1) := by decide +kernel
theorem dX12_init_308 : decode cX12_init 308 = .ok (.sipush 400, 3) := by decide +kernel
theorem dX12_init_311 : decode cX12_init 311 = .ok (.newarray .int, 2) := by decide +kernel
theorem dX12_init_313 : decode cX12_init 313 = .ok (.putfield 123, 3) := by decide +kernel
theorem dX12_init_316 : decode cX12_init 316 = .ok (.aload_n 0, 1) := by decide +kernel
theorem dX12_init_317 : decode cX12_init 317 = .ok (.sipush 400, 3) := by decide +kernel
theorem dX12_init_320 : decode cX12_init 320 = .ok (.newarray .long, 2) := by decide +kernel
theorem dX12_init_322 : decode cX12_init 322 = .ok (.putfield 126, 3) := by decide +kernel
theorem dX12_init_325 : decode cX12_init 325 = .ok (.aload_n 0, 1) := by decide +kernel
theorem dX12_init_326 : decode cX12_init 326 = .ok (.bipush 40, 2) := by decide +kernel
theorem dX12_init_328 : decode cX12_init 328 = .ok (.newarray .long, 2) := by decide +kernel
theorem dX12_init_330 : decode cX12_init 330 = .ok (.putfield 130, 3) := by decide +kernel
theorem dX12_init_333 : decode cX12_init 333 = .ok (.aload_n 0, 1) := by decide +kernel
theorem dX12_init_334 : decode cX12_init 334 = .ok (.bipush 40, 2) := by decide +kernel
theorem dX12_init_336 : decode cX12_init 336 = .ok (.newarray .long, 2) := by decide +kernel
theorem dX12_init_338 : decode cX12_init 338 = .ok (.putfield 133, 3) := by decide +kernel
theorem dX12_init_341 : decode cX12_init 341 = .ok (.iconst 0, 1) := by decide +kernel
theorem dX12_init_342 : decode cX12_init 342 = .ok (.istore_n 1, 1) := by decide +kernel
theorem dX12_init_343 : decode cX12_init 343 = .ok (.iload_n 1, 1) := by decide +kernel
theorem dX12_init_344 : decode cX12_init 344 = .ok (.sipush 4096, 3) := by decide +kernel
theorem dX12_init_347 : decode cX12_init 347 = .ok (.if_icmp .ge 16, 3) := by decide +kernel
theorem dX12_init_350 : decode cX12_init 350 = .ok (.aload_n 0, 1) := by decide +kernel
theorem dX12_init_351 : decode cX12_init 351 = .ok (.getfield 26, 3) := by decide +kernel
theorem dX12_init_354 : decode cX12_init 354 = .ok (.iload_n 1, 1) := by decide +kernel
theorem dX12_init_355 : decode cX12_init 355 = .ok (.iconst (-1), 1) := by decide +kernel
theorem dX12_init_356 : decode cX12_init 356 = .ok (.iastore, 1) := by decide +kernel
theorem dX12_init_357 : decode cX12_init 357 = .ok (.iinc 1 1, 3) := by decide +kernel
theorem dX12_init_360 : decode cX12_init 360 = .ok (.goto (-17), 3) := by decide +kernel
theorem dX12_init_363 : decode cX12_init 363 = .ok (.aload_n 0, 1) := by decide +kernel
theorem dX12_init_364 : decode cX12_init 364 = .ok (.getfield 16, 3) := by decide +kernel
theorem dX12_init_367 : decode cX12_init 367 = .ok (.bipush 16, 2) := by decide +kernel
theorem dX12_init_369 : decode cX12_init 369 = .ok (.iconst 1, 1) := by decide +kernel
theorem dX12_init_370 : decode cX12_init 370 = .ok (.bastore, 1) := by decide +kernel
theorem dX12_init_371 : decode cX12_init 371 = .ok (.aload_n 0, 1) := by decide +kernel
theorem dX12_init_372 : decode cX12_init 372 = .ok (.getfield 23, 3) := by decide +kernel
theorem dX12_init_375 : decode cX12_init 375 = .ok (.bipush 113, 2) := by decide +kernel
theorem dX12_init_377 : decode cX12_init 377 = .ok (.sipush 720, 3) := by decide +kernel
theorem dX12_init_380 : decode cX12_init 380 = .ok (.iastore, 1) := by decide +kernel
theorem dX12_init_381 : decode cX12_init 381 = .ok (.aload_n 0, 1) := by decide +kernel
theorem dX12_init_382 : decode cX12_init 382 = .ok (.getfield 23, 3) := by decide +kernel
theorem dX12_init_385 : decode cX12_init 385 = .ok (.bipush 114, 2) := by decide +kernel
theorem dX12_init_387 : decode cX12_init 387 = .ok (.bipush 8, 2) := by decide +kernel
theorem dX12_init_389 : decode cX12_init 389 = .ok (.iastore, 1) := by decide +kernel
theorem dX12_init_390 : decode cX12_init 390 = .ok (.aload_n 0, 1) := by decide +kernel
theorem dX12_init_391 : decode cX12_init 391 = .ok (.iconst (-1), 1) := by decide +kernel
theorem dX12_init_392 : decode cX12_init 392 = .ok (.putfield 136, 3) := by decide +kernel
theorem dX12_init_395 : decode cX12_init 395 = .ok (.aload_n 0, 1) := by decide +kernel
theorem dX12_init_396 : decode cX12_init 396 = .ok (.iconst (-1), 1) := by decide +kernel
theorem dX12_init_397 : decode cX12_init 397 = .ok (.putfield 140, 3) := by decide +kernel
theorem dX12_init_400 : decode cX12_init 400 = .ok (.aload_n 0, 1) := by decide +kernel
theorem dX12_init_401 : decode cX12_init 401 = .ok (.invokevirtual 143, 3) := by decide +kernel
theorem dX12_init_404 : decode cX12_init 404 = .ok (.return_, 1) := by decide +kernel

set_option maxRecDepth 100000 in
set_option maxHeartbeats 4000000 in
theorem c_X12_init (S : Hp) (h : Nat) (hm : h ∈ hL S) (hk : hK S h = 12) : Ct 7 yX12_init cX12_init 2 none 40 965531 [.ref h] S (fun r S' => r = none ∧ Fm (fun f9 b9 => (f9 = 1244 ∧ b9 = h) ∨ (f9 = 1245 ∧ b9 = h)) (fun f9 b9 => b9 = h) (fun _ => False) S S' ∧ hI S' 1244 h = (-1) ∧ hI S' 1245 h = (-1) ∧ ∃ l : List Nat, Wt sMK sMN sMP [] (fun i => (h :: l).getD i 0) S' ∧ l.length = 40 ∧ NL S l S' ∧ (∀ j, aI S' ((h :: l).getD 20 0) j = 0) ∧ (∀ j, aI S' ((h :: l).getD 10 0) j = 0) ∧ (∀ j, aI S' ((h :: l).getD 15 0) j = 0)) := by
  refine ct_of (by decide) (Nat.le_of_ble_eq_true rfl) fun x hn9 C M hm9 => ?_
  have C : CB x RX12 cX12_init := C
  refine J.eq (lv' := [(0, .ref h)]) rfl rfl rfl ?_
  refine j_aload_n C dX12_init_0 rfl 0 rfl ?_
  refine j_objInit C mlX12_1 nst_oi (M.fl (by decide)) dX12_init_1 ?_
  refine j_aload_n C dX12_init_4 rfl 0 rfl ?_
  refine j_sipush (v := 192) C dX12_init_5 (by decide) ?_
  refine j_newI (N := 192) C ka_int (by decide) (by decide) (Nat.le_of_ble_eq_true rfl) (M.cells (by decide)) (M.slots (Nat.le_of_ble_eq_true rfl)) dX12_init_8 (fun q_1 hq_2 => ?_)
  refine j_putrF (f := 1200) C hm9 flX12_9o (by decide) rfl rfl dX12_init_10 (mem_old hm) (kd_nA (k := 14) (n := 192) hq_2 hm hk) rfl ?_
  obtain ⟨S_3, eS_4⟩ : ∃ S9 : Hp, S9 = (sR (nA S q_1 14 192) 1200 h (some q_1)) := ⟨_, rfl⟩
  refine J.eq (S' := S_3) eS_4.symm rfl rfl ?_
  have hm_5 : h ∈ hL S_3 := by rw [eS_4]; exact (mem_old hm)
  have hk_6 : Kd S_3 h 12 := by rw [eS_4]; exact (kd_nA (k := 14) (n := 192) hq_2 hm hk)
  show J _ _ _ _ _ 13 _
  refine j_aload_n C dX12_init_13 rfl 0 rfl ?_
  refine j_sipush (v := 960) C dX12_init_14 (by decide) ?_
  refine j_newI (N := 960) C ka_int (by decide) (by decide) (Nat.le_of_ble_eq_true rfl) (M.cells (by decide)) (M.slots (Nat.le_of_ble_eq_true rfl)) dX12_init_17 (fun q_7 hq_8 => ?_)
  refine j_putrF (f := 1201) C hm9 flX12_13o (by decide) rfl rfl dX12_init_19 (mem_old hm_5) (kd_nA (k := 14) (n := 960) hq_8 hm_5 hk_6) rfl ?_
  obtain ⟨S_9, eS_10⟩ : ∃ S9 : Hp, S9 = (sR (nA S_3 q_7 14 960) 1201 h (some q_7)) := ⟨_, rfl⟩
  refine J.eq (S' := S_9) eS_10.symm rfl rfl ?_
  have hm_11 : h ∈ hL S_9 := by rw [eS_10]; exact (mem_old hm_5)
  have hk_12 : Kd S_9 h 12 := by rw [eS_10]; exact (kd_nA (k := 14) (n := 960) hq_8 hm_5 hk_6)
  show J _ _ _ _ _ 22 _
  refine j_aload_n C dX12_init_22 rfl 0 rfl ?_
  refine j_bipush (v := 17) C dX12_init_23 (by decide) ?_
  refine j_newZ (N := 17) C ka_boolean (by decide) (by decide) (Nat.le_of_ble_eq_true rfl) (M.cells (by decide)) (M.slots (Nat.le_of_ble_eq_true rfl)) dX12_init_25 (fun q_13 hq_14 => ?_)
  refine j_putrF (f := 1202) C hm9 flX12_16o (by decide) rfl rfl dX12_init_27 (mem_old hm_11) (kd_nA (k := 17) (n := 17) hq_14 hm_11 hk_12) rfl ?_
  obtain ⟨S_15, eS_16⟩ : ∃ S9 : Hp, S9 = (sR (nA S_9 q_13 17 17) 1202 h (some q_13)) := ⟨_, rfl⟩
  refine J.eq (S' := S_15) eS_16.symm rfl rfl ?_
  have hm_17 : h ∈ hL S_15 := by rw [eS_16]; exact (mem_old hm_11)
  have hk_18 : Kd S_15 h 12 := by rw [eS_16]; exact (kd_nA (k := 17) (n := 17) hq_14 hm_11 hk_12)
  show J _ _ _ _ _ 30 _
  refine j_aload_n C dX12_init_30 rfl 0 rfl ?_
  refine j_bipush (v := 17) C dX12_init_31 (by decide) ?_
  refine j_newZ (N := 17) C ka_boolean (by decide) (by decide) (Nat.le_of_ble_eq_true rfl) (M.cells (by decide)) (M.slots (Nat.le_of_ble_eq_true rfl)) dX12_init_33 (fun q_19 hq_20 => ?_)
  refine j_putrF (f := 1203) C hm9 flX12_20o (by decide) rfl rfl dX12_init_35 (mem_old hm_17) (kd_nA (k := 17) (n := 17) hq_20 hm_17 hk_18) rfl ?_
  obtain ⟨S_21, eS_22⟩ : ∃ S9 : Hp, S9 = (sR (nA S_15 q_19 17 17) 1203 h (some q_19)) := ⟨_, rfl⟩
  refine J.eq (S' := S_21) eS_22.symm rfl rfl ?_
  have hm_23 : h ∈ hL S_21 := by rw [eS_22]; exact (mem_old hm_17)
  have hk_24 : Kd S_21 h 12 := by rw [eS_22]; exact (kd_nA (k := 17) (n := 17) hq_20 hm_17 hk_18)
  show J _ _ _ _ _ 38 _
  refine j_aload_n C dX12_init_38 rfl 0 rfl ?_
  refine j_bipush (v := 119) C dX12_init_39 (by decide) ?_
  refine j_newI (N := 119) C ka_int (by decide) (by decide) (Nat.le_of_ble_eq_true rfl) (M.cells (by decide)) (M.slots (Nat.le_of_ble_eq_true rfl)) dX12_init_41 (fun q_25 hq_26 => ?_)
  refine j_putrF (f := 1204) C hm9 flX12_23o (by decide) rfl rfl dX12_init_43 (mem_old hm_23) (kd_nA (k := 14) (n := 119) hq_26 hm_23 hk_24) rfl ?_
  obtain ⟨S_27, eS_28⟩ : ∃ S9 : Hp, S9 = (sR (nA S_21 q_25 14 119) 1204 h (some q_25)) := ⟨_, rfl⟩
  refine J.eq (S' := S_27) eS_28.symm rfl rfl ?_
  have hm_29 : h ∈ hL S_27 := by rw [eS_28]; exact (mem_old hm_23)
  have hk_30 : Kd S_27 h 12 := by rw [eS_28]; exact (kd_nA (k := 14) (n := 119) hq_26 hm_23 hk_24)
  show J _ _ _ _ _ 46 _
  refine j_aload_n C dX12_init_46 rfl 0 rfl ?_
  refine j_sipush (v := 4096) C dX12_init_47 (by decide) ?_
  refine j_newI (N := 4096) C ka_int (by decide) (by decide) (Nat.le_of_ble_eq_true rfl) (M.cells (by decide)) (M.slots (Nat.le_of_ble_eq_true rfl)) dX12_init_50 (fun q_31 hq_32 => ?_)
  refine j_putrF (f := 1205) C hm9 flX12_26o (by decide) rfl rfl dX12_init_52 (mem_old hm_29) (kd_nA (k := 14) (n := 4096) hq_32 hm_29 hk_30) rfl ?_
  obtain ⟨S_33, eS_34⟩ : ∃ S9 : Hp, S9 = (sR (nA S_27 q_31 14 4096) 1205 h (some q_31)) := ⟨_, rfl⟩
  refine J.eq (S' := S_33) eS_34.symm rfl rfl ?_
  have hm_35 : h ∈ hL S_33 := by rw [eS_34]; exact (mem_old hm_29)
  have hk_36 : Kd S_33 h 12 := by rw [eS_34]; exact (kd_nA (k := 14) (n := 4096) hq_32 hm_29 hk_30)
  show J _ _ _ _ _ 55 _
  refine j_aload_n C dX12_init_55 rfl 0 rfl ?_
  refine j_sipush (v := 400) C dX12_init_56 (by decide) ?_
  refine j_newZ (N := 400) C ka_boolean (by decide) (by decide) (Nat.le_of_ble_eq_true rfl) (M.cells (by decide)) (M.slots (Nat.le_of_ble_eq_true rfl)) dX12_init_59 (fun q_37 hq_38 => ?_)
  refine j_putrF (f := 1206) C hm9 flX12_29o (by decide) rfl rfl dX12_init_61 (mem_old hm_35) (kd_nA (k := 17) (n := 400) hq_38 hm_35 hk_36) rfl ?_
  obtain ⟨S_39, eS_40⟩ : ∃ S9 : Hp, S9 = (sR (nA S_33 q_37 17 400) 1206 h (some q_37)) := ⟨_, rfl⟩
  refine J.eq (S' := S_39) eS_40.symm rfl rfl ?_
  have hm_41 : h ∈ hL S_39 := by rw [eS_40]; exact (mem_old hm_35)
  have hk_42 : Kd S_39 h 12 := by rw [eS_40]; exact (kd_nA (k := 17) (n := 400) hq_38 hm_35 hk_36)
  show J _ _ _ _ _ 64 _
  refine j_aload_n C dX12_init_64 rfl 0 rfl ?_
  refine j_sipush (v := 2000) C dX12_init_65 (by decide) ?_
  refine j_newI (N := 2000) C ka_int (by decide) (by decide) (Nat.le_of_ble_eq_true rfl) (M.cells (by decide)) (M.slots (Nat.le_of_ble_eq_true rfl)) dX12_init_68 (fun q_43 hq_44 => ?_)
  refine j_putrF (f := 1207) C hm9 flX12_32o (by decide) rfl rfl dX12_init_70 (mem_old hm_41) (kd_nA (k := 14) (n := 2000) hq_44 hm_41 hk_42) rfl ?_
  obtain ⟨S_45, eS_46⟩ : ∃ S9 : Hp, S9 = (sR (nA S_39 q_43 14 2000) 1207 h (some q_43)) := ⟨_, rfl⟩
  refine J.eq (S' := S_45) eS_46.symm rfl rfl ?_
  have hm_47 : h ∈ hL S_45 := by rw [eS_46]; exact (mem_old hm_41)
  have hk_48 : Kd S_45 h 12 := by rw [eS_46]; exact (kd_nA (k := 14) (n := 2000) hq_44 hm_41 hk_42)
  show J _ _ _ _ _ 73 _
  refine j_aload_n C dX12_init_73 rfl 0 rfl ?_
  refine j_sipush (v := 12800) C dX12_init_74 (by decide) ?_
  refine j_newI (N := 12800) C ka_int (by decide) (by decide) (Nat.le_of_ble_eq_true rfl) (M.cells (by decide)) (M.slots (Nat.le_of_ble_eq_true rfl)) dX12_init_77 (fun q_49 hq_50 => ?_)
  refine j_putrF (f := 1208) C hm9 flX12_35o (by decide) rfl rfl dX12_init_79 (mem_old hm_47) (kd_nA (k := 14) (n := 12800) hq_50 hm_47 hk_48) rfl ?_
  obtain ⟨S_51, eS_52⟩ : ∃ S9 : Hp, S9 = (sR (nA S_45 q_49 14 12800) 1208 h (some q_49)) := ⟨_, rfl⟩
  refine J.eq (S' := S_51) eS_52.symm rfl rfl ?_
  have hm_53 : h ∈ hL S_51 := by rw [eS_52]; exact (mem_old hm_47)
  have hk_54 : Kd S_51 h 12 := by rw [eS_52]; exact (kd_nA (k := 14) (n := 12800) hq_50 hm_47 hk_48)
  show J _ _ _ _ _ 82 _
  refine j_aload_n C dX12_init_82 rfl 0 rfl ?_
  refine j_bipush (v := 16) C dX12_init_83 (by decide) ?_
  refine j_newZ (N := 16) C ka_boolean (by decide) (by decide) (Nat.le_of_ble_eq_true rfl) (M.cells (by decide)) (M.slots (Nat.le_of_ble_eq_true rfl)) dX12_init_85 (fun q_55 hq_56 => ?_)
  refine j_putrF (f := 1210) C hm9 flX12_38o (by decide) rfl rfl dX12_init_87 (mem_old hm_53) (kd_nA (k := 17) (n := 16) hq_56 hm_53 hk_54) rfl ?_
  obtain ⟨S_57, eS_58⟩ : ∃ S9 : Hp, S9 = (sR (nA S_51 q_55 17 16) 1210 h (some q_55)) := ⟨_, rfl⟩
  refine J.eq (S' := S_57) eS_58.symm rfl rfl ?_
  have hm_59 : h ∈ hL S_57 := by rw [eS_58]; exact (mem_old hm_53)
  have hk_60 : Kd S_57 h 12 := by rw [eS_58]; exact (kd_nA (k := 17) (n := 16) hq_56 hm_53 hk_54)
  show J _ _ _ _ _ 90 _
  refine j_aload_n C dX12_init_90 rfl 0 rfl ?_
  refine j_bipush (v := 16) C dX12_init_91 (by decide) ?_
  refine j_newZ (N := 16) C ka_boolean (by decide) (by decide) (Nat.le_of_ble_eq_true rfl) (M.cells (by decide)) (M.slots (Nat.le_of_ble_eq_true rfl)) dX12_init_93 (fun q_61 hq_62 => ?_)
  refine j_putrF (f := 1211) C hm9 flX12_41o (by decide) rfl rfl dX12_init_95 (mem_old hm_59) (kd_nA (k := 17) (n := 16) hq_62 hm_59 hk_60) rfl ?_
  obtain ⟨S_63, eS_64⟩ : ∃ S9 : Hp, S9 = (sR (nA S_57 q_61 17 16) 1211 h (some q_61)) := ⟨_, rfl⟩
  refine J.eq (S' := S_63) eS_64.symm rfl rfl ?_
  have hm_65 : h ∈ hL S_63 := by rw [eS_64]; exact (mem_old hm_59)
  have hk_66 : Kd S_63 h 12 := by rw [eS_64]; exact (kd_nA (k := 17) (n := 16) hq_62 hm_59 hk_60)
  show J _ _ _ _ _ 98 _
  refine j_aload_n C dX12_init_98 rfl 0 rfl ?_
  refine j_bipush (v := 16) C dX12_init_99 (by decide) ?_
  refine j_newI (N := 16) C ka_int (by decide) (by decide) (Nat.le_of_ble_eq_true rfl) (M.cells (by decide)) (M.slots (Nat.le_of_ble_eq_true rfl)) dX12_init_101 (fun q_67 hq_68 => ?_)
  refine j_putrF (f := 1212) C hm9 flX12_44o (by decide) rfl rfl dX12_init_103 (mem_old hm_65) (kd_nA (k := 14) (n := 16) hq_68 hm_65 hk_66) rfl ?_
  obtain ⟨S_69, eS_70⟩ : ∃ S9 : Hp, S9 = (sR (nA S_63 q_67 14 16) 1212 h (some q_67)) := ⟨_, rfl⟩
  refine J.eq (S' := S_69) eS_70.symm rfl rfl ?_
  have hm_71 : h ∈ hL S_69 := by rw [eS_70]; exact (mem_old hm_65)
  have hk_72 : Kd S_69 h 12 := by rw [eS_70]; exact (kd_nA (k := 14) (n := 16) hq_68 hm_65 hk_66)
  show J _ _ _ _ _ 106 _
  refine j_aload_n C dX12_init_106 rfl 0 rfl ?_
  refine j_bipush (v := 16) C dX12_init_107 (by decide) ?_
  refine j_newI (N := 16) C ka_int (by decide) (by decide) (Nat.le_of_ble_eq_true rfl) (M.cells (by decide)) (M.slots (Nat.le_of_ble_eq_true rfl)) dX12_init_109 (fun q_73 hq_74 => ?_)
  refine j_putrF (f := 1213) C hm9 flX12_47o (by decide) rfl rfl dX12_init_111 (mem_old hm_71) (kd_nA (k := 14) (n := 16) hq_74 hm_71 hk_72) rfl ?_
  obtain ⟨S_75, eS_76⟩ : ∃ S9 : Hp, S9 = (sR (nA S_69 q_73 14 16) 1213 h (some q_73)) := ⟨_, rfl⟩
  refine J.eq (S' := S_75) eS_76.symm rfl rfl ?_
  have hm_77 : h ∈ hL S_75 := by rw [eS_76]; exact (mem_old hm_71)
  have hk_78 : Kd S_75 h 12 := by rw [eS_76]; exact (kd_nA (k := 14) (n := 16) hq_74 hm_71 hk_72)
  show J _ _ _ _ _ 114 _
  refine j_aload_n C dX12_init_114 rfl 0 rfl ?_
  refine j_sipush (v := 256) C dX12_init_115 (by decide) ?_
  refine j_newI (N := 256) C ka_int (by decide) (by decide) (Nat.le_of_ble_eq_true rfl) (M.cells (by decide)) (M.slots (Nat.le_of_ble_eq_true rfl)) dX12_init_118 (fun q_79 hq_80 => ?_)
  refine j_putrF (f := 1214) C hm9 flX12_50o (by decide) rfl rfl dX12_init_120 (mem_old hm_77) (kd_nA (k := 14) (n := 256) hq_80 hm_77 hk_78) rfl ?_
  obtain ⟨S_81, eS_82⟩ : ∃ S9 : Hp, S9 = (sR (nA S_75 q_79 14 256) 1214 h (some q_79)) := ⟨_, rfl⟩
  refine J.eq (S' := S_81) eS_82.symm rfl rfl ?_
  have hm_83 : h ∈ hL S_81 := by rw [eS_82]; exact (mem_old hm_77)
  have hk_84 : Kd S_81 h 12 := by rw [eS_82]; exact (kd_nA (k := 14) (n := 256) hq_80 hm_77 hk_78)
  show J _ _ _ _ _ 123 _
  refine j_aload_n C dX12_init_123 rfl 0 rfl ?_
  refine j_bipush (v := 16) C dX12_init_124 (by decide) ?_
  refine j_newZ (N := 16) C ka_boolean (by decide) (by decide) (Nat.le_of_ble_eq_true rfl) (M.cells (by decide)) (M.slots (Nat.le_of_ble_eq_true rfl)) dX12_init_126 (fun q_85 hq_86 => ?_)
  refine j_putrF (f := 1215) C hm9 flX12_53o (by decide) rfl rfl dX12_init_128 (mem_old hm_83) (kd_nA (k := 17) (n := 16) hq_86 hm_83 hk_84) rfl ?_
  obtain ⟨S_87, eS_88⟩ : ∃ S9 : Hp, S9 = (sR (nA S_81 q_85 17 16) 1215 h (some q_85)) := ⟨_, rfl⟩
  refine J.eq (S' := S_87) eS_88.symm rfl rfl ?_
  have hm_89 : h ∈ hL S_87 := by rw [eS_88]; exact (mem_old hm_83)
  have hk_90 : Kd S_87 h 12 := by rw [eS_88]; exact (kd_nA (k := 17) (n := 16) hq_86 hm_83 hk_84)
  show J _ _ _ _ _ 131 _
  refine j_aload_n C dX12_init_131 rfl 0 rfl ?_
  refine j_bipush (v := 16) C dX12_init_132 (by decide) ?_
  refine j_newZ (N := 16) C ka_boolean (by decide) (by decide) (Nat.le_of_ble_eq_true rfl) (M.cells (by decide)) (M.slots (Nat.le_of_ble_eq_true rfl)) dX12_init_134 (fun q_91 hq_92 => ?_)
  refine j_putrF (f := 1216) C hm9 flX12_56o (by decide) rfl rfl dX12_init_136 (mem_old hm_89) (kd_nA (k := 17) (n := 16) hq_92 hm_89 hk_90) rfl ?_
  obtain ⟨S_93, eS_94⟩ : ∃ S9 : Hp, S9 = (sR (nA S_87 q_91 17 16) 1216 h (some q_91)) := ⟨_, rfl⟩
  refine J.eq (S' := S_93) eS_94.symm rfl rfl ?_
  have hm_95 : h ∈ hL S_93 := by rw [eS_94]; exact (mem_old hm_89)
  have hk_96 : Kd S_93 h 12 := by rw [eS_94]; exact (kd_nA (k := 17) (n := 16) hq_92 hm_89 hk_90)
  show J _ _ _ _ _ 139 _
  refine j_aload_n C dX12_init_139 rfl 0 rfl ?_
  refine j_bipush (v := 16) C dX12_init_140 (by decide) ?_
  refine j_newI (N := 16) C ka_int (by decide) (by decide) (Nat.le_of_ble_eq_true rfl) (M.cells (by decide)) (M.slots (Nat.le_of_ble_eq_true rfl)) dX12_init_142 (fun q_97 hq_98 => ?_)
  refine j_putrF (f := 1217) C hm9 flX12_59o (by decide) rfl rfl dX12_init_144 (mem_old hm_95) (kd_nA (k := 14) (n := 16) hq_98 hm_95 hk_96) rfl ?_
  obtain ⟨S_99, eS_100⟩ : ∃ S9 : Hp, S9 = (sR (nA S_93 q_97 14 16) 1217 h (some q_97)) := ⟨_, rfl⟩
  refine J.eq (S' := S_99) eS_100.symm rfl rfl ?_
  have hm_101 : h ∈ hL S_99 := by rw [eS_100]; exact (mem_old hm_95)
  have hk_102 : Kd S_99 h 12 := by rw [eS_100]; exact (kd_nA (k := 14) (n := 16) hq_98 hm_95 hk_96)
  show J _ _ _ _ _ 147 _
  refine j_aload_n C dX12_init_147 rfl 0 rfl ?_
  refine j_sipush (v := 24000) C dX12_init_148 (by decide) ?_
  refine j_newB (N := 24000) C ka_byte (by decide) (by decide) (Nat.le_of_ble_eq_true rfl) (M.cells (by decide)) (M.slots (Nat.le_of_ble_eq_true rfl)) dX12_init_151 (fun q_103 hq_104 => ?_)
  refine j_putrF (f := 1218) C hm9 flX12_62o (by decide) rfl rfl dX12_init_153 (mem_old hm_101) (kd_nA (k := 13) (n := 24000) hq_104 hm_101 hk_102) rfl ?_
  obtain ⟨S_105, eS_106⟩ : ∃ S9 : Hp, S9 = (sR (nA S_99 q_103 13 24000) 1218 h (some q_103)) := ⟨_, rfl⟩
  refine J.eq (S' := S_105) eS_106.symm rfl rfl ?_
  have hm_107 : h ∈ hL S_105 := by rw [eS_106]; exact (mem_old hm_101)
  have hk_108 : Kd S_105 h 12 := by rw [eS_106]; exact (kd_nA (k := 13) (n := 24000) hq_104 hm_101 hk_102)
  show J _ _ _ _ _ 156 _
  refine j_aload_n C dX12_init_156 rfl 0 rfl ?_
  refine j_sipush (v := 12000) C dX12_init_157 (by decide) ?_
  refine j_newB (N := 12000) C ka_byte (by decide) (by decide) (Nat.le_of_ble_eq_true rfl) (M.cells (by decide)) (M.slots (Nat.le_of_ble_eq_true rfl)) dX12_init_160 (fun q_109 hq_110 => ?_)
  refine j_putrF (f := 1219) C hm9 flX12_66o (by decide) rfl rfl dX12_init_162 (mem_old hm_107) (kd_nA (k := 13) (n := 12000) hq_110 hm_107 hk_108) rfl ?_
  obtain ⟨S_111, eS_112⟩ : ∃ S9 : Hp, S9 = (sR (nA S_105 q_109 13 12000) 1219 h (some q_109)) := ⟨_, rfl⟩
  refine J.eq (S' := S_111) eS_112.symm rfl rfl ?_
  have hm_113 : h ∈ hL S_111 := by rw [eS_112]; exact (mem_old hm_107)
  have hk_114 : Kd S_111 h 12 := by rw [eS_112]; exact (kd_nA (k := 13) (n := 12000) hq_110 hm_107 hk_108)
  show J _ _ _ _ _ 165 _
  refine j_aload_n C dX12_init_165 rfl 0 rfl ?_
  refine j_bipush (v := 7) C dX12_init_166 (by decide) ?_
  refine j_newI (N := 7) C ka_int (by decide) (by decide) (Nat.le_of_ble_eq_true rfl) (M.cells (by decide)) (M.slots (Nat.le_of_ble_eq_true rfl)) dX12_init_168 (fun q_115 hq_116 => ?_)
  refine j_putrF (f := 1220) C hm9 flX12_69o (by decide) rfl rfl dX12_init_170 (mem_old hm_113) (kd_nA (k := 14) (n := 7) hq_116 hm_113 hk_114) rfl ?_
  obtain ⟨S_117, eS_118⟩ : ∃ S9 : Hp, S9 = (sR (nA S_111 q_115 14 7) 1220 h (some q_115)) := ⟨_, rfl⟩
  refine J.eq (S' := S_117) eS_118.symm rfl rfl ?_
  have hm_119 : h ∈ hL S_117 := by rw [eS_118]; exact (mem_old hm_113)
  have hk_120 : Kd S_117 h 12 := by rw [eS_118]; exact (kd_nA (k := 14) (n := 7) hq_116 hm_113 hk_114)
  show J _ _ _ _ _ 173 _
  refine j_aload_n C dX12_init_173 rfl 0 rfl ?_
  refine j_bipush (v := 6) C dX12_init_174 (by decide) ?_
  refine j_newI (N := 6) C ka_int (by decide) (by decide) (Nat.le_of_ble_eq_true rfl) (M.cells (by decide)) (M.slots (Nat.le_of_ble_eq_true rfl)) dX12_init_176 (fun q_121 hq_122 => ?_)
  refine j_putrF (f := 1221) C hm9 flX12_72o (by decide) rfl rfl dX12_init_178 (mem_old hm_119) (kd_nA (k := 14) (n := 6) hq_122 hm_119 hk_120) rfl ?_
  obtain ⟨S_123, eS_124⟩ : ∃ S9 : Hp, S9 = (sR (nA S_117 q_121 14 6) 1221 h (some q_121)) := ⟨_, rfl⟩
  refine J.eq (S' := S_123) eS_124.symm rfl rfl ?_
  have hm_125 : h ∈ hL S_123 := by rw [eS_124]; exact (mem_old hm_119)
  have hk_126 : Kd S_123 h 12 := by rw [eS_124]; exact (kd_nA (k := 14) (n := 6) hq_122 hm_119 hk_120)
  show J _ _ _ _ _ 181 _
  refine j_aload_n C dX12_init_181 rfl 0 rfl ?_
  refine j_sipush (v := 8000) C dX12_init_182 (by decide) ?_
  refine j_newB (N := 8000) C ka_byte (by decide) (by decide) (Nat.le_of_ble_eq_true rfl) (M.cells (by decide)) (M.slots (Nat.le_of_ble_eq_true rfl)) dX12_init_185 (fun q_127 hq_128 => ?_)
  refine j_putrF (f := 1223) C hm9 flX12_75o (by decide) rfl rfl dX12_init_187 (mem_old hm_125) (kd_nA (k := 13) (n := 8000) hq_128 hm_125 hk_126) rfl ?_
  obtain ⟨S_129, eS_130⟩ : ∃ S9 : Hp, S9 = (sR (nA S_123 q_127 13 8000) 1223 h (some q_127)) := ⟨_, rfl⟩
  refine J.eq (S' := S_129) eS_130.symm rfl rfl ?_
  have hm_131 : h ∈ hL S_129 := by rw [eS_130]; exact (mem_old hm_125)
  have hk_132 : Kd S_129 h 12 := by rw [eS_130]; exact (kd_nA (k := 13) (n := 8000) hq_128 hm_125 hk_126)
  show J _ _ _ _ _ 190 _
  refine j_aload_n C dX12_init_190 rfl 0 rfl ?_
  refine j_sipush (v := 6000) C dX12_init_191 (by decide) ?_
  refine j_newB (N := 6000) C ka_byte (by decide) (by decide) (Nat.le_of_ble_eq_true rfl) (M.cells (by decide)) (M.slots (Nat.le_of_ble_eq_true rfl)) dX12_init_194 (fun q_133 hq_134 => ?_)
  refine j_putrF (f := 1225) C hm9 flX12_78o (by decide) rfl rfl dX12_init_196 (mem_old hm_131) (kd_nA (k := 13) (n := 6000) hq_134 hm_131 hk_132) rfl ?_
  obtain ⟨S_135, eS_136⟩ : ∃ S9 : Hp, S9 = (sR (nA S_129 q_133 13 6000) 1225 h (some q_133)) := ⟨_, rfl⟩
  refine J.eq (S' := S_135) eS_136.symm rfl rfl ?_
  have hm_137 : h ∈ hL S_135 := by rw [eS_136]; exact (mem_old hm_131)
  have hk_138 : Kd S_135 h 12 := by rw [eS_136]; exact (kd_nA (k := 13) (n := 6000) hq_134 hm_131 hk_132)
  show J _ _ _ _ _ 199 _
  refine j_aload_n C dX12_init_199 rfl 0 rfl ?_
  refine j_ldc (v := 64000) C dX12_init_200 kcX12_81 ?_
  refine j_newB (N := 64000) C ka_byte (by decide) (by decide) (Nat.le_of_ble_eq_true rfl) (M.cells (by decide)) (M.slots (Nat.le_of_ble_eq_true rfl)) dX12_init_202 (fun q_139 hq_140 => ?_)
  refine j_putrF (f := 1234) C hm9 flX12_82o (by decide) rfl rfl dX12_init_204 (mem_old hm_137) (kd_nA (k := 13) (n := 64000) hq_140 hm_137 hk_138) rfl ?_
  obtain ⟨S_141, eS_142⟩ : ∃ S9 : Hp, S9 = (sR (nA S_135 q_139 13 64000) 1234 h (some q_139)) := ⟨_, rfl⟩
  refine J.eq (S' := S_141) eS_142.symm rfl rfl ?_
  have hm_143 : h ∈ hL S_141 := by rw [eS_142]; exact (mem_old hm_137)
  have hk_144 : Kd S_141 h 12 := by rw [eS_142]; exact (kd_nA (k := 13) (n := 64000) hq_140 hm_137 hk_138)
  show J _ _ _ _ _ 207 _
  refine j_aload_n C dX12_init_207 rfl 0 rfl ?_
  refine j_ldc (v := 768000) C dX12_init_208 kcX12_85 ?_
  refine j_newB (N := 768000) C ka_byte (by decide) (by decide) (Nat.le_of_ble_eq_true rfl) (M.cells (by decide)) (M.slots (Nat.le_of_ble_eq_true rfl)) dX12_init_210 (fun q_145 hq_146 => ?_)
  refine j_putrF (f := 1237) C hm9 flX12_86o (by decide) rfl rfl dX12_init_212 (mem_old hm_143) (kd_nA (k := 13) (n := 768000) hq_146 hm_143 hk_144) rfl ?_
  obtain ⟨S_147, eS_148⟩ : ∃ S9 : Hp, S9 = (sR (nA S_141 q_145 13 768000) 1237 h (some q_145)) := ⟨_, rfl⟩
  refine J.eq (S' := S_147) eS_148.symm rfl rfl ?_
  have hm_149 : h ∈ hL S_147 := by rw [eS_148]; exact (mem_old hm_143)
  have hk_150 : Kd S_147 h 12 := by rw [eS_148]; exact (kd_nA (k := 13) (n := 768000) hq_146 hm_143 hk_144)
  show J _ _ _ _ _ 215 _
  refine j_aload_n C dX12_init_215 rfl 0 rfl ?_
  refine j_bipush (v := 12) C dX12_init_216 (by decide) ?_
  refine j_newI (N := 12) C ka_int (by decide) (by decide) (Nat.le_of_ble_eq_true rfl) (M.cells (by decide)) (M.slots (Nat.le_of_ble_eq_true rfl)) dX12_init_218 (fun q_151 hq_152 => ?_)
  refine j_putrF (f := 1238) C hm9 flX12_89o (by decide) rfl rfl dX12_init_220 (mem_old hm_149) (kd_nA (k := 14) (n := 12) hq_152 hm_149 hk_150) rfl ?_
  obtain ⟨S_153, eS_154⟩ : ∃ S9 : Hp, S9 = (sR (nA S_147 q_151 14 12) 1238 h (some q_151)) := ⟨_, rfl⟩
  refine J.eq (S' := S_153) eS_154.symm rfl rfl ?_
  have hm_155 : h ∈ hL S_153 := by rw [eS_154]; exact (mem_old hm_149)
  have hk_156 : Kd S_153 h 12 := by rw [eS_154]; exact (kd_nA (k := 14) (n := 12) hq_152 hm_149 hk_150)
  show J _ _ _ _ _ 223 _
  refine j_aload_n C dX12_init_223 rfl 0 rfl ?_
  refine j_bipush (v := 12) C dX12_init_224 (by decide) ?_
  refine j_newI (N := 12) C ka_int (by decide) (by decide) (Nat.le_of_ble_eq_true rfl) (M.cells (by decide)) (M.slots (Nat.le_of_ble_eq_true rfl)) dX12_init_226 (fun q_157 hq_158 => ?_)
  refine j_putrF (f := 1239) C hm9 flX12_92o (by decide) rfl rfl dX12_init_228 (mem_old hm_155) (kd_nA (k := 14) (n := 12) hq_158 hm_155 hk_156) rfl ?_
  obtain ⟨S_159, eS_160⟩ : ∃ S9 : Hp, S9 = (sR (nA S_153 q_157 14 12) 1239 h (some q_157)) := ⟨_, rfl⟩
  refine J.eq (S' := S_159) eS_160.symm rfl rfl ?_
  have hm_161 : h ∈ hL S_159 := by rw [eS_160]; exact (mem_old hm_155)
  have hk_162 : Kd S_159 h 12 := by rw [eS_160]; exact (kd_nA (k := 14) (n := 12) hq_158 hm_155 hk_156)
  show J _ _ _ _ _ 231 _
  refine j_aload_n C dX12_init_231 rfl 0 rfl ?_
  refine j_ldc (v := 60008) C dX12_init_232 kcX12_95 ?_
  refine j_newB (N := 60008) C ka_byte (by decide) (by decide) (Nat.le_of_ble_eq_true rfl) (M.cells (by decide)) (M.slots (Nat.le_of_ble_eq_true rfl)) dX12_init_234 (fun q_163 hq_164 => ?_)
  refine j_putrF (f := 1241) C hm9 flX12_96o (by decide) rfl rfl dX12_init_236 (mem_old hm_161) (kd_nA (k := 13) (n := 60008) hq_164 hm_161 hk_162) rfl ?_
  obtain ⟨S_165, eS_166⟩ : ∃ S9 : Hp, S9 = (sR (nA S_159 q_163 13 60008) 1241 h (some q_163)) := ⟨_, rfl⟩
  refine J.eq (S' := S_165) eS_166.symm rfl rfl ?_
  have hm_167 : h ∈ hL S_165 := by rw [eS_166]; exact (mem_old hm_161)
  have hk_168 : Kd S_165 h 12 := by rw [eS_166]; exact (kd_nA (k := 13) (n := 60008) hq_164 hm_161 hk_162)
  show J _ _ _ _ _ 239 _
  refine j_aload_n C dX12_init_239 rfl 0 rfl ?_
  refine j_bipush (v := 12) C dX12_init_240 (by decide) ?_
  refine j_newI (N := 12) C ka_int (by decide) (by decide) (Nat.le_of_ble_eq_true rfl) (M.cells (by decide)) (M.slots (Nat.le_of_ble_eq_true rfl)) dX12_init_242 (fun q_169 hq_170 => ?_)
  refine j_putrF (f := 1246) C hm9 flX12_99o (by decide) rfl rfl dX12_init_244 (mem_old hm_167) (kd_nA (k := 14) (n := 12) hq_170 hm_167 hk_168) rfl ?_
  obtain ⟨S_171, eS_172⟩ : ∃ S9 : Hp, S9 = (sR (nA S_165 q_169 14 12) 1246 h (some q_169)) := ⟨_, rfl⟩
  refine J.eq (S' := S_171) eS_172.symm rfl rfl ?_
  have hm_173 : h ∈ hL S_171 := by rw [eS_172]; exact (mem_old hm_167)
  have hk_174 : Kd S_171 h 12 := by rw [eS_172]; exact (kd_nA (k := 14) (n := 12) hq_170 hm_167 hk_168)
  show J _ _ _ _ _ 247 _
  refine j_aload_n C dX12_init_247 rfl 0 rfl ?_
  refine j_bipush (v := 20) C dX12_init_248 (by decide) ?_
  refine j_newI (N := 20) C ka_int (by decide) (by decide) (Nat.le_of_ble_eq_true rfl) (M.cells (by decide)) (M.slots (Nat.le_of_ble_eq_true rfl)) dX12_init_250 (fun q_175 hq_176 => ?_)
  refine j_putrF (f := 1248) C hm9 flX12_102o (by decide) rfl rfl dX12_init_252 (mem_old hm_173) (kd_nA (k := 14) (n := 20) hq_176 hm_173 hk_174) rfl ?_
  obtain ⟨S_177, eS_178⟩ : ∃ S9 : Hp, S9 = (sR (nA S_171 q_175 14 20) 1248 h (some q_175)) := ⟨_, rfl⟩
  refine J.eq (S' := S_177) eS_178.symm rfl rfl ?_
  have hm_179 : h ∈ hL S_177 := by rw [eS_178]; exact (mem_old hm_173)
  have hk_180 : Kd S_177 h 12 := by rw [eS_178]; exact (kd_nA (k := 14) (n := 20) hq_176 hm_173 hk_174)
  show J _ _ _ _ _ 255 _
  refine j_aload_n C dX12_init_255 rfl 0 rfl ?_
  refine j_bipush (v := 17) C dX12_init_256 (by decide) ?_
  refine j_newZ (N := 17) C ka_boolean (by decide) (by decide) (Nat.le_of_ble_eq_true rfl) (M.cells (by decide)) (M.slots (Nat.le_of_ble_eq_true rfl)) dX12_init_258 (fun q_181 hq_182 => ?_)
  refine j_putrF (f := 1250) C hm9 flX12_105o (by decide) rfl rfl dX12_init_260 (mem_old hm_179) (kd_nA (k := 17) (n := 17) hq_182 hm_179 hk_180) rfl ?_
  obtain ⟨S_183, eS_184⟩ : ∃ S9 : Hp, S9 = (sR (nA S_177 q_181 17 17) 1250 h (some q_181)) := ⟨_, rfl⟩
  refine J.eq (S' := S_183) eS_184.symm rfl rfl ?_
  have hm_185 : h ∈ hL S_183 := by rw [eS_184]; exact (mem_old hm_179)
  have hk_186 : Kd S_183 h 12 := by rw [eS_184]; exact (kd_nA (k := 17) (n := 17) hq_182 hm_179 hk_180)
  show J _ _ _ _ _ 263 _
  refine j_aload_n C dX12_init_263 rfl 0 rfl ?_
  refine j_sipush (v := 148) C dX12_init_264 (by decide) ?_
  refine j_newI (N := 148) C ka_int (by decide) (by decide) (Nat.le_of_ble_eq_true rfl) (M.cells (by decide)) (M.slots (Nat.le_of_ble_eq_true rfl)) dX12_init_267 (fun q_187 hq_188 => ?_)
  refine j_putrF (f := 1256) C hm9 flX12_108o (by decide) rfl rfl dX12_init_269 (mem_old hm_185) (kd_nA (k := 14) (n := 148) hq_188 hm_185 hk_186) rfl ?_
  obtain ⟨S_189, eS_190⟩ : ∃ S9 : Hp, S9 = (sR (nA S_183 q_187 14 148) 1256 h (some q_187)) := ⟨_, rfl⟩
  refine J.eq (S' := S_189) eS_190.symm rfl rfl ?_
  have hm_191 : h ∈ hL S_189 := by rw [eS_190]; exact (mem_old hm_185)
  have hk_192 : Kd S_189 h 12 := by rw [eS_190]; exact (kd_nA (k := 14) (n := 148) hq_188 hm_185 hk_186)
  show J _ _ _ _ _ 272 _
  refine j_aload_n C dX12_init_272 rfl 0 rfl ?_
  refine j_sipush (v := 148) C dX12_init_273 (by decide) ?_
  refine j_newI (N := 148) C ka_int (by decide) (by decide) (Nat.le_of_ble_eq_true rfl) (M.cells (by decide)) (M.slots (Nat.le_of_ble_eq_true rfl)) dX12_init_276 (fun q_193 hq_194 => ?_)
  refine j_putrF (f := 1257) C hm9 flX12_111o (by decide) rfl rfl dX12_init_278 (mem_old hm_191) (kd_nA (k := 14) (n := 148) hq_194 hm_191 hk_192) rfl ?_
  obtain ⟨S_195, eS_196⟩ : ∃ S9 : Hp, S9 = (sR (nA S_189 q_193 14 148) 1257 h (some q_193)) := ⟨_, rfl⟩
  refine J.eq (S' := S_195) eS_196.symm rfl rfl ?_
  have hm_197 : h ∈ hL S_195 := by rw [eS_196]; exact (mem_old hm_191)
  have hk_198 : Kd S_195 h 12 := by rw [eS_196]; exact (kd_nA (k := 14) (n := 148) hq_194 hm_191 hk_192)
  show J _ _ _ _ _ 281 _
  refine j_aload_n C dX12_init_281 rfl 0 rfl ?_
  refine j_sipush (v := 640) C dX12_init_282 (by decide) ?_
  refine j_newI (N := 640) C ka_int (by decide) (by decide) (Nat.le_of_ble_eq_true rfl) (M.cells (by decide)) (M.slots (Nat.le_of_ble_eq_true rfl)) dX12_init_285 (fun q_199 hq_200 => ?_)
  refine j_putrF (f := 1258) C hm9 flX12_114o (by decide) rfl rfl dX12_init_287 (mem_old hm_197) (kd_nA (k := 14) (n := 640) hq_200 hm_197 hk_198) rfl ?_
  obtain ⟨S_201, eS_202⟩ : ∃ S9 : Hp, S9 = (sR (nA S_195 q_199 14 640) 1258 h (some q_199)) := ⟨_, rfl⟩
  refine J.eq (S' := S_201) eS_202.symm rfl rfl ?_
  have hm_203 : h ∈ hL S_201 := by rw [eS_202]; exact (mem_old hm_197)
  have hk_204 : Kd S_201 h 12 := by rw [eS_202]; exact (kd_nA (k := 14) (n := 640) hq_200 hm_197 hk_198)
  show J _ _ _ _ _ 290 _
  refine j_aload_n C dX12_init_290 rfl 0 rfl ?_
  refine j_sipush (v := 640) C dX12_init_291 (by decide) ?_
  refine j_newI (N := 640) C ka_int (by decide) (by decide) (Nat.le_of_ble_eq_true rfl) (M.cells (by decide)) (M.slots (Nat.le_of_ble_eq_true rfl)) dX12_init_294 (fun q_205 hq_206 => ?_)
  refine j_putrF (f := 1259) C hm9 flX12_117o (by decide) rfl rfl dX12_init_296 (mem_old hm_203) (kd_nA (k := 14) (n := 640) hq_206 hm_203 hk_204) rfl ?_
  obtain ⟨S_207, eS_208⟩ : ∃ S9 : Hp, S9 = (sR (nA S_201 q_205 14 640) 1259 h (some q_205)) := ⟨_, rfl⟩
  refine J.eq (S' := S_207) eS_208.symm rfl rfl ?_
  have hm_209 : h ∈ hL S_207 := by rw [eS_208]; exact (mem_old hm_203)
  have hk_210 : Kd S_207 h 12 := by rw [eS_208]; exact (kd_nA (k := 14) (n := 640) hq_206 hm_203 hk_204)
  show J _ _ _ _ _ 299 _
  refine j_aload_n C dX12_init_299 rfl 0 rfl ?_
  refine j_bipush (v := 12) C dX12_init_300 (by decide) ?_
  refine j_newI (N := 12) C ka_int (by decide) (by decide) (Nat.le_of_ble_eq_true rfl) (M.cells (by decide)) (M.slots (Nat.le_of_ble_eq_true rfl)) dX12_init_302 (fun q_211 hq_212 => ?_)
  refine j_putrF (f := 1270) C hm9 flX12_120o (by decide) rfl rfl dX12_init_304 (mem_old hm_209) (kd_nA (k := 14) (n := 12) hq_212 hm_209 hk_210) rfl ?_
  obtain ⟨S_213, eS_214⟩ : ∃ S9 : Hp, S9 = (sR (nA S_207 q_211 14 12) 1270 h (some q_211)) := ⟨_, rfl⟩
  refine J.eq (S' := S_213) eS_214.symm rfl rfl ?_
  have hm_215 : h ∈ hL S_213 := by rw [eS_214]; exact (mem_old hm_209)
  have hk_216 : Kd S_213 h 12 := by rw [eS_214]; exact (kd_nA (k := 14) (n := 12) hq_212 hm_209 hk_210)
  show J _ _ _ _ _ 307 _
  refine j_aload_n C dX12_init_307 rfl 0 rfl ?_
  refine j_sipush (v := 400) C dX12_init_308 (by decide) ?_
  refine j_newI (N := 400) C ka_int (by decide) (by decide) (Nat.le_of_ble_eq_true rfl) (M.cells (by decide)) (M.slots (Nat.le_of_ble_eq_true rfl)) dX12_init_311 (fun q_217 hq_218 => ?_)
  refine j_putrF (f := 1272) C hm9 flX12_123o (by decide) rfl rfl dX12_init_313 (mem_old hm_215) (kd_nA (k := 14) (n := 400) hq_218 hm_215 hk_216) rfl ?_
  obtain ⟨S_219, eS_220⟩ : ∃ S9 : Hp, S9 = (sR (nA S_213 q_217 14 400) 1272 h (some q_217)) := ⟨_, rfl⟩
  refine J.eq (S' := S_219) eS_220.symm rfl rfl ?_
  have hm_221 : h ∈ hL S_219 := by rw [eS_220]; exact (mem_old hm_215)
  have hk_222 : Kd S_219 h 12 := by rw [eS_220]; exact (kd_nA (k := 14) (n := 400) hq_218 hm_215 hk_216)
  show J _ _ _ _ _ 316 _
  refine j_aload_n C dX12_init_316 rfl 0 rfl ?_
  refine j_sipush (v := 400) C dX12_init_317 (by decide) ?_
  refine j_newJ (N := 400) C ka_long (by decide) (by decide) (Nat.le_of_ble_eq_true rfl) (M.cells (by decide)) (M.slots (Nat.le_of_ble_eq_true rfl)) dX12_init_320 (fun q_223 hq_224 => ?_)
  refine j_putrF (f := 1273) C hm9 flX12_126o (by decide) rfl rfl dX12_init_322 (mem_old hm_221) (kd_nA (k := 15) (n := 400) hq_224 hm_221 hk_222) rfl ?_
  obtain ⟨S_225, eS_226⟩ : ∃ S9 : Hp, S9 = (sR (nA S_219 q_223 15 400) 1273 h (some q_223)) := ⟨_, rfl⟩
  refine J.eq (S' := S_225) eS_226.symm rfl rfl ?_
  have hm_227 : h ∈ hL S_225 := by rw [eS_226]; exact (mem_old hm_221)
  have hk_228 : Kd S_225 h 12 := by rw [eS_226]; exact (kd_nA (k := 15) (n := 400) hq_224 hm_221 hk_222)
  show J _ _ _ _ _ 325 _
  refine j_aload_n C dX12_init_325 rfl 0 rfl ?_
  refine j_bipush (v := 40) C dX12_init_326 (by decide) ?_
  refine j_newJ (N := 40) C ka_long (by decide) (by decide) (Nat.le_of_ble_eq_true rfl) (M.cells (by decide)) (M.slots (Nat.le_of_ble_eq_true rfl)) dX12_init_328 (fun q_229 hq_230 => ?_)
  refine j_putrF (f := 1274) C hm9 flX12_130o (by decide) rfl rfl dX12_init_330 (mem_old hm_227) (kd_nA (k := 15) (n := 40) hq_230 hm_227 hk_228) rfl ?_
  obtain ⟨S_231, eS_232⟩ : ∃ S9 : Hp, S9 = (sR (nA S_225 q_229 15 40) 1274 h (some q_229)) := ⟨_, rfl⟩
  refine J.eq (S' := S_231) eS_232.symm rfl rfl ?_
  have hm_233 : h ∈ hL S_231 := by rw [eS_232]; exact (mem_old hm_227)
  have hk_234 : Kd S_231 h 12 := by rw [eS_232]; exact (kd_nA (k := 15) (n := 40) hq_230 hm_227 hk_228)
  show J _ _ _ _ _ 333 _
  refine j_aload_n C dX12_init_333 rfl 0 rfl ?_
  refine j_bipush (v := 40) C dX12_init_334 (by decide) ?_
  refine j_newJ (N := 40) C ka_long (by decide) (by decide) (Nat.le_of_ble_eq_true rfl) (M.cells (by decide)) (M.slots (Nat.le_of_ble_eq_true rfl)) dX12_init_336 (fun q_235 hq_236 => ?_)
  refine j_putrF (f := 1275) C hm9 flX12_133o (by decide) rfl rfl dX12_init_338 (mem_old hm_233) (kd_nA (k := 15) (n := 40) hq_236 hm_233 hk_234) rfl ?_
  obtain ⟨S_237, eS_238⟩ : ∃ S9 : Hp, S9 = (sR (nA S_231 q_235 15 40) 1275 h (some q_235)) := ⟨_, rfl⟩
  refine J.eq (S' := S_237) eS_238.symm rfl rfl ?_
  have hm_239 : h ∈ hL S_237 := by rw [eS_238]; exact (mem_old hm_233)
  have hk_240 : Kd S_237 h 12 := by rw [eS_238]; exact (kd_nA (k := 15) (n := 40) hq_236 hm_233 hk_234)
  show J _ _ _ _ _ 341 _
  have hIni : Ini h S [(q_1, 14, 192, 1200), (q_7, 14, 960, 1201), (q_13, 17, 17, 1202), (q_19, 17, 17, 1203), (q_25, 14, 119, 1204), (q_31, 14, 4096, 1205), (q_37, 17, 400, 1206), (q_43, 14, 2000, 1207), (q_49, 14, 12800, 1208), (q_55, 17, 16, 1210), (q_61, 17, 16, 1211), (q_67, 14, 16, 1212), (q_73, 14, 16, 1213), (q_79, 14, 256, 1214), (q_85, 17, 16, 1215), (q_91, 17, 16, 1216), (q_97, 14, 16, 1217), (q_103, 13, 24000, 1218), (q_109, 13, 12000, 1219), (q_115, 14, 7, 1220), (q_121, 14, 6, 1221), (q_127, 13, 8000, 1223), (q_133, 13, 6000, 1225), (q_139, 13, 64000, 1234), (q_145, 13, 768000, 1237), (q_151, 14, 12, 1238), (q_157, 14, 12, 1239), (q_163, 13, 60008, 1241), (q_169, 14, 12, 1246), (q_175, 14, 20, 1248), (q_181, 17, 17, 1250), (q_187, 14, 148, 1256), (q_193, 14, 148, 1257), (q_199, 14, 640, 1258), (q_205, 14, 640, 1259), (q_211, 14, 12, 1270), (q_217, 14, 400, 1272), (q_223, 15, 400, 1273), (q_229, 15, 40, 1274), (q_235, 15, 40, 1275)] S_237 := (Ini_cons hq_2 eS_4 (Ini_cons hq_8 eS_10 (Ini_cons hq_14 eS_16 (Ini_cons hq_20 eS_22 (Ini_cons hq_26 eS_28 (Ini_cons hq_32 eS_34 (Ini_cons hq_38 eS_40 (Ini_cons hq_44 eS_46 (Ini_cons hq_50 eS_52 (Ini_cons hq_56 eS_58 (Ini_cons hq_62 eS_64 (Ini_cons hq_68 eS_70 (Ini_cons hq_74 eS_76 (Ini_cons hq_80 eS_82 (Ini_cons hq_86 eS_88 (Ini_cons hq_92 eS_94 (Ini_cons hq_98 eS_100 (Ini_cons hq_104 eS_106 (Ini_cons hq_110 eS_112 (Ini_cons hq_116 eS_118 (Ini_cons hq_122 eS_124 (Ini_cons hq_128 eS_130 (Ini_cons hq_134 eS_136 (Ini_cons hq_140 eS_142 (Ini_cons hq_146 eS_148 (Ini_cons hq_152 eS_154 (Ini_cons hq_158 eS_160 (Ini_cons hq_164 eS_166 (Ini_cons hq_170 eS_172 (Ini_cons hq_176 eS_178 (Ini_cons hq_182 eS_184 (Ini_cons hq_188 eS_190 (Ini_cons hq_194 eS_196 (Ini_cons hq_200 eS_202 (Ini_cons hq_206 eS_208 (Ini_cons hq_212 eS_214 (Ini_cons hq_218 eS_220 (Ini_cons hq_224 eS_226 (Ini_cons hq_230 eS_232 (Ini_cons hq_236 eS_238 Ini_nil))))))))))))))))))))))))))))))))))))))))
  obtain ⟨hfI, hall⟩ := Ini_all _ _ _ [1200, 1201, 1202, 1203, 1204, 1205, 1206, 1207, 1208, 1210, 1211, 1212, 1213, 1214, 1215, 1216, 1217, 1218, 1219, 1220, 1221, 1223, 1225, 1234, 1237, 1238, 1239, 1241, 1246, 1248, 1250, 1256, 1257, 1258, 1259, 1270, 1272, 1273, 1274, 1275] hm hIni rfl (by decide)
  obtain ⟨hmI, hNI⟩ := Ini_NL _ _ _ hIni
  have hfW : Fm (fun f9 b9 => (f9 = 1244 ∧ b9 = h) ∨ (f9 = 1245 ∧ b9 = h)) (fun f9 b9 => b9 = h) (fun _ => False) S S_237 := hfI.weak (fun f a h9 => h9.elim) (fun f a h9 => h9.1) (fun a h9 => h9.elim)
  have hWI : Wt sMK sMN sMP [] (fun i => (h :: [q_1, q_7, q_13, q_19, q_25, q_31, q_37, q_43, q_49, q_55, q_61, q_67, q_73, q_79, q_85, q_91, q_97, q_103, q_109, q_115, q_121, q_127, q_133, q_139, q_145, q_151, q_157, q_163, q_169, q_175, q_181, q_187, q_193, q_199, q_205, q_211, q_217, q_223, q_229, q_235] : List Nat).getD i 0) S_237 := ⟨(fun i9 k9 h9 => (match i9, h9 with | 0, h9 => (by have e9 : (12 : Nat) = k9 := Option.some.inj h9; subst e9; exact ⟨hm_239, hk_240⟩) | 1, h9 => (by have e9 : (14 : Nat) = k9 := Option.some.inj h9; subst e9; exact ⟨(hall _ (List.mem_of_getElem? (i := 0) rfl)).2.1, (hall _ (List.mem_of_getElem? (i := 0) rfl)).2.2.1⟩) | 2, h9 => (by have e9 : (14 : Nat) = k9 := Option.some.inj h9; subst e9; exact ⟨(hall _ (List.mem_of_getElem? (i := 1) rfl)).2.1, (hall _ (List.mem_of_getElem? (i := 1) rfl)).2.2.1⟩) | 3, h9 => (by have e9 : (17 : Nat) = k9 := Option.some.inj h9; subst e9; exact ⟨(hall _ (List.mem_of_getElem? (i := 2) rfl)).2.1, (hall _ (List.mem_of_getElem? (i := 2) rfl)).2.2.1⟩) | 4, h9 => (by have e9 : (17 : Nat) = k9 := Option.some.inj h9; subst e9; exact ⟨(hall _ (List.mem_of_getElem? (i := 3) rfl)).2.1, (hall _ (List.mem_of_getElem? (i := 3) rfl)).2.2.1⟩) | 5, h9 => (by have e9 : (14 : Nat) = k9 := Option.some.inj h9; subst e9; exact ⟨(hall _ (List.mem_of_getElem? (i := 4) rfl)).2.1, (hall _ (List.mem_of_getElem? (i := 4) rfl)).2.2.1⟩) | 6, h9 => (by have e9 : (14 : Nat) = k9 := Option.some.inj h9; subst e9; exact ⟨(hall _ (List.mem_of_getElem? (i := 5) rfl)).2.1, (hall _ (List.mem_of_getElem? (i := 5) rfl)).2.2.1⟩) | 7, h9 => (by have e9 : (17 : Nat) = k9 := Option.some.inj h9; subst e9; exact ⟨(hall _ (List.mem_of_getElem? (i := 6) rfl)).2.1, (hall _ (List.mem_of_getElem? (i := 6) rfl)).2.2.1⟩) | 8, h9 => (by have e9 : (14 : Nat) = k9 := Option.some.inj h9; subst e9; exact ⟨(hall _ (List.mem_of_getElem? (i := 7) rfl)).2.1, (hall _ (List.mem_of_getElem? (i := 7) rfl)).2.2.1⟩) | 9, h9 => (by have e9 : (14 : Nat) = k9 := Option.some.inj h9; subst e9; exact ⟨(hall _ (List.mem_of_getElem? (i := 8) rfl)).2.1, (hall _ (List.mem_of_getElem? (i := 8) rfl)).2.2.1⟩) | 10, h9 => (by have e9 : (17 : Nat) = k9 := Option.some.inj h9; subst e9; exact ⟨(hall _ (List.mem_of_getElem? (i := 9) rfl)).2.1, (hall _ (List.mem_of_getElem? (i := 9) rfl)).2.2.1⟩) | 11, h9 => (by have e9 : (17 : Nat) = k9 := Option.some.inj h9; subst e9; exact ⟨(hall _ (List.mem_of_getElem? (i := 10) rfl)).2.1, (hall _ (List.mem_of_getElem? (i := 10) rfl)).2.2.1⟩) | 12, h9 => (by have e9 : (14 : Nat) = k9 := Option.some.inj h9; subst e9; exact ⟨(hall _ (List.mem_of_getElem? (i := 11) rfl)).2.1, (hall _ (List.mem_of_getElem? (i := 11) rfl)).2.2.1⟩) | 13, h9 => (by have e9 : (14 : Nat) = k9 := Option.some.inj h9; subst e9; exact ⟨(hall _ (List.mem_of_getElem? (i := 12) rfl)).2.1, (hall _ (List.mem_of_getElem? (i := 12) rfl)).2.2.1⟩) | 14, h9 => (by have e9 : (14 : Nat) = k9 := Option.some.inj h9; subst e9; exact ⟨(hall _ (List.mem_of_getElem? (i := 13) rfl)).2.1, (hall _ (List.mem_of_getElem? (i := 13) rfl)).2.2.1⟩) | 15, h9 => (by have e9 : (17 : Nat) = k9 := Option.some.inj h9; subst e9; exact ⟨(hall _ (List.mem_of_getElem? (i := 14) rfl)).2.1, (hall _ (List.mem_of_getElem? (i := 14) rfl)).2.2.1⟩) | 16, h9 => (by have e9 : (17 : Nat) = k9 := Option.some.inj h9; subst e9; exact ⟨(hall _ (List.mem_of_getElem? (i := 15) rfl)).2.1, (hall _ (List.mem_of_getElem? (i := 15) rfl)).2.2.1⟩) | 17, h9 => (by have e9 : (14 : Nat) = k9 := Option.some.inj h9; subst e9; exact ⟨(hall _ (List.mem_of_getElem? (i := 16) rfl)).2.1, (hall _ (List.mem_of_getElem? (i := 16) rfl)).2.2.1⟩) | 18, h9 => (by have e9 : (13 : Nat) = k9 := Option.some.inj h9; subst e9; exact ⟨(hall _ (List.mem_of_getElem? (i := 17) rfl)).2.1, (hall _ (List.mem_of_getElem? (i := 17) rfl)).2.2.1⟩) | 19, h9 => (by have e9 : (13 : Nat) = k9 := Option.some.inj h9; subst e9; exact ⟨(hall _ (List.mem_of_getElem? (i := 18) rfl)).2.1, (hall _ (List.mem_of_getElem? (i := 18) rfl)).2.2.1⟩) | 20, h9 => (by have e9 : (14 : Nat) = k9 := Option.some.inj h9; subst e9; exact ⟨(hall _ (List.mem_of_getElem? (i := 19) rfl)).2.1, (hall _ (List.mem_of_getElem? (i := 19) rfl)).2.2.1⟩) | 21, h9 => (by have e9 : (14 : Nat) = k9 := Option.some.inj h9; subst e9; exact ⟨(hall _ (List.mem_of_getElem? (i := 20) rfl)).2.1, (hall _ (List.mem_of_getElem? (i := 20) rfl)).2.2.1⟩) | 22, h9 => (by have e9 : (13 : Nat) = k9 := Option.some.inj h9; subst e9; exact ⟨(hall _ (List.mem_of_getElem? (i := 21) rfl)).2.1, (hall _ (List.mem_of_getElem? (i := 21) rfl)).2.2.1⟩) | 23, h9 => (by have e9 : (13 : Nat) = k9 := Option.some.inj h9; subst e9; exact ⟨(hall _ (List.mem_of_getElem? (i := 22) rfl)).2.1, (hall _ (List.mem_of_getElem? (i := 22) rfl)).2.2.1⟩) | 24, h9 => (by have e9 : (13 : Nat) = k9 := Option.some.inj h9; subst e9; exact ⟨(hall _ (List.mem_of_getElem? (i := 23) rfl)).2.1, (hall _ (List.mem_of_getElem? (i := 23) rfl)).2.2.1⟩) | 25, h9 => (by have e9 : (13 : Nat) = k9 := Option.some.inj h9; subst e9; exact ⟨(hall _ (List.mem_of_getElem? (i := 24) rfl)).2.1, (hall _ (List.mem_of_getElem? (i := 24) rfl)).2.2.1⟩) | 26, h9 => (by have e9 : (14 : Nat) = k9 := Option.some.inj h9; subst e9; exact ⟨(hall _ (List.mem_of_getElem? (i := 25) rfl)).2.1, (hall _ (List.mem_of_getElem? (i := 25) rfl)).2.2.1⟩) | 27, h9 => (by have e9 : (14 : Nat) = k9 := Option.some.inj h9; subst e9; exact ⟨(hall _ (List.mem_of_getElem? (i := 26) rfl)).2.1, (hall _ (List.mem_of_getElem? (i := 26) rfl)).2.2.1⟩) | 28, h9 => (by have e9 : (13 : Nat) = k9 := Option.some.inj h9; subst e9; exact ⟨(hall _ (List.mem_of_getElem? (i := 27) rfl)).2.1, (hall _ (List.mem_of_getElem? (i := 27) rfl)).2.2.1⟩) | 29, h9 => (by have e9 : (14 : Nat) = k9 := Option.some.inj h9; subst e9; exact ⟨(hall _ (List.mem_of_getElem? (i := 28) rfl)).2.1, (hall _ (List.mem_of_getElem? (i := 28) rfl)).2.2.1⟩) | 30, h9 => (by have e9 : (14 : Nat) = k9 := Option.some.inj h9; subst e9; exact ⟨(hall _ (List.mem_of_getElem? (i := 29) rfl)).2.1, (hall _ (List.mem_of_getElem? (i := 29) rfl)).2.2.1⟩) | 31, h9 => (by have e9 : (17 : Nat) = k9 := Option.some.inj h9; subst e9; exact ⟨(hall _ (List.mem_of_getElem? (i := 30) rfl)).2.1, (hall _ (List.mem_of_getElem? (i := 30) rfl)).2.2.1⟩) | 32, h9 => (by have e9 : (14 : Nat) = k9 := Option.some.inj h9; subst e9; exact ⟨(hall _ (List.mem_of_getElem? (i := 31) rfl)).2.1, (hall _ (List.mem_of_getElem? (i := 31) rfl)).2.2.1⟩) | 33, h9 => (by have e9 : (14 : Nat) = k9 := Option.some.inj h9; subst e9; exact ⟨(hall _ (List.mem_of_getElem? (i := 32) rfl)).2.1, (hall _ (List.mem_of_getElem? (i := 32) rfl)).2.2.1⟩) | 34, h9 => (by have e9 : (14 : Nat) = k9 := Option.some.inj h9; subst e9; exact ⟨(hall _ (List.mem_of_getElem? (i := 33) rfl)).2.1, (hall _ (List.mem_of_getElem? (i := 33) rfl)).2.2.1⟩) | 35, h9 => (by have e9 : (14 : Nat) = k9 := Option.some.inj h9; subst e9; exact ⟨(hall _ (List.mem_of_getElem? (i := 34) rfl)).2.1, (hall _ (List.mem_of_getElem? (i := 34) rfl)).2.2.1⟩) | 36, h9 => (by have e9 : (14 : Nat) = k9 := Option.some.inj h9; subst e9; exact ⟨(hall _ (List.mem_of_getElem? (i := 35) rfl)).2.1, (hall _ (List.mem_of_getElem? (i := 35) rfl)).2.2.1⟩) | 37, h9 => (by have e9 : (14 : Nat) = k9 := Option.some.inj h9; subst e9; exact ⟨(hall _ (List.mem_of_getElem? (i := 36) rfl)).2.1, (hall _ (List.mem_of_getElem? (i := 36) rfl)).2.2.1⟩) | 38, h9 => (by have e9 : (15 : Nat) = k9 := Option.some.inj h9; subst e9; exact ⟨(hall _ (List.mem_of_getElem? (i := 37) rfl)).2.1, (hall _ (List.mem_of_getElem? (i := 37) rfl)).2.2.1⟩) | 39, h9 => (by have e9 : (15 : Nat) = k9 := Option.some.inj h9; subst e9; exact ⟨(hall _ (List.mem_of_getElem? (i := 38) rfl)).2.1, (hall _ (List.mem_of_getElem? (i := 38) rfl)).2.2.1⟩) | 40, h9 => (by have e9 : (15 : Nat) = k9 := Option.some.inj h9; subst e9; exact ⟨(hall _ (List.mem_of_getElem? (i := 39) rfl)).2.1, (hall _ (List.mem_of_getElem? (i := 39) rfl)).2.2.1⟩) | i9 + 41, h9 => absurd h9 (by simp [sMK]))), (List.forall_mem_cons.mpr ⟨(hall _ (List.mem_of_getElem? (i := 0) rfl)).2.2.2.1, (List.forall_mem_cons.mpr ⟨(hall _ (List.mem_of_getElem? (i := 1) rfl)).2.2.2.1, (List.forall_mem_cons.mpr ⟨(hall _ (List.mem_of_getElem? (i := 2) rfl)).2.2.2.1, (List.forall_mem_cons.mpr ⟨(hall _ (List.mem_of_getElem? (i := 3) rfl)).2.2.2.1, (List.forall_mem_cons.mpr ⟨(hall _ (List.mem_of_getElem? (i := 4) rfl)).2.2.2.1, (List.forall_mem_cons.mpr ⟨(hall _ (List.mem_of_getElem? (i := 5) rfl)).2.2.2.1, (List.forall_mem_cons.mpr ⟨(hall _ (List.mem_of_getElem? (i := 6) rfl)).2.2.2.1, (List.forall_mem_cons.mpr ⟨(hall _ (List.mem_of_getElem? (i := 7) rfl)).2.2.2.1, (List.forall_mem_cons.mpr ⟨(hall _ (List.mem_of_getElem? (i := 8) rfl)).2.2.2.1, (List.forall_mem_cons.mpr ⟨(hall _ (List.mem_of_getElem? (i := 9) rfl)).2.2.2.1, (List.forall_mem_cons.mpr ⟨(hall _ (List.mem_of_getElem? (i := 10) rfl)).2.2.2.1, (List.forall_mem_cons.mpr ⟨(hall _ (List.mem_of_getElem? (i := 11) rfl)).2.2.2.1, (List.forall_mem_cons.mpr ⟨(hall _ (List.mem_of_getElem? (i := 12) rfl)).2.2.2.1, (List.forall_mem_cons.mpr ⟨(hall _ (List.mem_of_getElem? (i := 13) rfl)).2.2.2.1, (List.forall_mem_cons.mpr ⟨(hall _ (List.mem_of_getElem? (i := 14) rfl)).2.2.2.1, (List.forall_mem_cons.mpr ⟨(hall _ (List.mem_of_getElem? (i := 15) rfl)).2.2.2.1, (List.forall_mem_cons.mpr ⟨(hall _ (List.mem_of_getElem? (i := 16) rfl)).2.2.2.1, (List.forall_mem_cons.mpr ⟨(hall _ (List.mem_of_getElem? (i := 17) rfl)).2.2.2.1, (List.forall_mem_cons.mpr ⟨(hall _ (List.mem_of_getElem? (i := 18) rfl)).2.2.2.1, (List.forall_mem_cons.mpr ⟨(hall _ (List.mem_of_getElem? (i := 19) rfl)).2.2.2.1, (List.forall_mem_cons.mpr ⟨(hall _ (List.mem_of_getElem? (i := 20) rfl)).2.2.2.1, (List.forall_mem_cons.mpr ⟨(hall _ (List.mem_of_getElem? (i := 21) rfl)).2.2.2.1, (List.forall_mem_cons.mpr ⟨(hall _ (List.mem_of_getElem? (i := 22) rfl)).2.2.2.1, (List.forall_mem_cons.mpr ⟨(hall _ (List.mem_of_getElem? (i := 23) rfl)).2.2.2.1, (List.forall_mem_cons.mpr ⟨(hall _ (List.mem_of_getElem? (i := 24) rfl)).2.2.2.1, (List.forall_mem_cons.mpr ⟨(hall _ (List.mem_of_getElem? (i := 25) rfl)).2.2.2.1, (List.forall_mem_cons.mpr ⟨(hall _ (List.mem_of_getElem? (i := 26) rfl)).2.2.2.1, (List.forall_mem_cons.mpr ⟨(hall _ (List.mem_of_getElem? (i := 27) rfl)).2.2.2.1, (List.forall_mem_cons.mpr ⟨(hall _ (List.mem_of_getElem? (i := 28) rfl)).2.2.2.1, (List.forall_mem_cons.mpr ⟨(hall _ (List.mem_of_getElem? (i := 29) rfl)).2.2.2.1, (List.forall_mem_cons.mpr ⟨(hall _ (List.mem_of_getElem? (i := 30) rfl)).2.2.2.1, (List.forall_mem_cons.mpr ⟨(hall _ (List.mem_of_getElem? (i := 31) rfl)).2.2.2.1, (List.forall_mem_cons.mpr ⟨(hall _ (List.mem_of_getElem? (i := 32) rfl)).2.2.2.1, (List.forall_mem_cons.mpr ⟨(hall _ (List.mem_of_getElem? (i := 33) rfl)).2.2.2.1, (List.forall_mem_cons.mpr ⟨(hall _ (List.mem_of_getElem? (i := 34) rfl)).2.2.2.1, (List.forall_mem_cons.mpr ⟨(hall _ (List.mem_of_getElem? (i := 35) rfl)).2.2.2.1, (List.forall_mem_cons.mpr ⟨(hall _ (List.mem_of_getElem? (i := 36) rfl)).2.2.2.1, (List.forall_mem_cons.mpr ⟨(hall _ (List.mem_of_getElem? (i := 37) rfl)).2.2.2.1, (List.forall_mem_cons.mpr ⟨(hall _ (List.mem_of_getElem? (i := 38) rfl)).2.2.2.1, (List.forall_mem_cons.mpr ⟨(hall _ (List.mem_of_getElem? (i := 39) rfl)).2.2.2.1, (fun _ h9 => absurd h9 List.not_mem_nil)⟩)⟩)⟩)⟩)⟩)⟩)⟩)⟩)⟩)⟩)⟩)⟩)⟩)⟩)⟩)⟩)⟩)⟩)⟩)⟩)⟩)⟩)⟩)⟩)⟩)⟩)⟩)⟩)⟩)⟩)⟩)⟩)⟩)⟩)⟩)⟩)⟩)⟩)⟩)⟩), (List.forall_mem_cons.mpr ⟨(hall _ (List.mem_of_getElem? (i := 0) rfl)).2.2.2.2.1, (List.forall_mem_cons.mpr ⟨(hall _ (List.mem_of_getElem? (i := 1) rfl)).2.2.2.2.1, (List.forall_mem_cons.mpr ⟨(hall _ (List.mem_of_getElem? (i := 2) rfl)).2.2.2.2.1, (List.forall_mem_cons.mpr ⟨(hall _ (List.mem_of_getElem? (i := 3) rfl)).2.2.2.2.1, (List.forall_mem_cons.mpr ⟨(hall _ (List.mem_of_getElem? (i := 4) rfl)).2.2.2.2.1, (List.forall_mem_cons.mpr ⟨(hall _ (List.mem_of_getElem? (i := 5) rfl)).2.2.2.2.1, (List.forall_mem_cons.mpr ⟨(hall _ (List.mem_of_getElem? (i := 6) rfl)).2.2.2.2.1, (List.forall_mem_cons.mpr ⟨(hall _ (List.mem_of_getElem? (i := 7) rfl)).2.2.2.2.1, (List.forall_mem_cons.mpr ⟨(hall _ (List.mem_of_getElem? (i := 8) rfl)).2.2.2.2.1, (List.forall_mem_cons.mpr ⟨(hall _ (List.mem_of_getElem? (i := 9) rfl)).2.2.2.2.1, (List.forall_mem_cons.mpr ⟨(hall _ (List.mem_of_getElem? (i := 10) rfl)).2.2.2.2.1, (List.forall_mem_cons.mpr ⟨(hall _ (List.mem_of_getElem? (i := 11) rfl)).2.2.2.2.1, (List.forall_mem_cons.mpr ⟨(hall _ (List.mem_of_getElem? (i := 12) rfl)).2.2.2.2.1, (List.forall_mem_cons.mpr ⟨(hall _ (List.mem_of_getElem? (i := 13) rfl)).2.2.2.2.1, (List.forall_mem_cons.mpr ⟨(hall _ (List.mem_of_getElem? (i := 14) rfl)).2.2.2.2.1, (List.forall_mem_cons.mpr ⟨(hall _ (List.mem_of_getElem? (i := 15) rfl)).2.2.2.2.1, (List.forall_mem_cons.mpr ⟨(hall _ (List.mem_of_getElem? (i := 16) rfl)).2.2.2.2.1, (List.forall_mem_cons.mpr ⟨(hall _ (List.mem_of_getElem? (i := 17) rfl)).2.2.2.2.1, (List.forall_mem_cons.mpr ⟨(hall _ (List.mem_of_getElem? (i := 18) rfl)).2.2.2.2.1, (List.forall_mem_cons.mpr ⟨(hall _ (List.mem_of_getElem? (i := 19) rfl)).2.2.2.2.1, (List.forall_mem_cons.mpr ⟨(hall _ (List.mem_of_getElem? (i := 20) rfl)).2.2.2.2.1, (List.forall_mem_cons.mpr ⟨(hall _ (List.mem_of_getElem? (i := 21) rfl)).2.2.2.2.1, (List.forall_mem_cons.mpr ⟨(hall _ (List.mem_of_getElem? (i := 22) rfl)).2.2.2.2.1, (List.forall_mem_cons.mpr ⟨(hall _ (List.mem_of_getElem? (i := 23) rfl)).2.2.2.2.1, (List.forall_mem_cons.mpr ⟨(hall _ (List.mem_of_getElem? (i := 24) rfl)).2.2.2.2.1, (List.forall_mem_cons.mpr ⟨(hall _ (List.mem_of_getElem? (i := 25) rfl)).2.2.2.2.1, (List.forall_mem_cons.mpr ⟨(hall _ (List.mem_of_getElem? (i := 26) rfl)).2.2.2.2.1, (List.forall_mem_cons.mpr ⟨(hall _ (List.mem_of_getElem? (i := 27) rfl)).2.2.2.2.1, (List.forall_mem_cons.mpr ⟨(hall _ (List.mem_of_getElem? (i := 28) rfl)).2.2.2.2.1, (List.forall_mem_cons.mpr ⟨(hall _ (List.mem_of_getElem? (i := 29) rfl)).2.2.2.2.1, (List.forall_mem_cons.mpr ⟨(hall _ (List.mem_of_getElem? (i := 30) rfl)).2.2.2.2.1, (List.forall_mem_cons.mpr ⟨(hall _ (List.mem_of_getElem? (i := 31) rfl)).2.2.2.2.1, (List.forall_mem_cons.mpr ⟨(hall _ (List.mem_of_getElem? (i := 32) rfl)).2.2.2.2.1, (List.forall_mem_cons.mpr ⟨(hall _ (List.mem_of_getElem? (i := 33) rfl)).2.2.2.2.1, (List.forall_mem_cons.mpr ⟨(hall _ (List.mem_of_getElem? (i := 34) rfl)).2.2.2.2.1, (List.forall_mem_cons.mpr ⟨(hall _ (List.mem_of_getElem? (i := 35) rfl)).2.2.2.2.1, (List.forall_mem_cons.mpr ⟨(hall _ (List.mem_of_getElem? (i := 36) rfl)).2.2.2.2.1, (List.forall_mem_cons.mpr ⟨(hall _ (List.mem_of_getElem? (i := 37) rfl)).2.2.2.2.1, (List.forall_mem_cons.mpr ⟨(hall _ (List.mem_of_getElem? (i := 38) rfl)).2.2.2.2.1, (List.forall_mem_cons.mpr ⟨(hall _ (List.mem_of_getElem? (i := 39) rfl)).2.2.2.2.1, (fun _ h9 => absurd h9 List.not_mem_nil)⟩)⟩)⟩)⟩)⟩)⟩)⟩)⟩)⟩)⟩)⟩)⟩)⟩)⟩)⟩)⟩)⟩)⟩)⟩)⟩)⟩)⟩)⟩)⟩)⟩)⟩)⟩)⟩)⟩)⟩)⟩)⟩)⟩)⟩)⟩)⟩)⟩)⟩)⟩)⟩), (fun _ h9 => absurd h9 List.not_mem_nil)⟩
  obtain ⟨e_241, e_242, e_243, e_244, e_245, e_246⟩ := hall _ (List.mem_of_getElem? (i := 2) rfl)
  have e_247 : Kd S_237 q_13 17 := e_243
  have e_248 : Ln S_237 q_13 17 := e_244
  have e_249 : hR S_237 1202 h = some q_13 := e_245
  have e_250 : q_13 ∈ hL S_237 := e_242
  have e_251 : ∀ j, aI S_237 q_13 j = 0 := e_246
  have hz_252 : q_13 ∉ hL S := e_241
  obtain ⟨e_253, e_254, e_255, e_256, e_257, e_258⟩ := hall _ (List.mem_of_getElem? (i := 4) rfl)
  have e_259 : Kd S_237 q_25 14 := e_255
  have e_260 : Ln S_237 q_25 119 := e_256
  have e_261 : hR S_237 1204 h = some q_25 := e_257
  have e_262 : q_25 ∈ hL S_237 := e_254
  have e_263 : ∀ j, aI S_237 q_25 j = 0 := e_258
  have hz_264 : q_25 ∉ hL S := e_253
  obtain ⟨e_265, e_266, e_267, e_268, e_269, e_270⟩ := hall _ (List.mem_of_getElem? (i := 5) rfl)
  have e_271 : Kd S_237 q_31 14 := e_267
  have e_272 : Ln S_237 q_31 4096 := e_268
  have e_273 : hR S_237 1205 h = some q_31 := e_269
  have e_274 : q_31 ∈ hL S_237 := e_266
  have e_275 : ∀ j, aI S_237 q_31 j = 0 := e_270
  have hz_276 : q_31 ∉ hL S := e_265
  obtain ⟨e_277, e_278, e_279, e_280, e_281, e_282⟩ := hall _ (List.mem_of_getElem? (i := 9) rfl)
  have e_283 : Kd S_237 q_55 17 := e_279
  have e_284 : Ln S_237 q_55 16 := e_280
  have e_285 : hR S_237 1210 h = some q_55 := e_281
  have e_286 : q_55 ∈ hL S_237 := e_278
  have e_287 : ∀ j, aI S_237 q_55 j = 0 := e_282
  have hz_288 : q_55 ∉ hL S := e_277
  obtain ⟨e_289, e_290, e_291, e_292, e_293, e_294⟩ := hall _ (List.mem_of_getElem? (i := 14) rfl)
  have e_295 : Kd S_237 q_85 17 := e_291
  have e_296 : Ln S_237 q_85 16 := e_292
  have e_297 : hR S_237 1215 h = some q_85 := e_293
  have e_298 : q_85 ∈ hL S_237 := e_290
  have e_299 : ∀ j, aI S_237 q_85 j = 0 := e_294
  have hz_300 : q_85 ∉ hL S := e_289
  obtain ⟨e_301, e_302, e_303, e_304, e_305, e_306⟩ := hall _ (List.mem_of_getElem? (i := 19) rfl)
  have e_307 : Kd S_237 q_115 14 := e_303
  have e_308 : Ln S_237 q_115 7 := e_304
  have e_309 : hR S_237 1220 h = some q_115 := e_305
  have e_310 : q_115 ∈ hL S_237 := e_302
  have e_311 : ∀ j, aI S_237 q_115 j = 0 := e_306
  have hz_312 : q_115 ∉ hL S := e_301
  obtain ⟨e_313, e_314, e_315, e_316, e_317, e_318⟩ := hall _ (List.mem_of_getElem? (i := 31) rfl)
  have e_319 : Kd S_237 q_187 14 := e_315
  have e_320 : Ln S_237 q_187 148 := e_316
  have e_321 : hR S_237 1256 h = some q_187 := e_317
  have e_322 : q_187 ∈ hL S_237 := e_314
  have e_323 : ∀ j, aI S_237 q_187 j = 0 := e_318
  have hz_324 : q_187 ∉ hL S := e_313
  obtain ⟨e_325, e_326, e_327, e_328, e_329, e_330⟩ := hall _ (List.mem_of_getElem? (i := 32) rfl)
  have e_331 : Kd S_237 q_193 14 := e_327
  have e_332 : Ln S_237 q_193 148 := e_328
  have e_333 : hR S_237 1257 h = some q_193 := e_329
  have e_334 : q_193 ∈ hL S_237 := e_326
  have e_335 : ∀ j, aI S_237 q_193 j = 0 := e_330
  have hz_336 : q_193 ∉ hL S := e_325
  have ne_337 : q_13 ≠ q_55 := Ini_ne _ _ _ hIni 2 9 _ _ (by decide) rfl rfl
  have ne_338 : q_13 ≠ q_85 := Ini_ne _ _ _ hIni 2 14 _ _ (by decide) rfl rfl
  have ne_339 : q_25 ≠ q_31 := Ini_ne _ _ _ hIni 4 5 _ _ (by decide) rfl rfl
  have ne_340 : q_25 ≠ q_115 := Ini_ne _ _ _ hIni 4 19 _ _ (by decide) rfl rfl
  have ne_341 : q_25 ≠ q_187 := Ini_ne _ _ _ hIni 4 31 _ _ (by decide) rfl rfl
  have ne_342 : q_25 ≠ q_193 := Ini_ne _ _ _ hIni 4 32 _ _ (by decide) rfl rfl
  have ne_343 : q_31 ≠ q_115 := Ini_ne _ _ _ hIni 5 19 _ _ (by decide) rfl rfl
  have ne_344 : q_31 ≠ q_187 := Ini_ne _ _ _ hIni 5 31 _ _ (by decide) rfl rfl
  have ne_345 : q_31 ≠ q_193 := Ini_ne _ _ _ hIni 5 32 _ _ (by decide) rfl rfl
  have ne_346 : q_115 ≠ q_187 := Ini_ne _ _ _ hIni 19 31 _ _ (by decide) rfl rfl
  have ne_347 : q_115 ≠ q_193 := Ini_ne _ _ _ hIni 19 32 _ _ (by decide) rfl rfl
  have ne_348 : q_187 ≠ q_193 := Ini_ne _ _ _ hIni 31 32 _ _ (by decide) rfl rfl
  refine j_iconst (v := 0) C dX12_init_341 (by decide) ?_
  refine j_istore_n (lv' := [(1, .int 0), (0, .ref h)]) C dX12_init_342 rfl (by rw [hn9]; decide) rfl ?_
  have loop_353 : ∀ (m9 j1 : Nat) (S_350 : Hp), j1 + m9 = 4096 → Fm (fun _ _ => False) (fun _ _ => False) (fun b9 => b9 = q_31) S_237 S_350 → J x (0 + 1 + 1 + 1 + 1 + 1 + 1 + 1 + 1 + 1 + 1 + 1 + 1 + 1 + 1 + 1 + 1 + 1 + 1 + 1 + 1 + 1 + 1 + 1 + 1 + 1 + 1 + 1 + 1 + 1 + 1 + 1 + 1 + 1 + 1 + 1 + 1 + 1 + 1 + 1 + 1) (0 + 192 + 960 + 17 + 17 + 119 + 4096 + 400 + 2000 + 12800 + 16 + 16 + 16 + 16 + 256 + 16 + 16 + 16 + 24000 + 12000 + 7 + 6 + 8000 + 6000 + 64000 + 768000 + 12 + 12 + 60008 + 12 + 20 + 17 + 148 + 148 + 640 + 640 + 12 + 400 + 400 + 40 + 40) S_350 [(1, .int (nI j1)), (0, .ref h)] 343 [] := by
    intro m9
    induction m9 with
    | zero =>
      intro j1 S_350  hi_354 hl_351 
      have hz_355 : ∀ j, aI S_350 q_115 j = 0 := fun j9 => (hl_351.ai e_310 (fun q9 => (Ne.symm ne_343) q9) j9).trans (e_311 j9)
      have hz_356 : ∀ j, aI S_350 q_55 j = 0 := fun j9 => (hl_351.ai e_286 (fun q9 => (fun e9 => absurd ((e_283).symm.trans ((congrArg (hK _) e9).trans e_271)) (by decide)) q9) j9).trans (e_287 j9)
      have hz_357 : ∀ j, aI S_350 q_85 j = 0 := fun j9 => (hl_351.ai e_298 (fun q9 => (fun e9 => absurd ((e_295).symm.trans ((congrArg (hK _) e9).trans e_271)) (by decide)) q9) j9).trans (e_299 j9)
      have hm_358 : h ∈ hL S_350 := hl_351.mem hm_239
      have hk_359 : Kd S_350 h 12 := hl_351.kd hm_239 hk_240
      have hm_360 : q_115 ∈ hL S_350 := hl_351.mem e_310
      have hk_361 : Kd S_350 q_115 14 := hl_351.kd e_310 e_307
      have hn_362 : Ln S_350 q_115 7 := hl_351.ln e_310 e_308
      have hm_363 : q_13 ∈ hL S_350 := hl_351.mem e_250
      have hk_364 : Kd S_350 q_13 17 := hl_351.kd e_250 e_247
      have hn_365 : Ln S_350 q_13 17 := hl_351.ln e_250 e_248
      have hm_366 : q_187 ∈ hL S_350 := hl_351.mem e_322
      have hk_367 : Kd S_350 q_187 14 := hl_351.kd e_322 e_319
      have hn_368 : Ln S_350 q_187 148 := hl_351.ln e_322 e_320
      have hm_369 : q_193 ∈ hL S_350 := hl_351.mem e_334
      have hk_370 : Kd S_350 q_193 14 := hl_351.kd e_334 e_331
      have hn_371 : Ln S_350 q_193 148 := hl_351.ln e_334 e_332
      have hm_372 : q_25 ∈ hL S_350 := hl_351.mem e_262
      have hk_373 : Kd S_350 q_25 14 := hl_351.kd e_262 e_259
      have hn_374 : Ln S_350 q_25 119 := hl_351.ln e_262 e_260
      have hm_375 : q_31 ∈ hL S_350 := hl_351.mem e_274
      have hk_376 : Kd S_350 q_31 14 := hl_351.kd e_274 e_271
      have hn_377 : Ln S_350 q_31 4096 := hl_351.ln e_274 e_272
      have hm_378 : q_55 ∈ hL S_350 := hl_351.mem e_286
      have hk_379 : Kd S_350 q_55 17 := hl_351.kd e_286 e_283
      have hn_380 : Ln S_350 q_55 16 := hl_351.ln e_286 e_284
      have hm_381 : q_85 ∈ hL S_350 := hl_351.mem e_298
      have hk_382 : Kd S_350 q_85 17 := hl_351.kd e_298 e_295
      have hn_383 : Ln S_350 q_85 16 := hl_351.ln e_298 e_296
      have hv_384 : hR S_350 1202 h = (some q_13) := hl_351.fr hm_239 (fun h9 => h9) e_249
      have hv_385 : hR S_350 1204 h = (some q_25) := hl_351.fr hm_239 (fun h9 => h9) e_261
      have hv_386 : hR S_350 1205 h = (some q_31) := hl_351.fr hm_239 (fun h9 => h9) e_273
      have hv_387 : hR S_350 1210 h = (some q_55) := hl_351.fr hm_239 (fun h9 => h9) e_285
      have hv_388 : hR S_350 1215 h = (some q_85) := hl_351.fr hm_239 (fun h9 => h9) e_297
      have hv_389 : hR S_350 1220 h = (some q_115) := hl_351.fr hm_239 (fun h9 => h9) e_309
      have hv_390 : hR S_350 1256 h = (some q_187) := hl_351.fr hm_239 (fun h9 => h9) e_321
      have hv_391 : hR S_350 1257 h = (some q_193) := hl_351.fr hm_239 (fun h9 => h9) e_333
      have hf_392 : Fm (fun f9 b9 => (f9 = 1244 ∧ b9 = h) ∨ (f9 = 1245 ∧ b9 = h)) (fun f9 b9 => b9 = h) (fun _ => False) S S_350 := hfW.then hl_351 (fun a9 ha9 => ⟨(fun f9 h9 => h9.elim), (fun f9 h9 => h9.elim), (fun h9 => (fun h8 => absurd (h8 ▸ ha9) hz_276) h9)⟩)
      have hf_393 : Fm (fun f9 b9 => (f9 = 1244 ∧ b9 = h) ∨ (f9 = 1245 ∧ b9 = h)) (fun _ _ => False) (fun b9 => b9 = q_31 ∨ b9 = q_13 ∨ b9 = q_25 ∨ b9 = q_187 ∨ b9 = q_193) S_237 S_350 := (Fm.refl (WI := (fun f9 b9 => (f9 = 1244 ∧ b9 = h) ∨ (f9 = 1245 ∧ b9 = h))) (WR := (fun _ _ => False)) (WA := (fun b9 => b9 = q_31 ∨ b9 = q_13 ∨ b9 = q_25 ∨ b9 = q_187 ∨ b9 = q_193))).then hl_351 (fun a9 ha9 => ⟨(fun f9 h9 => h9.elim), (fun f9 h9 => h9.elim), (fun h9 => (fun h8 => (Or.inl h8)) h9)⟩)
      refine j_iload_n C dX12_init_343 rfl 0 rfl ?_
      refine j_sipush (v := 4096) C dX12_init_344 (by decide) ?_
      refine j_ic_ge (tgt := 363) C dX12_init_347 (by decide) (fun c_347 => ?_) (fun c_347 => absurd (nI_le (a := 4096) (by omega) (by omega)) c_347)
      refine j_aload_n C dX12_init_363 rfl 1 rfl ?_
      refine j_getr (f := 1202) (v := q_13) C flX12_16 dX12_init_364 hm_358 hk_359 (by decide) rfl hv_384 ?_
      show J _ _ _ _ _ 367 _
      refine j_bipush (v := 16) C dX12_init_367 (by decide) ?_
      refine j_iconst (v := 1) C dX12_init_369 (by decide) ?_
      refine j_zast (j := 16) C dX12_init_370 hm_363 hk_364 (inr_of (n := 17) hn_365 (vp_lit (by decide))) (by decide) ?_
      refine j_aload_n C dX12_init_371 rfl 1 rfl ?_
      refine j_getr (f := 1204) (v := q_25) C flX12_23 dX12_init_372 hm_358 hk_359 (by decide) rfl hv_385 ?_
      refine j_bipush (v := 113) C dX12_init_375 (by decide) ?_
      refine j_sipush (v := 720) C dX12_init_377 (by decide) ?_
      refine j_iast (j := 113) C dX12_init_380 hm_372 hk_373 (inr_of (n := 119) hn_374 (vp_lit (by decide))) (by decide) ?_
      show J _ _ _ _ _ 381 _
      refine j_aload_n C dX12_init_381 rfl 1 rfl ?_
      refine j_getr (f := 1204) (v := q_25) C flX12_23 dX12_init_382 hm_358 hk_359 (by decide) rfl hv_385 ?_
      refine j_bipush (v := 114) C dX12_init_385 (by decide) ?_
      refine j_bipush (v := 8) C dX12_init_387 (by decide) ?_
      refine j_iast (j := 114) C dX12_init_389 hm_372 hk_373 (inr_of (n := 119) hn_374 (vp_lit (by decide))) (by decide) ?_
      refine j_aload_n C dX12_init_390 rfl 1 rfl ?_
      refine j_iconst (v := (-1)) C dX12_init_391 (by decide) ?_
      refine j_puti (f := 1244) C flX12_136 (by decide) rfl rfl dX12_init_392 hm_358 hk_359 rfl ?_
      show J _ _ _ _ _ 395 _
      refine j_aload_n C dX12_init_395 rfl 1 rfl ?_
      refine j_iconst (v := (-1)) C dX12_init_396 (by decide) ?_
      refine j_puti (f := 1245) C flX12_140 (by decide) rfl rfl dX12_init_397 hm_358 hk_359 rfl ?_
      refine j_aload_n C dX12_init_400 rfl 1 rfl ?_
      have hf_396 : Fm (fun f9 b9 => (f9 = 1244 ∧ b9 = h) ∨ (f9 = 1245 ∧ b9 = h)) (fun f9 b9 => b9 = h) (fun _ => False) S (sI (sI (tI (tI (tI S_350 q_13 16 (vp_nar .boolean 1)) q_25 113 (720 : Int32)) q_25 114 (8 : Int32)) 1244 h (-1)) 1245 h (-1)) := (((((hf_392.tI _ _ (fun h9 => absurd h9 hz_252)).tI _ _ (fun h9 => absurd h9 hz_264)).tI _ _ (fun h9 => absurd h9 hz_264)).sI _ (fun _ => (Or.inl ⟨rfl, rfl⟩))).sI _ (fun _ => (Or.inr ⟨rfl, rfl⟩)))
      have hf_397 : Fm (fun f9 b9 => (f9 = 1244 ∧ b9 = h) ∨ (f9 = 1245 ∧ b9 = h)) (fun _ _ => False) (fun b9 => b9 = q_31 ∨ b9 = q_13 ∨ b9 = q_25 ∨ b9 = q_187 ∨ b9 = q_193) S_237 (sI (sI (tI (tI (tI S_350 q_13 16 (vp_nar .boolean 1)) q_25 113 (720 : Int32)) q_25 114 (8 : Int32)) 1244 h (-1)) 1245 h (-1)) := (((((hf_393.tI _ _ (fun _ => (Or.inr (Or.inl rfl)))).tI _ _ (fun _ => (Or.inr (Or.inr (Or.inl rfl))))).tI _ _ (fun _ => (Or.inr (Or.inr (Or.inl rfl))))).sI _ (fun _ => (Or.inl ⟨rfl, rfl⟩))).sI _ (fun _ => (Or.inr ⟨rfl, rfl⟩)))
      obtain ⟨S_394, eS_395⟩ : ∃ S9 : Hp, S9 = (sI (sI (tI (tI (tI S_350 q_13 16 (vp_nar .boolean 1)) q_25 113 (720 : Int32)) q_25 114 (8 : Int32)) 1244 h (-1)) 1245 h (-1)) := ⟨_, rfl⟩
      refine J.eq (S' := S_394) eS_395.symm rfl rfl ?_
      have hm_398 : h ∈ hL S_394 := by rw [eS_395]; exact hm_358
      have hk_399 : Kd S_394 h 12 := by rw [eS_395]; exact hk_359
      have hm_400 : q_115 ∈ hL S_394 := by rw [eS_395]; exact hm_360
      have hk_401 : Kd S_394 q_115 14 := by rw [eS_395]; exact hk_361
      have hn_402 : Ln S_394 q_115 7 := by rw [eS_395]; exact hn_362
      have hz_403 : ∀ j, aI S_394 q_115 j = 0 := by rw [eS_395]; exact (fun j9 => rd_tIa (S := (tI (tI S_350 q_13 16 (vp_nar .boolean 1)) q_25 113 (720 : Int32))) (Ne.symm ne_340) ((fun j9 => rd_tIa (S := (tI S_350 q_13 16 (vp_nar .boolean 1))) (Ne.symm ne_340) ((fun j9 => rd_tIa (S := S_350) (fun e9 => absurd ((hk_361).symm.trans ((congrArg (hK _) e9).trans hk_364)) (by decide)) (hz_355 j9)) j9)) j9))
      have hm_404 : q_13 ∈ hL S_394 := by rw [eS_395]; exact hm_363
      have hk_405 : Kd S_394 q_13 17 := by rw [eS_395]; exact hk_364
      have hn_406 : Ln S_394 q_13 17 := by rw [eS_395]; exact hn_365
      have hm_407 : q_187 ∈ hL S_394 := by rw [eS_395]; exact hm_366
      have hk_408 : Kd S_394 q_187 14 := by rw [eS_395]; exact hk_367
      have hn_409 : Ln S_394 q_187 148 := by rw [eS_395]; exact hn_368
      have hm_410 : q_193 ∈ hL S_394 := by rw [eS_395]; exact hm_369
      have hk_411 : Kd S_394 q_193 14 := by rw [eS_395]; exact hk_370
      have hn_412 : Ln S_394 q_193 148 := by rw [eS_395]; exact hn_371
      have hm_413 : q_25 ∈ hL S_394 := by rw [eS_395]; exact hm_372
      have hk_414 : Kd S_394 q_25 14 := by rw [eS_395]; exact hk_373
      have hn_415 : Ln S_394 q_25 119 := by rw [eS_395]; exact hn_374
      have hm_416 : q_31 ∈ hL S_394 := by rw [eS_395]; exact hm_375
      have hk_417 : Kd S_394 q_31 14 := by rw [eS_395]; exact hk_376
      have hn_418 : Ln S_394 q_31 4096 := by rw [eS_395]; exact hn_377
      have hm_419 : q_55 ∈ hL S_394 := by rw [eS_395]; exact hm_378
      have hk_420 : Kd S_394 q_55 17 := by rw [eS_395]; exact hk_379
      have hn_421 : Ln S_394 q_55 16 := by rw [eS_395]; exact hn_380
      have hz_422 : ∀ j, aI S_394 q_55 j = 0 := by rw [eS_395]; exact (fun j9 => rd_tIa (S := (tI (tI S_350 q_13 16 (vp_nar .boolean 1)) q_25 113 (720 : Int32))) (fun e9 => absurd ((hk_379).symm.trans ((congrArg (hK _) e9).trans hk_373)) (by decide)) ((fun j9 => rd_tIa (S := (tI S_350 q_13 16 (vp_nar .boolean 1))) (fun e9 => absurd ((hk_379).symm.trans ((congrArg (hK _) e9).trans hk_373)) (by decide)) ((fun j9 => rd_tIa (S := S_350) (Ne.symm ne_337) (hz_356 j9)) j9)) j9))
      have hm_423 : q_85 ∈ hL S_394 := by rw [eS_395]; exact hm_381
      have hk_424 : Kd S_394 q_85 17 := by rw [eS_395]; exact hk_382
      have hn_425 : Ln S_394 q_85 16 := by rw [eS_395]; exact hn_383
      have hz_426 : ∀ j, aI S_394 q_85 j = 0 := by rw [eS_395]; exact (fun j9 => rd_tIa (S := (tI (tI S_350 q_13 16 (vp_nar .boolean 1)) q_25 113 (720 : Int32))) (fun e9 => absurd ((hk_382).symm.trans ((congrArg (hK _) e9).trans hk_373)) (by decide)) ((fun j9 => rd_tIa (S := (tI S_350 q_13 16 (vp_nar .boolean 1))) (fun e9 => absurd ((hk_382).symm.trans ((congrArg (hK _) e9).trans hk_373)) (by decide)) ((fun j9 => rd_tIa (S := S_350) (Ne.symm ne_338) (hz_357 j9)) j9)) j9))
      have hv_427 : hI S_394 1244 h = (-1) := by rw [eS_395]; exact (rd_sIf (S := (sI (tI (tI (tI S_350 q_13 16 (vp_nar .boolean 1)) q_25 113 (720 : Int32)) q_25 114 (8 : Int32)) 1244 h (-1))) (g := 1245) (a := h) (v := (-1)) (by decide) (rd_sI (S := (tI (tI (tI S_350 q_13 16 (vp_nar .boolean 1)) q_25 113 (720 : Int32)) q_25 114 (8 : Int32))) (g := 1244) (a := h) (v := (-1))))
      have hv_428 : hI S_394 1245 h = (-1) := by rw [eS_395]; exact (rd_sI (S := (sI (tI (tI (tI S_350 q_13 16 (vp_nar .boolean 1)) q_25 113 (720 : Int32)) q_25 114 (8 : Int32)) 1244 h (-1))) (g := 1245) (a := h) (v := (-1)))
      have hv_429 : hR S_394 1202 h = (some q_13) := by rw [eS_395]; exact hv_384
      have hv_430 : hR S_394 1204 h = (some q_25) := by rw [eS_395]; exact hv_385
      have hv_431 : hR S_394 1205 h = (some q_31) := by rw [eS_395]; exact hv_386
      have hv_432 : hR S_394 1210 h = (some q_55) := by rw [eS_395]; exact hv_387
      have hv_433 : hR S_394 1215 h = (some q_85) := by rw [eS_395]; exact hv_388
      have hv_434 : hR S_394 1220 h = (some q_115) := by rw [eS_395]; exact hv_389
      have hv_435 : hR S_394 1256 h = (some q_187) := by rw [eS_395]; exact hv_390
      have hv_436 : hR S_394 1257 h = (some q_193) := by rw [eS_395]; exact hv_391
      have hf_437 : Fm (fun f9 b9 => (f9 = 1244 ∧ b9 = h) ∨ (f9 = 1245 ∧ b9 = h)) (fun f9 b9 => b9 = h) (fun _ => False) S S_394 := by rw [eS_395]; exact hf_396
      have hf_438 : Fm (fun f9 b9 => (f9 = 1244 ∧ b9 = h) ∨ (f9 = 1245 ∧ b9 = h)) (fun _ _ => False) (fun b9 => b9 = q_31 ∨ b9 = q_13 ∨ b9 = q_25 ∨ b9 = q_187 ∨ b9 = q_193) S_237 S_394 := by rw [eS_395]; exact hf_397
      refine j_callV (ci := 12) C [] [] mlX12_143 mcX12_readCodes (c_X12_readCodes S_394 h q_187 q_193 hm_398 hk_399 hv_435 hv_436 hm_407 hk_408 hn_409 hm_410 hk_411 hn_412) hm_398 hk_399 rfl (M.rm (by decide) (by decide) (Nat.le_of_ble_eq_true rfl) (Nat.le_of_ble_eq_true rfl)) rfl rfl (Nat.le_of_ble_eq_true rfl) dX12_init_401 (fun r_439 S_440 hp_441 => ?_)
      obtain ⟨rfl, hf_442⟩ := hp_441
      refine J.eq (st' := []) rfl rfl rfl ?_
      have hz_443 : ∀ j, aI S_440 q_115 j = 0 := fun j9 => (hf_442.ai hm_400 (fun h9 => h9.elim (fun q9 => ne_346 q9) (fun q9 => ne_347 q9)) j9).trans (hz_403 j9)
      have hz_444 : ∀ j, aI S_440 q_55 j = 0 := fun j9 => (hf_442.ai hm_419 (fun h9 => h9.elim (fun q9 => (fun e9 => absurd ((hk_420).symm.trans ((congrArg (hK _) e9).trans hk_408)) (by decide)) q9) (fun q9 => (fun e9 => absurd ((hk_420).symm.trans ((congrArg (hK _) e9).trans hk_411)) (by decide)) q9)) j9).trans (hz_422 j9)
      have hz_445 : ∀ j, aI S_440 q_85 j = 0 := fun j9 => (hf_442.ai hm_423 (fun h9 => h9.elim (fun q9 => (fun e9 => absurd ((hk_424).symm.trans ((congrArg (hK _) e9).trans hk_408)) (by decide)) q9) (fun q9 => (fun e9 => absurd ((hk_424).symm.trans ((congrArg (hK _) e9).trans hk_411)) (by decide)) q9)) j9).trans (hz_426 j9)
      have hm_446 : h ∈ hL S_440 := hf_442.mem hm_398
      have hk_447 : Kd S_440 h 12 := hf_442.kd hm_398 hk_399
      have hm_448 : q_115 ∈ hL S_440 := hf_442.mem hm_400
      have hk_449 : Kd S_440 q_115 14 := hf_442.kd hm_400 hk_401
      have hn_450 : Ln S_440 q_115 7 := hf_442.ln hm_400 hn_402
      have hm_451 : q_13 ∈ hL S_440 := hf_442.mem hm_404
      have hk_452 : Kd S_440 q_13 17 := hf_442.kd hm_404 hk_405
      have hn_453 : Ln S_440 q_13 17 := hf_442.ln hm_404 hn_406
      have hm_454 : q_187 ∈ hL S_440 := hf_442.mem hm_407
      have hk_455 : Kd S_440 q_187 14 := hf_442.kd hm_407 hk_408
      have hn_456 : Ln S_440 q_187 148 := hf_442.ln hm_407 hn_409
      have hm_457 : q_193 ∈ hL S_440 := hf_442.mem hm_410
      have hk_458 : Kd S_440 q_193 14 := hf_442.kd hm_410 hk_411
      have hn_459 : Ln S_440 q_193 148 := hf_442.ln hm_410 hn_412
      have hm_460 : q_25 ∈ hL S_440 := hf_442.mem hm_413
      have hk_461 : Kd S_440 q_25 14 := hf_442.kd hm_413 hk_414
      have hn_462 : Ln S_440 q_25 119 := hf_442.ln hm_413 hn_415
      have hm_463 : q_31 ∈ hL S_440 := hf_442.mem hm_416
      have hk_464 : Kd S_440 q_31 14 := hf_442.kd hm_416 hk_417
      have hn_465 : Ln S_440 q_31 4096 := hf_442.ln hm_416 hn_418
      have hm_466 : q_55 ∈ hL S_440 := hf_442.mem hm_419
      have hk_467 : Kd S_440 q_55 17 := hf_442.kd hm_419 hk_420
      have hn_468 : Ln S_440 q_55 16 := hf_442.ln hm_419 hn_421
      have hm_469 : q_85 ∈ hL S_440 := hf_442.mem hm_423
      have hk_470 : Kd S_440 q_85 17 := hf_442.kd hm_423 hk_424
      have hn_471 : Ln S_440 q_85 16 := hf_442.ln hm_423 hn_425
      have hv_472 : hI S_440 1244 h = (-1) := hf_442.fi hm_398 (fun h9 => h9) hv_427
      have hv_473 : hI S_440 1245 h = (-1) := hf_442.fi hm_398 (fun h9 => h9) hv_428
      have hv_474 : hR S_440 1202 h = (some q_13) := hf_442.fr hm_398 (fun h9 => h9) hv_429
      have hv_475 : hR S_440 1204 h = (some q_25) := hf_442.fr hm_398 (fun h9 => h9) hv_430
      have hv_476 : hR S_440 1205 h = (some q_31) := hf_442.fr hm_398 (fun h9 => h9) hv_431
      have hv_477 : hR S_440 1210 h = (some q_55) := hf_442.fr hm_398 (fun h9 => h9) hv_432
      have hv_478 : hR S_440 1215 h = (some q_85) := hf_442.fr hm_398 (fun h9 => h9) hv_433
      have hv_479 : hR S_440 1220 h = (some q_115) := hf_442.fr hm_398 (fun h9 => h9) hv_434
      have hv_480 : hR S_440 1256 h = (some q_187) := hf_442.fr hm_398 (fun h9 => h9) hv_435
      have hv_481 : hR S_440 1257 h = (some q_193) := hf_442.fr hm_398 (fun h9 => h9) hv_436
      have hf_482 : Fm (fun f9 b9 => (f9 = 1244 ∧ b9 = h) ∨ (f9 = 1245 ∧ b9 = h)) (fun f9 b9 => b9 = h) (fun _ => False) S S_440 := hf_437.then hf_442 (fun a9 ha9 => ⟨(fun f9 h9 => h9.elim), (fun f9 h9 => h9.elim), (fun h9 => (fun h9 => h9.elim (fun h8 => absurd (h8 ▸ ha9) hz_324) (fun h8 => absurd (h8 ▸ ha9) hz_336)) h9)⟩)
      have hf_483 : Fm (fun f9 b9 => (f9 = 1244 ∧ b9 = h) ∨ (f9 = 1245 ∧ b9 = h)) (fun _ _ => False) (fun b9 => b9 = q_31 ∨ b9 = q_13 ∨ b9 = q_25 ∨ b9 = q_187 ∨ b9 = q_193) S_237 S_440 := hf_438.then hf_442 (fun a9 ha9 => ⟨(fun f9 h9 => h9.elim), (fun f9 h9 => h9.elim), (fun h9 => (fun h9 => h9.elim (fun h8 => (Or.inr (Or.inr (Or.inr (Or.inl h8))))) (fun h8 => (Or.inr (Or.inr (Or.inr (Or.inr h8)))))) h9)⟩)
      have hWe : Wt sMK sMN sMP [] (fun i => (h :: [q_1, q_7, q_13, q_19, q_25, q_31, q_37, q_43, q_49, q_55, q_61, q_67, q_73, q_79, q_85, q_91, q_97, q_103, q_109, q_115, q_121, q_127, q_133, q_139, q_145, q_151, q_157, q_163, q_169, q_175, q_181, q_187, q_193, q_199, q_205, q_211, q_217, q_223, q_229, q_235] : List Nat).getD i 0) S_440 := Wt.fm hWI (by decide +kernel) (by decide +kernel) (fun _ h9 => absurd h9 List.not_mem_nil) hf_483 (fun _ _ h9 => h9) (fun _ h9 => absurd h9 List.not_mem_nil)
      have hNe : NL S [q_1, q_7, q_13, q_19, q_25, q_31, q_37, q_43, q_49, q_55, q_61, q_67, q_73, q_79, q_85, q_91, q_97, q_103, q_109, q_115, q_121, q_127, q_133, q_139, q_145, q_151, q_157, q_163, q_169, q_175, q_181, q_187, q_193, q_199, q_205, q_211, q_217, q_223, q_229, q_235] S_440 := NL.mono hNI (fun a9 h9 => hf_483.mem h9)
      exact j_vret C M dX12_init_404 (Nat.le_of_ble_eq_true rfl) (Nat.le_of_ble_eq_true rfl) ⟨rfl, hf_482, hv_472, hv_473, [q_1, q_7, q_13, q_19, q_25, q_31, q_37, q_43, q_49, q_55, q_61, q_67, q_73, q_79, q_85, q_91, q_97, q_103, q_109, q_115, q_121, q_127, q_133, q_139, q_145, q_151, q_157, q_163, q_169, q_175, q_181, q_187, q_193, q_199, q_205, q_211, q_217, q_223, q_229, q_235], hWe, rfl, hNe, hz_443, hz_444, hz_445⟩
    | succ m9 ih_352 =>
      intro j1 S_350  hi_354 hl_351 
      have hz_484 : ∀ j, aI S_350 q_115 j = 0 := fun j9 => (hl_351.ai e_310 (fun q9 => (Ne.symm ne_343) q9) j9).trans (e_311 j9)
      have hz_485 : ∀ j, aI S_350 q_55 j = 0 := fun j9 => (hl_351.ai e_286 (fun q9 => (fun e9 => absurd ((e_283).symm.trans ((congrArg (hK _) e9).trans e_271)) (by decide)) q9) j9).trans (e_287 j9)
      have hz_486 : ∀ j, aI S_350 q_85 j = 0 := fun j9 => (hl_351.ai e_298 (fun q9 => (fun e9 => absurd ((e_295).symm.trans ((congrArg (hK _) e9).trans e_271)) (by decide)) q9) j9).trans (e_299 j9)
      have hm_487 : h ∈ hL S_350 := hl_351.mem hm_239
      have hk_488 : Kd S_350 h 12 := hl_351.kd hm_239 hk_240
      have hm_489 : q_115 ∈ hL S_350 := hl_351.mem e_310
      have hk_490 : Kd S_350 q_115 14 := hl_351.kd e_310 e_307
      have hn_491 : Ln S_350 q_115 7 := hl_351.ln e_310 e_308
      have hm_492 : q_13 ∈ hL S_350 := hl_351.mem e_250
      have hk_493 : Kd S_350 q_13 17 := hl_351.kd e_250 e_247
      have hn_494 : Ln S_350 q_13 17 := hl_351.ln e_250 e_248
      have hm_495 : q_187 ∈ hL S_350 := hl_351.mem e_322
      have hk_496 : Kd S_350 q_187 14 := hl_351.kd e_322 e_319
      have hn_497 : Ln S_350 q_187 148 := hl_351.ln e_322 e_320
      have hm_498 : q_193 ∈ hL S_350 := hl_351.mem e_334
      have hk_499 : Kd S_350 q_193 14 := hl_351.kd e_334 e_331
      have hn_500 : Ln S_350 q_193 148 := hl_351.ln e_334 e_332
      have hm_501 : q_25 ∈ hL S_350 := hl_351.mem e_262
      have hk_502 : Kd S_350 q_25 14 := hl_351.kd e_262 e_259
      have hn_503 : Ln S_350 q_25 119 := hl_351.ln e_262 e_260
      have hm_504 : q_31 ∈ hL S_350 := hl_351.mem e_274
      have hk_505 : Kd S_350 q_31 14 := hl_351.kd e_274 e_271
      have hn_506 : Ln S_350 q_31 4096 := hl_351.ln e_274 e_272
      have hm_507 : q_55 ∈ hL S_350 := hl_351.mem e_286
      have hk_508 : Kd S_350 q_55 17 := hl_351.kd e_286 e_283
      have hn_509 : Ln S_350 q_55 16 := hl_351.ln e_286 e_284
      have hm_510 : q_85 ∈ hL S_350 := hl_351.mem e_298
      have hk_511 : Kd S_350 q_85 17 := hl_351.kd e_298 e_295
      have hn_512 : Ln S_350 q_85 16 := hl_351.ln e_298 e_296
      have hv_513 : hR S_350 1202 h = (some q_13) := hl_351.fr hm_239 (fun h9 => h9) e_249
      have hv_514 : hR S_350 1204 h = (some q_25) := hl_351.fr hm_239 (fun h9 => h9) e_261
      have hv_515 : hR S_350 1205 h = (some q_31) := hl_351.fr hm_239 (fun h9 => h9) e_273
      have hv_516 : hR S_350 1210 h = (some q_55) := hl_351.fr hm_239 (fun h9 => h9) e_285
      have hv_517 : hR S_350 1215 h = (some q_85) := hl_351.fr hm_239 (fun h9 => h9) e_297
      have hv_518 : hR S_350 1220 h = (some q_115) := hl_351.fr hm_239 (fun h9 => h9) e_309
      have hv_519 : hR S_350 1256 h = (some q_187) := hl_351.fr hm_239 (fun h9 => h9) e_321
      have hv_520 : hR S_350 1257 h = (some q_193) := hl_351.fr hm_239 (fun h9 => h9) e_333
      have hf_521 : Fm (fun f9 b9 => (f9 = 1244 ∧ b9 = h) ∨ (f9 = 1245 ∧ b9 = h)) (fun f9 b9 => b9 = h) (fun _ => False) S S_350 := hfW.then hl_351 (fun a9 ha9 => ⟨(fun f9 h9 => h9.elim), (fun f9 h9 => h9.elim), (fun h9 => (fun h8 => absurd (h8 ▸ ha9) hz_276) h9)⟩)
      have hf_522 : Fm (fun f9 b9 => (f9 = 1244 ∧ b9 = h) ∨ (f9 = 1245 ∧ b9 = h)) (fun _ _ => False) (fun b9 => b9 = q_31 ∨ b9 = q_13 ∨ b9 = q_25 ∨ b9 = q_187 ∨ b9 = q_193) S_237 S_350 := (Fm.refl (WI := (fun f9 b9 => (f9 = 1244 ∧ b9 = h) ∨ (f9 = 1245 ∧ b9 = h))) (WR := (fun _ _ => False)) (WA := (fun b9 => b9 = q_31 ∨ b9 = q_13 ∨ b9 = q_25 ∨ b9 = q_187 ∨ b9 = q_193))).then hl_351 (fun a9 ha9 => ⟨(fun f9 h9 => h9.elim), (fun f9 h9 => h9.elim), (fun h9 => (fun h8 => (Or.inl h8)) h9)⟩)
      refine j_iload_n C dX12_init_343 rfl 0 rfl ?_
      refine j_sipush (v := 4096) C dX12_init_344 (by decide) ?_
      refine j_ic_ge (tgt := 363) C dX12_init_347 (by decide) (fun c_347 => absurd c_347 (nI_ge (b := 4096) (by omega) (by omega))) (fun c_347 => ?_)
      refine j_aload_n C dX12_init_350 rfl 1 rfl ?_
      show J _ _ _ _ _ 351 _
      refine j_getr (f := 1205) (v := q_31) C flX12_26 dX12_init_351 hm_487 hk_488 (by decide) rfl hv_515 ?_
      refine j_iload_n C dX12_init_354 rfl 0 rfl ?_
      refine j_iconst (v := (-1)) C dX12_init_355 (by decide) ?_
      refine j_iast (j := j1) C dX12_init_356 hm_504 hk_505 (inr_of (n := 4096) hn_506 (vp_in_nI (by omega) (by omega))) (nI_clamp (by omega)) ?_
      refine j_iinc (q := 0) (v := nI (j1 + 1)) (lv' := [(1, .int (nI (j1 + 1))), (0, .ref h)]) C dX12_init_357 rfl (nI_add j1 1) (by rw [hn9]; decide) rfl ?_
      refine j_goto (tgt := 343) C dX12_init_360 (by decide) ?_
      refine J.sub [0, 1] (lv' := [(1, .int (nI (j1 + 1))), (0, .ref h)]) (by rfl) ?_
      exact ih_352 (j1 + 1) _  (by omega) (hl_351.tI _ _ (fun _ => rfl)) 
  refine J.sub [0, 1] (lv' := [(1, .int (nI 0)), (0, .ref h)]) (by rfl) ?_
  exact loop_353 4096 0 _  (by omega) Fm.refl 
