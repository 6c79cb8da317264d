theorem rxI_sJ {S : Hp} {f a : Nat} {v : Int32} {g b : Nat} {u : Int64} (h : hI S f a = v) : hI (sJ S g b u) f a = v := h
theorem rxI_sR {S : Hp} {f a : Nat} {v : Int32} {g b : Nat} {u : Option Nat} (h : hI S f a = v) : hI (sR S g b u) f a = v := h
theorem rxI_tI {S : Hp} {f a : Nat} {v : Int32} {b j : Nat} {u : Int32} (h : hI S f a = v) : hI (tI S b j u) f a = v := h
theorem rxI_tJ {S : Hp} {f a : Nat} {v : Int32} {b j : Nat} {u : Int64} (h : hI S f a = v) : hI (tJ S b j u) f a = v := h
theorem rxI_rI {S : Hp} {f a : Nat} {v : Int32} {b : Nat} {u : Nat → Int32} (h : hI S f a = v) : hI (rI S b u) f a = v := h
theorem rxJ_sI {S : Hp} {f a : Nat} {v : Int64} {g b : Nat} {u : Int32} (h : hJ S f a = v) : hJ (sI S g b u) f a = v := h
theorem rxJ_sR {S : Hp} {f a : Nat} {v : Int64} {g b : Nat} {u : Option Nat} (h : hJ S f a = v) : hJ (sR S g b u) f a = v := h
theorem rxJ_tI {S : Hp} {f a : Nat} {v : Int64} {b j : Nat} {u : Int32} (h : hJ S f a = v) : hJ (tI S b j u) f a = v := h
theorem rxJ_tJ {S : Hp} {f a : Nat} {v : Int64} {b j : Nat} {u : Int64} (h : hJ S f a = v) : hJ (tJ S b j u) f a = v := h
theorem rxJ_rI {S : Hp} {f a : Nat} {v : Int64} {b : Nat} {u : Nat → Int32} (h : hJ S f a = v) : hJ (rI S b u) f a = v := h
theorem rxR_sI {S : Hp} {f a : Nat} {v : Option Nat} {g b : Nat} {u : Int32} (h : hR S f a = v) : hR (sI S g b u) f a = v := h
theorem rxR_sJ {S : Hp} {f a : Nat} {v : Option Nat} {g b : Nat} {u : Int64} (h : hR S f a = v) : hR (sJ S g b u) f a = v := h
theorem rxR_tI {S : Hp} {f a : Nat} {v : Option Nat} {b j : Nat} {u : Int32} (h : hR S f a = v) : hR (tI S b j u) f a = v := h
theorem rxR_tJ {S : Hp} {f a : Nat} {v : Option Nat} {b j : Nat} {u : Int64} (h : hR S f a = v) : hR (tJ S b j u) f a = v := h
theorem rxR_rI {S : Hp} {f a : Nat} {v : Option Nat} {b : Nat} {u : Nat → Int32} (h : hR S f a = v) : hR (rI S b u) f a = v := h
/-- a box: x, y, opaque, wide, high, shade, kind -/
abbrev Bx := Nat × Nat × Bool × Nat × Nat × Nat × Nat
def num (v : Nat) : List Nat := if v < 10 then [48 + v] else [48 + v / 10, 48 + v % 10]
def bN (c : Bool) : Nat := if c = true then 1 else 0
/-- the bytes that tell a box -/
def boxL (b : Bx) : List Nat := [27, 42, 112] ++ (num b.1 ++ [120] ++ (num b.2.1 ++ [89] ++ ([27, 42, 118] ++ ([48 + bN b.2.2.1, 79] ++ ([27, 42, 99] ++ (num b.2.2.2.1 ++ [97] ++ (num b.2.2.2.2.1 ++ [98] ++ (num b.2.2.2.2.2.1 ++ [103] ++ [48 + b.2.2.2.2.2.2, 80]))))))))
def boxsL (bs : List Bx) : List Nat := bs.flatMap boxL
def jobL (bs : List Bx) : List Nat := [27, 38, 108, 48, 65] ++ boxsL bs
def boxO (P : Nat → Nat → Bool) (b : Bx) : Nat → Nat → Bool := boxP b.2.2.2.2.2.2 b.2.2.2.2.2.1 b.2.2.1 b.1 b.2.1 b.2.2.2.1 b.2.2.2.2.1 P
def boxsO (P : Nat → Nat → Bool) (bs : List Bx) : Nat → Nat → Bool := bs.foldl boxO P
def okB (b : Bx) : Prop := b.1 < 64 ∧ b.2.1 < 64 ∧ (1 ≤ b.2.2.2.1 ∧ b.2.2.2.1 ≤ 32) ∧ (1 ≤ b.2.2.2.2.1 ∧ b.2.2.2.2.1 ≤ 32) ∧ (1 ≤ b.2.2.2.2.2.1 ∧ b.2.2.2.2.2.1 ≤ 64) ∧ b.2.2.2.2.2.2 < 3
def Has (B : Nat → Nat) (p : Nat) (L : List Nat) : Prop := ∀ i v, L[i]? = some v → B (p + i) = v
theorem has_l {B : Nat → Nat} {p : Nat} {L M9 : List Nat} (h : Has B p (L ++ M9)) : Has B p L := fun i v e => h i v (by
  have hi : i < L.length := (List.getElem?_eq_some_iff.1 e).1
  rw [List.getElem?_append_left hi]; exact e)
theorem has_r {B : Nat → Nat} {p : Nat} {L M9 : List Nat} (h : Has B p (L ++ M9)) : Has B (p + L.length) M9 := fun i v e => by
  rw [Nat.add_assoc]; exact h _ v (by rw [List.getElem?_append_right (Nat.le_add_right _ _), Nat.add_sub_cancel_left]; exact e)
theorem num1 {v : Nat} (h : v < 10) : num v = [48 + v] := if_pos h
theorem num2 {v : Nat} (h : ¬ v < 10) : num v = [48 + v / 10, 48 + v % 10] := if_neg h
theorem num_len (v : Nat) : 1 ≤ (num v).length ∧ (num v).length ≤ 2 := by by_cases h : v < 10 <;> simp [num, h]
theorem boxL_len (b : Bx) : (boxL b).length = 9 + (num b.1).length + 1 + (num b.2.1).length + 1 + 2 + (num b.2.2.2.1).length + 1 + (num b.2.2.2.2.1).length + 1 + (num b.2.2.2.2.2.1).length + 1 + 2 := by simp [boxL]; omega

theorem tn_px {x : JX} {Q : Option Value → Hp → Prop} {S0 : Hp} (C : CB x RX9 cX9_goThrough) (M : CM x 8 0 0 none S0 Q) (hn9 : x_n x = 7) (ad : Nat → Nat) (S : Hp) (B : Nat → Nat) (tu : Nat) (n : Nat) (p9 : Nat) (xu : Nat) (yu : Nat) (po : Bool) (bw : Nat) (bh : Nat) (pn : Nat) (mk : Nat) (cv : Nat) (P : Nat → Nat → Bool) (v9 : Nat) (hv : v9 < 100) (hB : Has B p9 (num v9 ++ [120])) (hp : p9 + (num v9).length < n) (h9 : RS ad S0 S B n p9 42 112 0 xu yu po bw bh pn mk cv P) (hn : n ≤ 12000) (htu : tu < 900000) (K : ∀ S' : Hp, RS ad S0 S' B n (p9 + (num v9).length + 1) 42 112 0 (v9 * 96) yu po bw bh pn mk cv P → J x 0 0 S' [(0, .ref (ad 6)), (1, .ref (ad 2)), (2, .int 0), (3, .int (nI n)), (4, .ref (ad 35)), (5, .int (nI (tu + 1)))] 60 []) : J x 0 0 S [(0, .ref (ad 6)), (1, .ref (ad 2)), (2, .int 0), (3, .int (nI n)), (4, .ref (ad 35)), (5, .int (nI tu))] 60 [] := by
  by_cases h : v9 < 10
  · rw [num1 h] at hB hp K
    exact tn_px1 C M hn9 ad S B tu n p9 xu yu po bw bh pn mk cv P v9 (hB 0 _ rfl) h (hB 1 _ rfl) hp h9 hn htu K
  · rw [num2 h] at hB hp K
    exact tn_px2 C M hn9 ad S B tu n p9 xu yu po bw bh pn mk cv P v9 (hB 0 _ rfl) (hB 1 _ rfl) hv (hB 2 _ rfl) hp h9 hn htu K

theorem tn_pY {x : JX} {Q : Option Value → Hp → Prop} {S0 : Hp} (C : CB x RX9 cX9_goThrough) (M : CM x 8 0 0 none S0 Q) (hn9 : x_n x = 7) (ad : Nat → Nat) (S : Hp) (B : Nat → Nat) (tu : Nat) (n : Nat) (p9 : Nat) (xu : Nat) (yu : Nat) (po : Bool) (bw : Nat) (bh : Nat) (pn : Nat) (mk : Nat) (cv : Nat) (P : Nat → Nat → Bool) (v9 : Nat) (hv : v9 < 100) (hB : Has B p9 (num v9 ++ [89])) (hp : p9 + (num v9).length < n) (h9 : RS ad S0 S B n p9 42 112 0 xu yu po bw bh pn mk cv P) (hn : n ≤ 12000) (htu : tu < 900000) (K : ∀ S' : Hp, RS ad S0 S' B n (p9 + (num v9).length + 1) 0 112 0 xu (v9 * 96) po bw bh pn mk cv P → J x 0 0 S' [(0, .ref (ad 6)), (1, .ref (ad 2)), (2, .int 0), (3, .int (nI n)), (4, .ref (ad 35)), (5, .int (nI (tu + 1)))] 60 []) : J x 0 0 S [(0, .ref (ad 6)), (1, .ref (ad 2)), (2, .int 0), (3, .int (nI n)), (4, .ref (ad 35)), (5, .int (nI tu))] 60 [] := by
  by_cases h : v9 < 10
  · rw [num1 h] at hB hp K
    exact tn_pY1 C M hn9 ad S B tu n p9 xu yu po bw bh pn mk cv P v9 (hB 0 _ rfl) h (hB 1 _ rfl) hp h9 hn htu K
  · rw [num2 h] at hB hp K
    exact tn_pY2 C M hn9 ad S B tu n p9 xu yu po bw bh pn mk cv P v9 (hB 0 _ rfl) (hB 1 _ rfl) hv (hB 2 _ rfl) hp h9 hn htu K

theorem tn_ca {x : JX} {Q : Option Value → Hp → Prop} {S0 : Hp} (C : CB x RX9 cX9_goThrough) (M : CM x 8 0 0 none S0 Q) (hn9 : x_n x = 7) (ad : Nat → Nat) (S : Hp) (B : Nat → Nat) (tu : Nat) (n : Nat) (p9 : Nat) (xu : Nat) (yu : Nat) (po : Bool) (bw : Nat) (bh : Nat) (pn : Nat) (mk : Nat) (cv : Nat) (P : Nat → Nat → Bool) (v9 : Nat) (hv : v9 < 100) (hB : Has B p9 (num v9 ++ [97])) (hp : p9 + (num v9).length < n) (h9 : RS ad S0 S B n p9 42 99 0 xu yu po bw bh pn mk cv P) (hn : n ≤ 12000) (htu : tu < 900000) (K : ∀ S' : Hp, RS ad S0 S' B n (p9 + (num v9).length + 1) 42 99 0 xu yu po v9 bh pn mk cv P → J x 0 0 S' [(0, .ref (ad 6)), (1, .ref (ad 2)), (2, .int 0), (3, .int (nI n)), (4, .ref (ad 35)), (5, .int (nI (tu + 1)))] 60 []) : J x 0 0 S [(0, .ref (ad 6)), (1, .ref (ad 2)), (2, .int 0), (3, .int (nI n)), (4, .ref (ad 35)), (5, .int (nI tu))] 60 [] := by
  by_cases h : v9 < 10
  · rw [num1 h] at hB hp K
    exact tn_ca1 C M hn9 ad S B tu n p9 xu yu po bw bh pn mk cv P v9 (hB 0 _ rfl) h (hB 1 _ rfl) hp h9 hn htu K
  · rw [num2 h] at hB hp K
    exact tn_ca2 C M hn9 ad S B tu n p9 xu yu po bw bh pn mk cv P v9 (hB 0 _ rfl) (hB 1 _ rfl) hv (hB 2 _ rfl) hp h9 hn htu K

theorem tn_cb {x : JX} {Q : Option Value → Hp → Prop} {S0 : Hp} (C : CB x RX9 cX9_goThrough) (M : CM x 8 0 0 none S0 Q) (hn9 : x_n x = 7) (ad : Nat → Nat) (S : Hp) (B : Nat → Nat) (tu : Nat) (n : Nat) (p9 : Nat) (xu : Nat) (yu : Nat) (po : Bool) (bw : Nat) (bh : Nat) (pn : Nat) (mk : Nat) (cv : Nat) (P : Nat → Nat → Bool) (v9 : Nat) (hv : v9 < 100) (hB : Has B p9 (num v9 ++ [98])) (hp : p9 + (num v9).length < n) (h9 : RS ad S0 S B n p9 42 99 0 xu yu po bw bh pn mk cv P) (hn : n ≤ 12000) (htu : tu < 900000) (K : ∀ S' : Hp, RS ad S0 S' B n (p9 + (num v9).length + 1) 42 99 0 xu yu po bw v9 pn mk cv P → J x 0 0 S' [(0, .ref (ad 6)), (1, .ref (ad 2)), (2, .int 0), (3, .int (nI n)), (4, .ref (ad 35)), (5, .int (nI (tu + 1)))] 60 []) : J x 0 0 S [(0, .ref (ad 6)), (1, .ref (ad 2)), (2, .int 0), (3, .int (nI n)), (4, .ref (ad 35)), (5, .int (nI tu))] 60 [] := by
  by_cases h : v9 < 10
  · rw [num1 h] at hB hp K
    exact tn_cb1 C M hn9 ad S B tu n p9 xu yu po bw bh pn mk cv P v9 (hB 0 _ rfl) h (hB 1 _ rfl) hp h9 hn htu K
  · rw [num2 h] at hB hp K
    exact tn_cb2 C M hn9 ad S B tu n p9 xu yu po bw bh pn mk cv P v9 (hB 0 _ rfl) (hB 1 _ rfl) hv (hB 2 _ rfl) hp h9 hn htu K

theorem tn_cg {x : JX} {Q : Option Value → Hp → Prop} {S0 : Hp} (C : CB x RX9 cX9_goThrough) (M : CM x 8 0 0 none S0 Q) (hn9 : x_n x = 7) (ad : Nat → Nat) (S : Hp) (B : Nat → Nat) (tu : Nat) (n : Nat) (p9 : Nat) (xu : Nat) (yu : Nat) (po : Bool) (bw : Nat) (bh : Nat) (pn : Nat) (mk : Nat) (cv : Nat) (P : Nat → Nat → Bool) (v9 : Nat) (hv : v9 < 100) (hB : Has B p9 (num v9 ++ [103])) (hp : p9 + (num v9).length < n) (h9 : RS ad S0 S B n p9 42 99 0 xu yu po bw bh pn mk cv P) (hn : n ≤ 12000) (htu : tu < 900000) (K : ∀ S' : Hp, RS ad S0 S' B n (p9 + (num v9).length + 1) 42 99 0 xu yu po bw bh v9 mk cv P → J x 0 0 S' [(0, .ref (ad 6)), (1, .ref (ad 2)), (2, .int 0), (3, .int (nI n)), (4, .ref (ad 35)), (5, .int (nI (tu + 1)))] 60 []) : J x 0 0 S [(0, .ref (ad 6)), (1, .ref (ad 2)), (2, .int 0), (3, .int (nI n)), (4, .ref (ad 35)), (5, .int (nI tu))] 60 [] := by
  by_cases h : v9 < 10
  · rw [num1 h] at hB hp K
    exact tn_cg1 C M hn9 ad S B tu n p9 xu yu po bw bh pn mk cv P v9 (hB 0 _ rfl) h (hB 1 _ rfl) hp h9 hn htu K
  · rw [num2 h] at hB hp K
    exact tn_cg2 C M hn9 ad S B tu n p9 xu yu po bw bh pn mk cv P v9 (hB 0 _ rfl) (hB 1 _ rfl) hv (hB 2 _ rfl) hp h9 hn htu K

theorem nlit : nI 42 = 42 ∧ nI 38 = 38 ∧ nI 112 = 112 ∧ nI 118 = 118 ∧ nI 99 = 99 ∧ nI 108 = 108 := by decide
set_option maxRecDepth 100000 in
set_option maxHeartbeats 4000000 in
theorem bx_J {x : JX} {Q : Option Value → Hp → Prop} {S0 : Hp} (C : CB x RX9 cX9_goThrough) (M : CM x 8 0 0 none S0 Q) (hn9 : x_n x = 7) (ad : Nat → Nat) (S : Hp) (B : Nat → Nat) (tu : Nat) (n : Nat) (p9 : Nat) (gp : Int32) (xu : Nat) (yu : Nat) (po : Bool) (bw : Nat) (bh : Nat) (pn : Nat) (mk : Nat) (cv : Nat) (P : Nat → Nat → Bool) (b : Bx) (hb : okB b) (hB : Has B p9 (boxL b)) (hp : p9 + (boxL b).length ≤ n) (hm : mk < 2000) (hc : cv + 1024 ≤ 5000000) (h9 : RS ad S0 S B n p9 0 gp 0 xu yu po bw bh pn mk cv P) (hn : n ≤ 12000) (htu : tu < 800000) (K : ∀ S' : Hp, RS ad S0 S' B n (p9 + (boxL b).length) 0 99 0 (b.1 * 96) (b.2.1 * 96) b.2.2.1 b.2.2.2.1 b.2.2.2.2.1 b.2.2.2.2.2.1 (mk + 1) (cv + b.2.2.2.1 * b.2.2.2.2.1) (boxO P b) → J x 0 0 S' [(0, .ref (ad 6)), (1, .ref (ad 2)), (2, .int 0), (3, .int (nI n)), (4, .ref (ad 35)), (5, .int (nI (tu + 10)))] 60 []) : J x 0 0 S [(0, .ref (ad 6)), (1, .ref (ad 2)), (2, .int 0), (3, .int (nI n)), (4, .ref (ad 35)), (5, .int (nI tu))] 60 [] := by
  obtain ⟨x9, y9, o9, w9, g9, s9, k9⟩ := b
  obtain ⟨b1, b2, b3, b4, b5, b6⟩ := hb
  have hl := boxL_len (x9, y9, o9, w9, g9, s9, k9)
  have hK : p9 + (boxL (x9, y9, o9, w9, g9, s9, k9)).length = p9 + 3 + (num x9).length + 1 + (num y9).length + 1 + 3 + 2 + 3 + (num w9).length + 1 + (num g9).length + 1 + (num s9).length + 1 + 2 := by rw [hl]; show _ + (9 + (num x9).length + 1 + (num y9).length + 1 + 2 + (num w9).length + 1 + (num g9).length + 1 + (num s9).length + 1 + 2) = _; omega
  rw [hK] at hp K
  unfold boxL at hB
  dsimp only at hB
  have hB0 := has_l hB
  replace hB := has_r hB
  have hB1 := has_l hB
  replace hB := has_r hB
  have hB2 := has_l hB
  replace hB := has_r hB
  have hB3 := has_l hB
  replace hB := has_r hB
  have hB4 := has_l hB
  replace hB := has_r hB
  have hB5 := has_l hB
  replace hB := has_r hB
  have hB6 := has_l hB
  replace hB := has_r hB
  have hB7 := has_l hB
  replace hB := has_r hB
  have hB8 := has_l hB
  have hB9 := has_r hB
  simp only [List.length_append, List.length_cons, List.length_nil, Nat.zero_add, Nat.reduceAdd, ← Nat.add_assoc] at hB0 hB1 hB2 hB3 hB4 hB5 hB6 hB7 hB8 hB9
  dsimp only at b1 b2 b3 b4 b5 b6
  have e96 : ∀ z9 : Nat, z9 * 96 / 96 = z9 := fun z9 => Nat.mul_div_cancel _ (by decide)
  have hwg : w9 * g9 ≤ 32 * 32 := Nat.mul_le_mul b3.2 b4.2
  refine tn_esc C M hn9 ad S B tu n p9 gp 0 xu yu po bw bh pn mk cv P 42 112 (hB0 0 _ rfl) (hB0 1 _ rfl) (hB0 2 _ rfl) (by decide) (by decide) (by omega) h9 hn (by omega) fun S1 h1 => ?_
  rw [nlit.1, nlit.2.2.1] at h1
  refine tn_px C M hn9 ad S1 B (tu + 1) n _ xu yu po bw bh pn mk cv P x9 (by omega) hB1 (by omega) h1 hn (by omega) fun S2 h2 => ?_
  refine tn_pY C M hn9 ad S2 B (tu + 2) n _ _ yu po bw bh pn mk cv P y9 (by omega) hB2 (by omega) h2 hn (by omega) fun S3 h3 => ?_
  refine tn_esc C M hn9 ad S3 B (tu + 3) n _ _ 0 _ _ po bw bh pn mk cv P 42 118 (hB3 0 _ rfl) (hB3 1 _ rfl) (hB3 2 _ rfl) (by decide) (by decide) (by omega) h3 hn (by omega) fun S4 h4 => ?_
  rw [nlit.1, nlit.2.2.2.1] at h4
  refine tn_vO C M hn9 ad S4 B (tu + 4) n _ _ _ po bw bh pn mk cv P (bN o9) (hB4 0 _ rfl) (by cases o9 <;> decide) (hB4 1 _ rfl) (by omega) o9 (by cases o9 <;> rfl) h4 hn (by omega) fun S5 h5 => ?_
  refine tn_esc C M hn9 ad S5 B (tu + 5) n _ _ 0 _ _ _ bw bh pn mk cv P 42 99 (hB5 0 _ rfl) (hB5 1 _ rfl) (hB5 2 _ rfl) (by decide) (by decide) (by omega) h5 hn (by omega) fun S6 h6 => ?_
  rw [nlit.1, nlit.2.2.2.2.1] at h6
  refine tn_ca C M hn9 ad S6 B (tu + 6) n _ _ _ _ bw bh pn mk cv P w9 (by omega) hB6 (by omega) h6 hn (by omega) fun S7 h7 => ?_
  refine tn_cb C M hn9 ad S7 B (tu + 7) n _ _ _ _ _ bh pn mk cv P g9 (by omega) hB7 (by omega) h7 hn (by omega) fun S8 h8 => ?_
  refine tn_cg C M hn9 ad S8 B (tu + 8) n _ _ _ _ _ _ pn mk cv P s9 (by omega) hB8 (by omega) h8 hn (by omega) fun S9 h9' => ?_
  rcases (show k9 = 0 ∨ k9 = 1 ∨ k9 = 2 by omega) with rfl | rfl | rfl
  · refine tn_cP0 C M hn9 ad S9 B (tu + 9) n _ _ _ _ _ _ _ mk cv P (hB9 0 _ rfl) (hB9 1 _ rfl) (by omega) b5.1 (by omega) (by rw [e96]; omega) (by rw [e96]; omega) (by omega) (by omega) (by omega) hm (by omega) (by omega) h9' hn (by omega) fun S10 h10 => ?_
    rw [e96, e96] at h10; exact K S10 h10
  · refine tn_cP1 C M hn9 ad S9 B (tu + 9) n _ _ _ _ _ _ _ mk cv P (hB9 0 _ rfl) (hB9 1 _ rfl) (by omega) b5.1 (by omega) (by rw [e96]; omega) (by rw [e96]; omega) (by omega) (by omega) (by omega) hm (by omega) (by omega) h9' hn (by omega) fun S10 h10 => ?_
    rw [e96, e96] at h10; exact K S10 h10
  · refine tn_cP2 C M hn9 ad S9 B (tu + 9) n _ _ _ _ _ _ _ mk cv P (hB9 0 _ rfl) (hB9 1 _ rfl) (by omega) b5.1 (by omega) (by rw [e96]; omega) (by rw [e96]; omega) (by omega) (by omega) (by omega) hm (by omega) (by omega) h9' hn (by omega) fun S10 h10 => ?_
    rw [e96, e96] at h10; exact K S10 h10

set_option maxRecDepth 100000 in
set_option maxHeartbeats 4000000 in
theorem bxs_J {x : JX} {Q : Option Value → Hp → Prop} {S0 : Hp} (C : CB x RX9 cX9_goThrough) (M : CM x 8 0 0 none S0 Q) (hn9 : x_n x = 7) (ad : Nat → Nat) (S : Hp) (B : Nat → Nat) (tu : Nat) (n p9 : Nat) (gp : Int32) (xu yu : Nat) (po : Bool) (bw bh pn mk cv : Nat) (P : Nat → Nat → Bool) (bs : List Bx) (hb : ∀ b ∈ bs, okB b) (hB : Has B p9 (boxsL bs)) (hp : p9 + (boxsL bs).length = n) (hm : mk + bs.length ≤ 2000) (hc : cv + 1024 * bs.length ≤ 5000000) (h9 : RS ad S0 S B n p9 0 gp 0 xu yu po bw bh pn mk cv P) (hn : n ≤ 12000) (htu : tu + 10 * bs.length < 800000) (K : ∀ (S' : Hp) (t9 : Nat) (gp : Int32) (xu : Nat) (yu : Nat) (po : Bool) (bw : Nat) (bh : Nat) (pn : Nat) (cv : Nat), t9 < 900000 → RS ad S0 S' B n n 0 gp 0 xu yu po bw bh pn (mk + bs.length) cv (boxsO P bs) → J x 0 0 S' [(0, .ref (ad 6)), (1, .ref (ad 2)), (2, .int 0), (3, .int (nI n)), (4, .ref (ad 35)), (5, .int (nI t9))] 60 []) : J x 0 0 S [(0, .ref (ad 6)), (1, .ref (ad 2)), (2, .int 0), (3, .int (nI n)), (4, .ref (ad 35)), (5, .int (nI tu))] 60 [] := by
  induction bs generalizing tu S p9 gp xu yu po bw bh pn mk cv P with
  | nil =>
    have e : p9 = n := hp
    subst e
    exact K S tu gp xu yu po bw bh pn cv (by simp at htu; omega) h9
  | cons b bs ih =>
    have hl : (boxsL (b :: bs)).length = (boxL b).length + (boxsL bs).length := by simp [boxsL]
    have hB' : Has B p9 (boxL b ++ boxsL bs) := hB
    rw [List.length_cons] at hm hc htu
    have hbb := hb b List.mem_cons_self
    have hwg : b.2.2.2.1 * b.2.2.2.2.1 ≤ 32 * 32 := Nat.mul_le_mul hbb.2.2.1.2 hbb.2.2.2.1.2
    refine bx_J C M hn9 ad S B tu n p9 gp xu yu po bw bh pn mk cv P b hbb (has_l hB') (by omega) (by omega) (by omega) h9 hn (by omega) fun S1 h1 => ?_
    refine ih S1 (tu + 10) _ _ _ _ _ _ _ _ (mk + 1) _ (boxO P b) (fun c hc9 => hb c (List.mem_cons_of_mem _ hc9)) (has_r hB') (by omega) (by omega) (by omega) h1 (by omega) fun S2 t9 gp xu yu po bw bh pn cv ht h2 => K S2 t9 gp xu yu po bw bh pn cv ht ?_
    rw [List.length_cons, show mk + (bs.length + 1) = mk + 1 + bs.length by omega]; exact h2

set_option maxRecDepth 100000 in
set_option maxHeartbeats 4000000 in
theorem tn_end {x : JX} {Q : Option Value → Hp → Prop} {S0 : Hp} (C : CB x RX9 cX9_goThrough) (M : CM x 8 0 0 none S0 Q) (hn9 : x_n x = 7) (ad : Nat → Nat) (S : Hp) (B : Nat → Nat) (tu : Nat) (n : Nat) (kd : Int32) (gp : Int32) (fm : Int32) (xu : Nat) (yu : Nat) (po : Bool) (bw : Nat) (bh : Nat) (pn : Nat) (mk : Nat) (cv : Nat) (P : Nat → Nat → Bool) (h9 : RS ad S0 S B n n kd gp fm xu yu po bw bh pn mk cv P) (hn : n ≤ 12000) (htu : tu < 900000) (hq : Q none S) : J x 0 0 S [(0, .ref (ad 6)), (1, .ref (ad 2)), (2, .int 0), (3, .int (nI n)), (4, .ref (ad 35)), (5, .int (nI tu))] 60 [] := by
  obtain ⟨hW, hF, hs, hR913, hR500, hi502_35, hi501_35, hi916_6, hi503_35, hi504_35, hi914_6, hi915_6, hi5_12, hi603_5, hi2_12, hi3_12, hi4_12, hi700_27, hi701_27, hi706_27, hi707_27, hi708_27, hi105_26, hi106_26, hi110_26, hi111_26, hi112_26, hi113_26, hi114_26, hi115_26, hi118_26, hi120_26, hcv⟩ := h9
  refine j_iload C dX9_goThrough_60 5 rfl ?_
  refine j_ldc (v := 1000000) C dX9_goThrough_62 kcX9_210 ?_
  refine j_ic_ge (tgt := 145) C dX9_goThrough_64 (by decide) (fun c_64 => absurd c_64 (nI_ge (b := 1000000) (by omega) (by decide))) (fun c_64 => ?_)
  refine j_aload C dX9_goThrough_67 4 rfl ?_
  refine j_callV (ci := 5) C [] [] mlX9_211 mcX5_hasMore (c_more0 S ad hW n hi501_35 hi502_35) (wm_35 (S := S) hW) (wk_35 (S := S) hW) rfl (M.rm (by decide) (by decide) (Nat.le_of_ble_eq_true rfl) (Nat.le_of_ble_eq_true rfl)) rfl rfl (Nat.le_of_ble_eq_true rfl) dX9_goThrough_69 (fun r_1 S_2 hp_3 => ?_)
  obtain ⟨rfl, e_4⟩ := hp_3
  refine J.eq (S' := S) (st' := [.int 0]) (lv' := [(0, .ref (ad 6)), (1, .ref (ad 2)), (2, .int 0), (3, .int (nI n)), (4, .ref (ad 35)), (5, .int (nI tu))]) e_4 rfl rfl ?_
  refine j_if_eq (tgt := 145) C dX9_goThrough_72 (by decide) (fun c9 => ?_) (fun c9 => absurd (by decide) c9)
  exact j_vret C M dX9_goThrough_145 (Nat.le_of_ble_eq_true rfl) (Nat.le_of_ble_eq_true rfl) hq

set_option maxRecDepth 100000 in
set_option maxHeartbeats 4000000 in
theorem go_J {x : JX} {Q : Option Value → Hp → Prop} {S0 : Hp} (C : CB x RX9 cX9_goThrough) (M : CM x 8 0 0 none S0 Q) (hn9 : x_n x = 7) (ad : Nat → Nat) (S : Hp) (B : Nat → Nat) (n : Nat) (gp : Int32) (xu yu : Nat) (po : Bool) (bw bh pn : Nat) (P : Nat → Nat → Bool) (bs : List Bx) (hb : ∀ b ∈ bs, okB b) (hB : Has B 0 (jobL bs)) (hnb : 5 + (boxsL bs).length = n) (hmb : bs.length ≤ 120) (hn : n ≤ 12000) (hRS : RS ad S0 S B n 0 0 gp 1 xu yu po bw bh pn 0 0 P) (hq : ∀ (S' : Hp) (gp : Int32) (xu : Nat) (yu : Nat) (po : Bool) (bw : Nat) (bh : Nat) (pn : Nat) (cv : Nat), RS ad S0 S' B n n 0 gp 0 xu yu po bw bh pn bs.length cv (boxsO P bs) → Q none S') : J x 0 0 S [(0, .ref (ad 6)), (1, .ref (ad 2)), (2, .int 0), (3, .int (nI n)), (4, .ref (ad 35)), (5, .int (nI 0))] 60 [] := by
  have hA := has_l hB
  have hZ := has_r hB
  refine tn_esc C M hn9 ad S B 0 n 0 gp 1 xu yu po bw bh pn 0 0 P 38 108 (hA 0 _ rfl) (hA 1 _ rfl) (hA 2 _ rfl) (by decide) (by decide) (by omega) hRS hn (by decide) fun S1 h1 => ?_
  rw [nlit.2.1, nlit.2.2.2.2.2] at h1
  refine tn_A C M hn9 ad S1 B (0 + 1) n (0 + 3) xu yu po bw bh pn 0 P (hA 3 _ rfl) (hA 4 _ rfl) (by omega) h1 hn (by decide) fun S2 h2 => ?_
  refine bxs_J C M hn9 ad S2 B (0 + 1 + 1) n (0 + 3 + 2) 108 0 900 po bw bh pn 0 0 P bs hb hZ (by omega) (by omega) (by omega) h2 hn (by omega) fun S3 t9 gp xu yu po bw bh pn cv ht h3 => ?_
  have e0 : 0 + bs.length = bs.length := Nat.zero_add _
  rw [e0] at h3
  exact tn_end C M hn9 ad S3 B t9 n 0 gp 0 xu yu po bw bh pn bs.length cv (boxsO P bs) h3 hn ht (hq S3 gp xu yu po bw bh pn cv h3)

set_option maxRecDepth 100000 in
set_option maxHeartbeats 4000000 in
theorem c_X9_goThrough (S : Hp) (ad : Nat → Nat) (hW : Wd ad S) (B : Nat → Nat) (n : Nat) (hs : STR (aI S (ad 2)) B n) (gp : Int32) (xu : Nat) (yu : Nat) (po : Bool) (bw : Nat) (bh : Nat) (pn : Nat) (hI_916_ad6 : hI S 916 (ad 6) = 0) (hI_504_ad35 : hI S 504 (ad 35) = gp) (hI_914_ad6 : hI S 914 (ad 6) = 0) (hI_915_ad6 : hI S 915 (ad 6) = 0) (hI_5_ad12 : hI S 5 (ad 12) = 0) (hI_603_ad5 : hI S 603 (ad 5) = 0) (hI_2_ad12 : hI S 2 (ad 12) = 0) (hI_3_ad12 : hI S 3 (ad 12) = 0) (hI_4_ad12 : hI S 4 (ad 12) = 0) (hI_700_ad27 : hI S 700 (ad 27) = 1) (hI_701_ad27 : hI S 701 (ad 27) = 0) (hI_706_ad27 : hI S 706 (ad 27) = nI xu) (hI_707_ad27 : hI S 707 (ad 27) = nI yu) (hI_708_ad27 : hI S 708 (ad 27) = 1200) (hI_105_ad26 : hI S 105 (ad 26) = 0) (hI_106_ad26 : hI S 106 (ad 26) = 1) (hI_110_ad26 : hI S 110 (ad 26) = 0) (hI_111_ad26 : hI S 111 (ad 26) = cI po) (hI_112_ad26 : hI S 112 (ad 26) = 0) (hI_113_ad26 : hI S 113 (ad 26) = 0) (hI_114_ad26 : hI S 114 (ad 26) = nI bw) (hI_115_ad26 : hI S 115 (ad 26) = nI bh) (hI_118_ad26 : hI S 118 (ad 26) = nI pn) (hI_120_ad26 : hI S 120 (ad 26) = (-1)) (P : Nat → Nat → Bool) (hcv : CVP (aI S (ad 13)) P) (bs : List Bx) (hb : ∀ b ∈ bs, okB b) (hB : Has B 0 (jobL bs)) (hnb : 5 + (boxsL bs).length = n) (hmb : bs.length ≤ 120) (hn : n ≤ 12000) : Ct 8 yX9_goThrough cX9_goThrough 7 none 0 0 [.ref (ad 6), .ref (ad 2), .int 0, .int (nI n)] S (fun r S' => ∃ (gp' : Int32) (xu' yu' : Nat) (po' : Bool) (bw' bh' pn' cv' : Nat), r = none ∧ RS ad S S' B n n 0 gp' 0 xu' yu' po' bw' bh' pn' bs.length cv' (boxsO P bs)) := by
  refine ct_of (by decide) (Nat.le_of_ble_eq_true rfl) fun x hn9 C M hm9 => ?_
  have C : CB x RX9 cX9_goThrough := C
  refine J.eq (lv' := [(0, .ref (ad 6)), (1, .ref (ad 2)), (2, .int 0), (3, .int (nI n))]) rfl rfl rfl ?_
  refine j_aload_n C dX9_goThrough_0 rfl 0 rfl ?_
  refine j_geti (f := 914) (v := 0) C flX9_108 dX9_goThrough_1 (wm_6 (S := S) hW) (wk_6 (S := S) hW) (by decide) (by decide) rfl hI_914_ad6 ?_
  refine j_if_lt (tgt := 31) C dX9_goThrough_4 (by decide) (fun c9 => absurd c9 (by decide)) (fun c9 => ?_)
  refine j_aload_n C dX9_goThrough_7 rfl 0 rfl ?_
  refine j_geti (f := 914) (v := 0) C flX9_108 dX9_goThrough_8 (wm_6 (S := S) hW) (wk_6 (S := S) hW) (by decide) (by decide) rfl hI_914_ad6 ?_
  refine j_aload_n C dX9_goThrough_11 rfl 0 rfl ?_
  refine j_getr (f := 912) (v := (ad 34)) C flX9_70 dX9_goThrough_12 (wm_6 (S := S) hW) (wk_6 (S := S) hW) (by decide) rfl (wr_912_6 (S := S) hW) ?_
  refine j_alen (v := 4) C dX9_goThrough_15 (wm_34 (S := S) hW) (wk_34 (S := S) hW) (by decide) (by decide) (len_of (n := 4) (wl_34 (S := S) hW) (by decide)) ?_
  show J _ _ _ _ _ 16 _
  refine j_ic_ge (tgt := 31) C dX9_goThrough_16 (by decide) (fun c9 => absurd c9 (by decide)) (fun c9 => ?_)
  refine j_aload_n C dX9_goThrough_19 rfl 0 rfl ?_
  refine j_getr (f := 912) (v := (ad 34)) C flX9_70 dX9_goThrough_20 (wm_6 (S := S) hW) (wk_6 (S := S) hW) (by decide) rfl (wr_912_6 (S := S) hW) ?_
  refine j_aload_n C dX9_goThrough_23 rfl 0 rfl ?_
  refine j_geti (f := 914) (v := 0) C flX9_108 dX9_goThrough_24 (wm_6 (S := S) hW) (wk_6 (S := S) hW) (by decide) (by decide) rfl hI_914_ad6 ?_
  refine j_aald (j := 0) (v := ad 35) C 19 (by decide) rfl dX9_goThrough_27 (wm_34 (S := S) hW) (wk_34 (S := S) hW) (inr_of (n := 4) (wl_34 (S := S) hW) (vp_lit (by decide))) (by decide) (wq_34_0 (S := S) hW) ?_
  refine j_ifnonnull (tgt := 32) C dX9_goThrough_28 (by decide) ?_
  refine j_aload_n C dX9_goThrough_32 rfl 0 rfl ?_
  show J _ _ _ _ _ 33 _
  refine j_getr (f := 912) (v := (ad 34)) C flX9_70 dX9_goThrough_33 (wm_6 (S := S) hW) (wk_6 (S := S) hW) (by decide) rfl (wr_912_6 (S := S) hW) ?_
  refine j_aload_n C dX9_goThrough_36 rfl 0 rfl ?_
  refine j_geti (f := 914) (v := 0) C flX9_108 dX9_goThrough_37 (wm_6 (S := S) hW) (wk_6 (S := S) hW) (by decide) (by decide) rfl hI_914_ad6 ?_
  refine j_aald (j := 0) (v := ad 35) C 19 (by decide) rfl dX9_goThrough_40 (wm_34 (S := S) hW) (wk_34 (S := S) hW) (inr_of (n := 4) (wl_34 (S := S) hW) (vp_lit (by decide))) (by decide) (wq_34_0 (S := S) hW) ?_
  refine j_astore (lv' := [(4, .ref (ad 35)), (0, .ref (ad 6)), (1, .ref (ad 2)), (2, .int 0), (3, .int (nI n))]) C dX9_goThrough_41 (by rw [hn9]; decide) rfl ?_
  refine j_aload C dX9_goThrough_43 0 rfl ?_
  refine j_aload_n C dX9_goThrough_45 rfl 2 rfl ?_
  refine j_iload_n C dX9_goThrough_46 rfl 3 rfl ?_
  show J _ _ _ _ _ 47 _
  refine j_iload_n C dX9_goThrough_47 rfl 4 rfl ?_
  refine j_callV (ci := 5) C [.ref (ad 2), .int 0, .int (nI n)] [] mlX9_207 mcX5_open (c_X5_open S ad hW n hn) (wm_35 (S := S) hW) (wk_35 (S := S) hW) rfl (M.rm (by decide) (by decide) (Nat.le_of_ble_eq_true rfl) (Nat.le_of_ble_eq_true rfl)) rfl rfl (Nat.le_of_ble_eq_true rfl) dX9_goThrough_48 (fun r_1 S_2 hp_3 => ?_)
  obtain ⟨rfl, e_4⟩ := hp_3
  refine J.eq (S' := (sI (sI (sI (sR S 500 (ad 35) (some (ad 2))) 501 (ad 35) 0) 502 (ad 35) (nI n)) 503 (ad 35) 0)) (st' := []) (lv' := [(4, .ref (ad 35)), (0, .ref (ad 6)), (1, .ref (ad 2)), (2, .int 0), (3, .int (nI n))]) e_4 rfl rfl ?_
  refine j_aload_n C dX9_goThrough_51 rfl 1 rfl ?_
  refine j_aload C dX9_goThrough_52 0 rfl ?_
  refine j_putr (f := 913) C flX9_82 (by decide) rfl rfl dX9_goThrough_54 (wm_6 (S := S) hW) (wk_6 (S := S) hW) rfl ?_
  refine j_iconst (v := 0) C dX9_goThrough_57 (by decide) ?_
  refine j_istore (lv' := [(5, .int 0), (4, .ref (ad 35)), (0, .ref (ad 6)), (1, .ref (ad 2)), (2, .int 0), (3, .int (nI n))]) C dX9_goThrough_58 (by rw [hn9]; decide) rfl ?_
  have hf_7 : Fm (fun f9 b9 => (f9 = 501 ∧ b9 = (ad 35)) ∨ (f9 = 502 ∧ b9 = (ad 35)) ∨ (f9 = 503 ∧ b9 = (ad 35)) ∨ (f9 = 504 ∧ b9 = (ad 35)) ∨ (f9 = 505 ∧ b9 = (ad 35)) ∨ (f9 = 506 ∧ b9 = (ad 35)) ∨ (f9 = 507 ∧ b9 = (ad 35)) ∨ (f9 = 508 ∧ b9 = (ad 35)) ∨ (f9 = 509 ∧ b9 = (ad 35)) ∨ (f9 = 510 ∧ b9 = (ad 35)) ∨ (f9 = 511 ∧ b9 = (ad 35)) ∨ (f9 = 512 ∧ b9 = (ad 35)) ∨ (f9 = 916 ∧ b9 = (ad 6)) ∨ (f9 = 700 ∧ b9 = (ad 27)) ∨ (f9 = 701 ∧ b9 = (ad 27)) ∨ (f9 = 702 ∧ b9 = (ad 27)) ∨ (f9 = 703 ∧ b9 = (ad 27)) ∨ (f9 = 704 ∧ b9 = (ad 27)) ∨ (f9 = 705 ∧ b9 = (ad 27)) ∨ (f9 = 706 ∧ b9 = (ad 27)) ∨ (f9 = 707 ∧ b9 = (ad 27)) ∨ (f9 = 111 ∧ b9 = (ad 26)) ∨ (f9 = 114 ∧ b9 = (ad 26)) ∨ (f9 = 115 ∧ b9 = (ad 26)) ∨ (f9 = 118 ∧ b9 = (ad 26)) ∨ (f9 = 1000 ∧ b9 = (ad 24)) ∨ (f9 = 1001 ∧ b9 = (ad 24)) ∨ (f9 = 1002 ∧ b9 = (ad 24)) ∨ (f9 = 2 ∧ b9 = (ad 12)) ∨ (f9 = 3 ∧ b9 = (ad 12)) ∨ (f9 = 4 ∧ b9 = (ad 12)) ∨ (f9 = 6 ∧ b9 = (ad 12)) ∨ (f9 = 7 ∧ b9 = (ad 12)) ∨ (f9 = 8 ∧ b9 = (ad 12)) ∨ (f9 = 9 ∧ b9 = (ad 12)) ∨ (f9 = 11 ∧ b9 = (ad 12)) ∨ (f9 = 12 ∧ b9 = (ad 12)) ∨ (f9 = 13 ∧ b9 = (ad 12)) ∨ (f9 = 14 ∧ b9 = (ad 12))) (fun f9 b9 => (f9 = 10 ∧ b9 = (ad 12)) ∨ (f9 = 913 ∧ b9 = (ad 6)) ∨ (f9 = 500 ∧ b9 = (ad 35))) (fun b9 => b9 = (ad 25) ∨ b9 = (ad 14) ∨ b9 = (ad 13)) S (sR (sI (sI (sI (sR S 500 (ad 35) (some (ad 2))) 501 (ad 35) 0) 502 (ad 35) (nI n)) 503 (ad 35) 0) 913 (ad 6) (some (ad 35))) := ((((((Fm.refl (WI := (fun f9 b9 => (f9 = 501 ∧ b9 = (ad 35)) ∨ (f9 = 502 ∧ b9 = (ad 35)) ∨ (f9 = 503 ∧ b9 = (ad 35)) ∨ (f9 = 504 ∧ b9 = (ad 35)) ∨ (f9 = 505 ∧ b9 = (ad 35)) ∨ (f9 = 506 ∧ b9 = (ad 35)) ∨ (f9 = 507 ∧ b9 = (ad 35)) ∨ (f9 = 508 ∧ b9 = (ad 35)) ∨ (f9 = 509 ∧ b9 = (ad 35)) ∨ (f9 = 510 ∧ b9 = (ad 35)) ∨ (f9 = 511 ∧ b9 = (ad 35)) ∨ (f9 = 512 ∧ b9 = (ad 35)) ∨ (f9 = 916 ∧ b9 = (ad 6)) ∨ (f9 = 700 ∧ b9 = (ad 27)) ∨ (f9 = 701 ∧ b9 = (ad 27)) ∨ (f9 = 702 ∧ b9 = (ad 27)) ∨ (f9 = 703 ∧ b9 = (ad 27)) ∨ (f9 = 704 ∧ b9 = (ad 27)) ∨ (f9 = 705 ∧ b9 = (ad 27)) ∨ (f9 = 706 ∧ b9 = (ad 27)) ∨ (f9 = 707 ∧ b9 = (ad 27)) ∨ (f9 = 111 ∧ b9 = (ad 26)) ∨ (f9 = 114 ∧ b9 = (ad 26)) ∨ (f9 = 115 ∧ b9 = (ad 26)) ∨ (f9 = 118 ∧ b9 = (ad 26)) ∨ (f9 = 1000 ∧ b9 = (ad 24)) ∨ (f9 = 1001 ∧ b9 = (ad 24)) ∨ (f9 = 1002 ∧ b9 = (ad 24)) ∨ (f9 = 2 ∧ b9 = (ad 12)) ∨ (f9 = 3 ∧ b9 = (ad 12)) ∨ (f9 = 4 ∧ b9 = (ad 12)) ∨ (f9 = 6 ∧ b9 = (ad 12)) ∨ (f9 = 7 ∧ b9 = (ad 12)) ∨ (f9 = 8 ∧ b9 = (ad 12)) ∨ (f9 = 9 ∧ b9 = (ad 12)) ∨ (f9 = 11 ∧ b9 = (ad 12)) ∨ (f9 = 12 ∧ b9 = (ad 12)) ∨ (f9 = 13 ∧ b9 = (ad 12)) ∨ (f9 = 14 ∧ b9 = (ad 12)))) (WR := (fun f9 b9 => (f9 = 10 ∧ b9 = (ad 12)) ∨ (f9 = 913 ∧ b9 = (ad 6)) ∨ (f9 = 500 ∧ b9 = (ad 35)))) (WA := (fun b9 => b9 = (ad 25) ∨ b9 = (ad 14) ∨ b9 = (ad 13)))).sR _ (fun _ => (Or.inr (Or.inr ⟨rfl, rfl⟩)))).sI _ (fun _ => (Or.inl ⟨rfl, rfl⟩))).sI _ (fun _ => (Or.inr (Or.inl ⟨rfl, rfl⟩)))).sI _ (fun _ => (Or.inr (Or.inr (Or.inl ⟨rfl, rfl⟩))))).sR _ (fun _ => (Or.inr (Or.inl ⟨rfl, rfl⟩))))
  obtain ⟨S_5, eS_6⟩ : ∃ S9 : Hp, S9 = (sR (sI (sI (sI (sR S 500 (ad 35) (some (ad 2))) 501 (ad 35) 0) 502 (ad 35) (nI n)) 503 (ad 35) 0) 913 (ad 6) (some (ad 35))) := ⟨_, rfl⟩
  refine J.eq (S' := S_5) eS_6.symm rfl rfl ?_
  have hv_8 : hI S_5 105 (ad 26) = 0 := by rw [eS_6]; exact (rxI_sR (S := (sI (sI (sI (sR S 500 (ad 35) (some (ad 2))) 501 (ad 35) 0) 502 (ad 35) (nI n)) 503 (ad 35) 0)) (rd_sIf (S := (sI (sI (sR S 500 (ad 35) (some (ad 2))) 501 (ad 35) 0) 502 (ad 35) (nI n))) (g := 503) (a := (ad 35)) (v := 0) (by decide) (rd_sIf (S := (sI (sR S 500 (ad 35) (some (ad 2))) 501 (ad 35) 0)) (g := 502) (a := (ad 35)) (v := nI n) (by decide) (rd_sIf (S := (sR S 500 (ad 35) (some (ad 2)))) (g := 501) (a := (ad 35)) (v := 0) (by decide) (rxI_sR (S := S) hI_105_ad26)))))
  have hv_9 : hI S_5 106 (ad 26) = 1 := by rw [eS_6]; exact (rxI_sR (S := (sI (sI (sI (sR S 500 (ad 35) (some (ad 2))) 501 (ad 35) 0) 502 (ad 35) (nI n)) 503 (ad 35) 0)) (rd_sIf (S := (sI (sI (sR S 500 (ad 35) (some (ad 2))) 501 (ad 35) 0) 502 (ad 35) (nI n))) (g := 503) (a := (ad 35)) (v := 0) (by decide) (rd_sIf (S := (sI (sR S 500 (ad 35) (some (ad 2))) 501 (ad 35) 0)) (g := 502) (a := (ad 35)) (v := nI n) (by decide) (rd_sIf (S := (sR S 500 (ad 35) (some (ad 2)))) (g := 501) (a := (ad 35)) (v := 0) (by decide) (rxI_sR (S := S) hI_106_ad26)))))
  have hv_10 : hI S_5 110 (ad 26) = 0 := by rw [eS_6]; exact (rxI_sR (S := (sI (sI (sI (sR S 500 (ad 35) (some (ad 2))) 501 (ad 35) 0) 502 (ad 35) (nI n)) 503 (ad 35) 0)) (rd_sIf (S := (sI (sI (sR S 500 (ad 35) (some (ad 2))) 501 (ad 35) 0) 502 (ad 35) (nI n))) (g := 503) (a := (ad 35)) (v := 0) (by decide) (rd_sIf (S := (sI (sR S 500 (ad 35) (some (ad 2))) 501 (ad 35) 0)) (g := 502) (a := (ad 35)) (v := nI n) (by decide) (rd_sIf (S := (sR S 500 (ad 35) (some (ad 2)))) (g := 501) (a := (ad 35)) (v := 0) (by decide) (rxI_sR (S := S) hI_110_ad26)))))
  have hv_11 : hI S_5 111 (ad 26) = cI po := by rw [eS_6]; exact (rxI_sR (S := (sI (sI (sI (sR S 500 (ad 35) (some (ad 2))) 501 (ad 35) 0) 502 (ad 35) (nI n)) 503 (ad 35) 0)) (rd_sIf (S := (sI (sI (sR S 500 (ad 35) (some (ad 2))) 501 (ad 35) 0) 502 (ad 35) (nI n))) (g := 503) (a := (ad 35)) (v := 0) (by decide) (rd_sIf (S := (sI (sR S 500 (ad 35) (some (ad 2))) 501 (ad 35) 0)) (g := 502) (a := (ad 35)) (v := nI n) (by decide) (rd_sIf (S := (sR S 500 (ad 35) (some (ad 2)))) (g := 501) (a := (ad 35)) (v := 0) (by decide) (rxI_sR (S := S) hI_111_ad26)))))
  have hv_12 : hI S_5 112 (ad 26) = 0 := by rw [eS_6]; exact (rxI_sR (S := (sI (sI (sI (sR S 500 (ad 35) (some (ad 2))) 501 (ad 35) 0) 502 (ad 35) (nI n)) 503 (ad 35) 0)) (rd_sIf (S := (sI (sI (sR S 500 (ad 35) (some (ad 2))) 501 (ad 35) 0) 502 (ad 35) (nI n))) (g := 503) (a := (ad 35)) (v := 0) (by decide) (rd_sIf (S := (sI (sR S 500 (ad 35) (some (ad 2))) 501 (ad 35) 0)) (g := 502) (a := (ad 35)) (v := nI n) (by decide) (rd_sIf (S := (sR S 500 (ad 35) (some (ad 2)))) (g := 501) (a := (ad 35)) (v := 0) (by decide) (rxI_sR (S := S) hI_112_ad26)))))
  have hv_13 : hI S_5 113 (ad 26) = 0 := by rw [eS_6]; exact (rxI_sR (S := (sI (sI (sI (sR S 500 (ad 35) (some (ad 2))) 501 (ad 35) 0) 502 (ad 35) (nI n)) 503 (ad 35) 0)) (rd_sIf (S := (sI (sI (sR S 500 (ad 35) (some (ad 2))) 501 (ad 35) 0) 502 (ad 35) (nI n))) (g := 503) (a := (ad 35)) (v := 0) (by decide) (rd_sIf (S := (sI (sR S 500 (ad 35) (some (ad 2))) 501 (ad 35) 0)) (g := 502) (a := (ad 35)) (v := nI n) (by decide) (rd_sIf (S := (sR S 500 (ad 35) (some (ad 2)))) (g := 501) (a := (ad 35)) (v := 0) (by decide) (rxI_sR (S := S) hI_113_ad26)))))
  have hv_14 : hI S_5 114 (ad 26) = nI bw := by rw [eS_6]; exact (rxI_sR (S := (sI (sI (sI (sR S 500 (ad 35) (some (ad 2))) 501 (ad 35) 0) 502 (ad 35) (nI n)) 503 (ad 35) 0)) (rd_sIf (S := (sI (sI (sR S 500 (ad 35) (some (ad 2))) 501 (ad 35) 0) 502 (ad 35) (nI n))) (g := 503) (a := (ad 35)) (v := 0) (by decide) (rd_sIf (S := (sI (sR S 500 (ad 35) (some (ad 2))) 501 (ad 35) 0)) (g := 502) (a := (ad 35)) (v := nI n) (by decide) (rd_sIf (S := (sR S 500 (ad 35) (some (ad 2)))) (g := 501) (a := (ad 35)) (v := 0) (by decide) (rxI_sR (S := S) hI_114_ad26)))))
  have hv_15 : hI S_5 115 (ad 26) = nI bh := by rw [eS_6]; exact (rxI_sR (S := (sI (sI (sI (sR S 500 (ad 35) (some (ad 2))) 501 (ad 35) 0) 502 (ad 35) (nI n)) 503 (ad 35) 0)) (rd_sIf (S := (sI (sI (sR S 500 (ad 35) (some (ad 2))) 501 (ad 35) 0) 502 (ad 35) (nI n))) (g := 503) (a := (ad 35)) (v := 0) (by decide) (rd_sIf (S := (sI (sR S 500 (ad 35) (some (ad 2))) 501 (ad 35) 0)) (g := 502) (a := (ad 35)) (v := nI n) (by decide) (rd_sIf (S := (sR S 500 (ad 35) (some (ad 2)))) (g := 501) (a := (ad 35)) (v := 0) (by decide) (rxI_sR (S := S) hI_115_ad26)))))
  have hv_16 : hI S_5 118 (ad 26) = nI pn := by rw [eS_6]; exact (rxI_sR (S := (sI (sI (sI (sR S 500 (ad 35) (some (ad 2))) 501 (ad 35) 0) 502 (ad 35) (nI n)) 503 (ad 35) 0)) (rd_sIf (S := (sI (sI (sR S 500 (ad 35) (some (ad 2))) 501 (ad 35) 0) 502 (ad 35) (nI n))) (g := 503) (a := (ad 35)) (v := 0) (by decide) (rd_sIf (S := (sI (sR S 500 (ad 35) (some (ad 2))) 501 (ad 35) 0)) (g := 502) (a := (ad 35)) (v := nI n) (by decide) (rd_sIf (S := (sR S 500 (ad 35) (some (ad 2)))) (g := 501) (a := (ad 35)) (v := 0) (by decide) (rxI_sR (S := S) hI_118_ad26)))))
  have hv_17 : hI S_5 120 (ad 26) = (-1) := by rw [eS_6]; exact (rxI_sR (S := (sI (sI (sI (sR S 500 (ad 35) (some (ad 2))) 501 (ad 35) 0) 502 (ad 35) (nI n)) 503 (ad 35) 0)) (rd_sIf (S := (sI (sI (sR S 500 (ad 35) (some (ad 2))) 501 (ad 35) 0) 502 (ad 35) (nI n))) (g := 503) (a := (ad 35)) (v := 0) (by decide) (rd_sIf (S := (sI (sR S 500 (ad 35) (some (ad 2))) 501 (ad 35) 0)) (g := 502) (a := (ad 35)) (v := nI n) (by decide) (rd_sIf (S := (sR S 500 (ad 35) (some (ad 2)))) (g := 501) (a := (ad 35)) (v := 0) (by decide) (rxI_sR (S := S) hI_120_ad26)))))
  have hv_18 : hI S_5 2 (ad 12) = 0 := by rw [eS_6]; exact (rxI_sR (S := (sI (sI (sI (sR S 500 (ad 35) (some (ad 2))) 501 (ad 35) 0) 502 (ad 35) (nI n)) 503 (ad 35) 0)) (rd_sIf (S := (sI (sI (sR S 500 (ad 35) (some (ad 2))) 501 (ad 35) 0) 502 (ad 35) (nI n))) (g := 503) (a := (ad 35)) (v := 0) (by decide) (rd_sIf (S := (sI (sR S 500 (ad 35) (some (ad 2))) 501 (ad 35) 0)) (g := 502) (a := (ad 35)) (v := nI n) (by decide) (rd_sIf (S := (sR S 500 (ad 35) (some (ad 2)))) (g := 501) (a := (ad 35)) (v := 0) (by decide) (rxI_sR (S := S) hI_2_ad12)))))
  have hv_19 : hI S_5 3 (ad 12) = 0 := by rw [eS_6]; exact (rxI_sR (S := (sI (sI (sI (sR S 500 (ad 35) (some (ad 2))) 501 (ad 35) 0) 502 (ad 35) (nI n)) 503 (ad 35) 0)) (rd_sIf (S := (sI (sI (sR S 500 (ad 35) (some (ad 2))) 501 (ad 35) 0) 502 (ad 35) (nI n))) (g := 503) (a := (ad 35)) (v := 0) (by decide) (rd_sIf (S := (sI (sR S 500 (ad 35) (some (ad 2))) 501 (ad 35) 0)) (g := 502) (a := (ad 35)) (v := nI n) (by decide) (rd_sIf (S := (sR S 500 (ad 35) (some (ad 2)))) (g := 501) (a := (ad 35)) (v := 0) (by decide) (rxI_sR (S := S) hI_3_ad12)))))
  have hv_20 : hI S_5 4 (ad 12) = 0 := by rw [eS_6]; exact (rxI_sR (S := (sI (sI (sI (sR S 500 (ad 35) (some (ad 2))) 501 (ad 35) 0) 502 (ad 35) (nI n)) 503 (ad 35) 0)) (rd_sIf (S := (sI (sI (sR S 500 (ad 35) (some (ad 2))) 501 (ad 35) 0) 502 (ad 35) (nI n))) (g := 503) (a := (ad 35)) (v := 0) (by decide) (rd_sIf (S := (sI (sR S 500 (ad 35) (some (ad 2))) 501 (ad 35) 0)) (g := 502) (a := (ad 35)) (v := nI n) (by decide) (rd_sIf (S := (sR S 500 (ad 35) (some (ad 2)))) (g := 501) (a := (ad 35)) (v := 0) (by decide) (rxI_sR (S := S) hI_4_ad12)))))
  have hv_21 : hI S_5 5 (ad 12) = 0 := by rw [eS_6]; exact (rxI_sR (S := (sI (sI (sI (sR S 500 (ad 35) (some (ad 2))) 501 (ad 35) 0) 502 (ad 35) (nI n)) 503 (ad 35) 0)) (rd_sIf (S := (sI (sI (sR S 500 (ad 35) (some (ad 2))) 501 (ad 35) 0) 502 (ad 35) (nI n))) (g := 503) (a := (ad 35)) (v := 0) (by decide) (rd_sIf (S := (sI (sR S 500 (ad 35) (some (ad 2))) 501 (ad 35) 0)) (g := 502) (a := (ad 35)) (v := nI n) (by decide) (rd_sIf (S := (sR S 500 (ad 35) (some (ad 2)))) (g := 501) (a := (ad 35)) (v := 0) (by decide) (rxI_sR (S := S) hI_5_ad12)))))
  have hv_22 : hI S_5 501 (ad 35) = 0 := by rw [eS_6]; exact (rxI_sR (S := (sI (sI (sI (sR S 500 (ad 35) (some (ad 2))) 501 (ad 35) 0) 502 (ad 35) (nI n)) 503 (ad 35) 0)) (rd_sIf (S := (sI (sI (sR S 500 (ad 35) (some (ad 2))) 501 (ad 35) 0) 502 (ad 35) (nI n))) (g := 503) (a := (ad 35)) (v := 0) (by decide) (rd_sIf (S := (sI (sR S 500 (ad 35) (some (ad 2))) 501 (ad 35) 0)) (g := 502) (a := (ad 35)) (v := nI n) (by decide) (rd_sI (S := (sR S 500 (ad 35) (some (ad 2)))) (g := 501) (a := (ad 35)) (v := 0)))))
  have hv_23 : hI S_5 502 (ad 35) = nI n := by rw [eS_6]; exact (rxI_sR (S := (sI (sI (sI (sR S 500 (ad 35) (some (ad 2))) 501 (ad 35) 0) 502 (ad 35) (nI n)) 503 (ad 35) 0)) (rd_sIf (S := (sI (sI (sR S 500 (ad 35) (some (ad 2))) 501 (ad 35) 0) 502 (ad 35) (nI n))) (g := 503) (a := (ad 35)) (v := 0) (by decide) (rd_sI (S := (sI (sR S 500 (ad 35) (some (ad 2))) 501 (ad 35) 0)) (g := 502) (a := (ad 35)) (v := nI n))))
  have hv_24 : hI S_5 503 (ad 35) = 0 := by rw [eS_6]; exact (rxI_sR (S := (sI (sI (sI (sR S 500 (ad 35) (some (ad 2))) 501 (ad 35) 0) 502 (ad 35) (nI n)) 503 (ad 35) 0)) (rd_sI (S := (sI (sI (sR S 500 (ad 35) (some (ad 2))) 501 (ad 35) 0) 502 (ad 35) (nI n))) (g := 503) (a := (ad 35)) (v := 0)))
  have hv_25 : hI S_5 504 (ad 35) = gp := by rw [eS_6]; exact (rxI_sR (S := (sI (sI (sI (sR S 500 (ad 35) (some (ad 2))) 501 (ad 35) 0) 502 (ad 35) (nI n)) 503 (ad 35) 0)) (rd_sIf (S := (sI (sI (sR S 500 (ad 35) (some (ad 2))) 501 (ad 35) 0) 502 (ad 35) (nI n))) (g := 503) (a := (ad 35)) (v := 0) (by decide) (rd_sIf (S := (sI (sR S 500 (ad 35) (some (ad 2))) 501 (ad 35) 0)) (g := 502) (a := (ad 35)) (v := nI n) (by decide) (rd_sIf (S := (sR S 500 (ad 35) (some (ad 2)))) (g := 501) (a := (ad 35)) (v := 0) (by decide) (rxI_sR (S := S) hI_504_ad35)))))
  have hv_26 : hI S_5 603 (ad 5) = 0 := by rw [eS_6]; exact (rxI_sR (S := (sI (sI (sI (sR S 500 (ad 35) (some (ad 2))) 501 (ad 35) 0) 502 (ad 35) (nI n)) 503 (ad 35) 0)) (rd_sIf (S := (sI (sI (sR S 500 (ad 35) (some (ad 2))) 501 (ad 35) 0) 502 (ad 35) (nI n))) (g := 503) (a := (ad 35)) (v := 0) (by decide) (rd_sIf (S := (sI (sR S 500 (ad 35) (some (ad 2))) 501 (ad 35) 0)) (g := 502) (a := (ad 35)) (v := nI n) (by decide) (rd_sIf (S := (sR S 500 (ad 35) (some (ad 2)))) (g := 501) (a := (ad 35)) (v := 0) (by decide) (rxI_sR (S := S) hI_603_ad5)))))
  have hv_27 : hI S_5 700 (ad 27) = 1 := by rw [eS_6]; exact (rxI_sR (S := (sI (sI (sI (sR S 500 (ad 35) (some (ad 2))) 501 (ad 35) 0) 502 (ad 35) (nI n)) 503 (ad 35) 0)) (rd_sIf (S := (sI (sI (sR S 500 (ad 35) (some (ad 2))) 501 (ad 35) 0) 502 (ad 35) (nI n))) (g := 503) (a := (ad 35)) (v := 0) (by decide) (rd_sIf (S := (sI (sR S 500 (ad 35) (some (ad 2))) 501 (ad 35) 0)) (g := 502) (a := (ad 35)) (v := nI n) (by decide) (rd_sIf (S := (sR S 500 (ad 35) (some (ad 2)))) (g := 501) (a := (ad 35)) (v := 0) (by decide) (rxI_sR (S := S) hI_700_ad27)))))
  have hv_28 : hI S_5 701 (ad 27) = 0 := by rw [eS_6]; exact (rxI_sR (S := (sI (sI (sI (sR S 500 (ad 35) (some (ad 2))) 501 (ad 35) 0) 502 (ad 35) (nI n)) 503 (ad 35) 0)) (rd_sIf (S := (sI (sI (sR S 500 (ad 35) (some (ad 2))) 501 (ad 35) 0) 502 (ad 35) (nI n))) (g := 503) (a := (ad 35)) (v := 0) (by decide) (rd_sIf (S := (sI (sR S 500 (ad 35) (some (ad 2))) 501 (ad 35) 0)) (g := 502) (a := (ad 35)) (v := nI n) (by decide) (rd_sIf (S := (sR S 500 (ad 35) (some (ad 2)))) (g := 501) (a := (ad 35)) (v := 0) (by decide) (rxI_sR (S := S) hI_701_ad27)))))
  have hv_29 : hI S_5 706 (ad 27) = nI xu := by rw [eS_6]; exact (rxI_sR (S := (sI (sI (sI (sR S 500 (ad 35) (some (ad 2))) 501 (ad 35) 0) 502 (ad 35) (nI n)) 503 (ad 35) 0)) (rd_sIf (S := (sI (sI (sR S 500 (ad 35) (some (ad 2))) 501 (ad 35) 0) 502 (ad 35) (nI n))) (g := 503) (a := (ad 35)) (v := 0) (by decide) (rd_sIf (S := (sI (sR S 500 (ad 35) (some (ad 2))) 501 (ad 35) 0)) (g := 502) (a := (ad 35)) (v := nI n) (by decide) (rd_sIf (S := (sR S 500 (ad 35) (some (ad 2)))) (g := 501) (a := (ad 35)) (v := 0) (by decide) (rxI_sR (S := S) hI_706_ad27)))))
  have hv_30 : hI S_5 707 (ad 27) = nI yu := by rw [eS_6]; exact (rxI_sR (S := (sI (sI (sI (sR S 500 (ad 35) (some (ad 2))) 501 (ad 35) 0) 502 (ad 35) (nI n)) 503 (ad 35) 0)) (rd_sIf (S := (sI (sI (sR S 500 (ad 35) (some (ad 2))) 501 (ad 35) 0) 502 (ad 35) (nI n))) (g := 503) (a := (ad 35)) (v := 0) (by decide) (rd_sIf (S := (sI (sR S 500 (ad 35) (some (ad 2))) 501 (ad 35) 0)) (g := 502) (a := (ad 35)) (v := nI n) (by decide) (rd_sIf (S := (sR S 500 (ad 35) (some (ad 2)))) (g := 501) (a := (ad 35)) (v := 0) (by decide) (rxI_sR (S := S) hI_707_ad27)))))
  have hv_31 : hI S_5 708 (ad 27) = 1200 := by rw [eS_6]; exact (rxI_sR (S := (sI (sI (sI (sR S 500 (ad 35) (some (ad 2))) 501 (ad 35) 0) 502 (ad 35) (nI n)) 503 (ad 35) 0)) (rd_sIf (S := (sI (sI (sR S 500 (ad 35) (some (ad 2))) 501 (ad 35) 0) 502 (ad 35) (nI n))) (g := 503) (a := (ad 35)) (v := 0) (by decide) (rd_sIf (S := (sI (sR S 500 (ad 35) (some (ad 2))) 501 (ad 35) 0)) (g := 502) (a := (ad 35)) (v := nI n) (by decide) (rd_sIf (S := (sR S 500 (ad 35) (some (ad 2)))) (g := 501) (a := (ad 35)) (v := 0) (by decide) (rxI_sR (S := S) hI_708_ad27)))))
  have hv_32 : hI S_5 914 (ad 6) = 0 := by rw [eS_6]; exact (rxI_sR (S := (sI (sI (sI (sR S 500 (ad 35) (some (ad 2))) 501 (ad 35) 0) 502 (ad 35) (nI n)) 503 (ad 35) 0)) (rd_sIf (S := (sI (sI (sR S 500 (ad 35) (some (ad 2))) 501 (ad 35) 0) 502 (ad 35) (nI n))) (g := 503) (a := (ad 35)) (v := 0) (by decide) (rd_sIf (S := (sI (sR S 500 (ad 35) (some (ad 2))) 501 (ad 35) 0)) (g := 502) (a := (ad 35)) (v := nI n) (by decide) (rd_sIf (S := (sR S 500 (ad 35) (some (ad 2)))) (g := 501) (a := (ad 35)) (v := 0) (by decide) (rxI_sR (S := S) hI_914_ad6)))))
  have hv_33 : hI S_5 915 (ad 6) = 0 := by rw [eS_6]; exact (rxI_sR (S := (sI (sI (sI (sR S 500 (ad 35) (some (ad 2))) 501 (ad 35) 0) 502 (ad 35) (nI n)) 503 (ad 35) 0)) (rd_sIf (S := (sI (sI (sR S 500 (ad 35) (some (ad 2))) 501 (ad 35) 0) 502 (ad 35) (nI n))) (g := 503) (a := (ad 35)) (v := 0) (by decide) (rd_sIf (S := (sI (sR S 500 (ad 35) (some (ad 2))) 501 (ad 35) 0)) (g := 502) (a := (ad 35)) (v := nI n) (by decide) (rd_sIf (S := (sR S 500 (ad 35) (some (ad 2)))) (g := 501) (a := (ad 35)) (v := 0) (by decide) (rxI_sR (S := S) hI_915_ad6)))))
  have hv_34 : hI S_5 916 (ad 6) = 0 := by rw [eS_6]; exact (rxI_sR (S := (sI (sI (sI (sR S 500 (ad 35) (some (ad 2))) 501 (ad 35) 0) 502 (ad 35) (nI n)) 503 (ad 35) 0)) (rd_sIf (S := (sI (sI (sR S 500 (ad 35) (some (ad 2))) 501 (ad 35) 0) 502 (ad 35) (nI n))) (g := 503) (a := (ad 35)) (v := 0) (by decide) (rd_sIf (S := (sI (sR S 500 (ad 35) (some (ad 2))) 501 (ad 35) 0)) (g := 502) (a := (ad 35)) (v := nI n) (by decide) (rd_sIf (S := (sR S 500 (ad 35) (some (ad 2)))) (g := 501) (a := (ad 35)) (v := 0) (by decide) (rxI_sR (S := S) hI_916_ad6)))))
  have hv_35 : hR S_5 500 (ad 35) = (some (ad 2)) := by rw [eS_6]; exact (rd_sRf (S := (sI (sI (sI (sR S 500 (ad 35) (some (ad 2))) 501 (ad 35) 0) 502 (ad 35) (nI n)) 503 (ad 35) 0)) (g := 913) (a := (ad 6)) (v := (some (ad 35))) (by decide) (rxR_sI (S := (sI (sI (sR S 500 (ad 35) (some (ad 2))) 501 (ad 35) 0) 502 (ad 35) (nI n))) (rxR_sI (S := (sI (sR S 500 (ad 35) (some (ad 2))) 501 (ad 35) 0)) (rxR_sI (S := (sR S 500 (ad 35) (some (ad 2)))) (rd_sR (S := S) (g := 500) (a := (ad 35)) (v := (some (ad 2))))))))
  have hv_36 : hR S_5 913 (ad 6) = (some (ad 35)) := by rw [eS_6]; exact (rd_sR (S := (sI (sI (sI (sR S 500 (ad 35) (some (ad 2))) 501 (ad 35) 0) 502 (ad 35) (nI n)) 503 (ad 35) 0)) (g := 913) (a := (ad 6)) (v := (some (ad 35))))
  have hf_37 : Fm (fun f9 b9 => (f9 = 501 ∧ b9 = (ad 35)) ∨ (f9 = 502 ∧ b9 = (ad 35)) ∨ (f9 = 503 ∧ b9 = (ad 35)) ∨ (f9 = 504 ∧ b9 = (ad 35)) ∨ (f9 = 505 ∧ b9 = (ad 35)) ∨ (f9 = 506 ∧ b9 = (ad 35)) ∨ (f9 = 507 ∧ b9 = (ad 35)) ∨ (f9 = 508 ∧ b9 = (ad 35)) ∨ (f9 = 509 ∧ b9 = (ad 35)) ∨ (f9 = 510 ∧ b9 = (ad 35)) ∨ (f9 = 511 ∧ b9 = (ad 35)) ∨ (f9 = 512 ∧ b9 = (ad 35)) ∨ (f9 = 916 ∧ b9 = (ad 6)) ∨ (f9 = 700 ∧ b9 = (ad 27)) ∨ (f9 = 701 ∧ b9 = (ad 27)) ∨ (f9 = 702 ∧ b9 = (ad 27)) ∨ (f9 = 703 ∧ b9 = (ad 27)) ∨ (f9 = 704 ∧ b9 = (ad 27)) ∨ (f9 = 705 ∧ b9 = (ad 27)) ∨ (f9 = 706 ∧ b9 = (ad 27)) ∨ (f9 = 707 ∧ b9 = (ad 27)) ∨ (f9 = 111 ∧ b9 = (ad 26)) ∨ (f9 = 114 ∧ b9 = (ad 26)) ∨ (f9 = 115 ∧ b9 = (ad 26)) ∨ (f9 = 118 ∧ b9 = (ad 26)) ∨ (f9 = 1000 ∧ b9 = (ad 24)) ∨ (f9 = 1001 ∧ b9 = (ad 24)) ∨ (f9 = 1002 ∧ b9 = (ad 24)) ∨ (f9 = 2 ∧ b9 = (ad 12)) ∨ (f9 = 3 ∧ b9 = (ad 12)) ∨ (f9 = 4 ∧ b9 = (ad 12)) ∨ (f9 = 6 ∧ b9 = (ad 12)) ∨ (f9 = 7 ∧ b9 = (ad 12)) ∨ (f9 = 8 ∧ b9 = (ad 12)) ∨ (f9 = 9 ∧ b9 = (ad 12)) ∨ (f9 = 11 ∧ b9 = (ad 12)) ∨ (f9 = 12 ∧ b9 = (ad 12)) ∨ (f9 = 13 ∧ b9 = (ad 12)) ∨ (f9 = 14 ∧ b9 = (ad 12))) (fun f9 b9 => (f9 = 10 ∧ b9 = (ad 12)) ∨ (f9 = 913 ∧ b9 = (ad 6)) ∨ (f9 = 500 ∧ b9 = (ad 35))) (fun b9 => b9 = (ad 25) ∨ b9 = (ad 14) ∨ b9 = (ad 13)) S S_5 := by rw [eS_6]; exact hf_7
  have hW_38 : Wd ad S_5 := by rw [eS_6]; exact (Wd.sR (Wd.sI (Wd.sI (Wd.sI (Wd.sR hW (by decide))))) (by decide))
  have hx_39 : STR (aI S_5 (ad 2)) B n := by rw [eS_6]; exact (by rw [show aI (sR (sI (sI (sI (sR S 500 (ad 35) (some (ad 2))) 501 (ad 35) 0) 502 (ad 35) (nI n)) 503 (ad 35) 0) 913 (ad 6) (some (ad 35))) (ad 2) = aI S (ad 2) from ((arI_sR (S := (sI (sI (sI (sR S 500 (ad 35) (some (ad 2))) 501 (ad 35) 0) 502 (ad 35) (nI n)) 503 (ad 35) 0))).trans ((arI_sI (S := (sI (sI (sR S 500 (ad 35) (some (ad 2))) 501 (ad 35) 0) 502 (ad 35) (nI n)))).trans ((arI_sI (S := (sI (sR S 500 (ad 35) (some (ad 2))) 501 (ad 35) 0))).trans ((arI_sI (S := (sR S 500 (ad 35) (some (ad 2))))).trans (arI_sR (S := S))))))]; exact hs)
  have hx_40 : CVP (aI S_5 (ad 13)) P := by rw [eS_6]; exact (by rw [show aI (sR (sI (sI (sI (sR S 500 (ad 35) (some (ad 2))) 501 (ad 35) 0) 502 (ad 35) (nI n)) 503 (ad 35) 0) 913 (ad 6) (some (ad 35))) (ad 13) = aI S (ad 13) from ((arI_sR (S := (sI (sI (sI (sR S 500 (ad 35) (some (ad 2))) 501 (ad 35) 0) 502 (ad 35) (nI n)) 503 (ad 35) 0))).trans ((arI_sI (S := (sI (sI (sR S 500 (ad 35) (some (ad 2))) 501 (ad 35) 0) 502 (ad 35) (nI n)))).trans ((arI_sI (S := (sI (sR S 500 (ad 35) (some (ad 2))) 501 (ad 35) 0))).trans ((arI_sI (S := (sR S 500 (ad 35) (some (ad 2))))).trans (arI_sR (S := S))))))]; exact hcv)
  refine J.sub [2, 3, 4, 5, 1, 0] (lv' := [(0, .ref (ad 6)), (1, .ref (ad 2)), (2, .int 0), (3, .int (nI n)), (4, .ref (ad 35)), (5, .int (nI 0))]) (by rfl) ?_
  have hRS : RS ad S S_5 B n 0 0 gp 1 xu yu po bw bh pn 0 0 P := ⟨hW_38, hf_37, hx_39, hv_36, hv_35, hv_23, hv_22, hv_34, hv_24, hv_25, hv_32, hv_33, hv_21, hv_26, hv_18, hv_19, hv_20, hv_27, hv_28, hv_29, hv_30, hv_31, hv_8, hv_9, hv_10, hv_11, hv_12, hv_13, hv_14, hv_15, hv_16, hv_17, hx_40⟩
  exact go_J C M hn9 ad S_5 B n gp xu yu po bw bh pn P bs hb hB hnb hmb hn hRS (fun S3 gp xu yu po bw bh pn cv h3 => ⟨gp, xu, yu, po, bw, bh, pn, cv, rfl, h3⟩)
