set_option maxRecDepth 100000 in
set_option maxHeartbeats 4000000 in
theorem law_start {x : JX} {b L : Nat} {xs : Nat → Int32} (C : CB x RL cL_law) (M : LM x b) (X : LX x b L xs) (hn9 : x_n x = 21) (hL9 : L ≤ 260) : J x 0 0 hp0 [(0, .ref b)] 0 [] := by
  refine j_new (N := 12) C (ci := 11) rfl rfl klL_8 knX11 kiX11 (M.cells (by decide)) (M.slots (by decide)) dL_law_0 (fun q hq => ?_)
  refine j_dup C dL_law_3 rfl ?_
  refine j_callI C [] [.ref q] mlL_28 mcX11_init (c_X11_init (nO hp0 q 11) q mem_new (kd_nO' (k := 11))) (M.rm (by decide) (by decide) (Nat.le_of_ble_eq_true rfl) (Nat.le_of_ble_eq_true rfl)) rfl rfl (Nat.le_of_ble_eq_true rfl) dL_law_4 (fun r S2 hp => ?_)
  obtain ⟨rfl, hF, -, -, hp⟩ := hp
  have hm0 : q ∈ hL (nO hp0 q 11) := mem_new
  have hm2 : q ∈ hL S2 := hF.mem hm0
  have hk2 : Kd S2 q 11 := hF.kd hm0 (kd_nO' (k := 11))
  have i1 : hI S2 1101 q = 0 := hF.fi hm0 (fun h9 => by rcases h9 with h9 | h9 <;> exact absurd h9.1 (by decide)) (rd_nOI' (k := 11))
  have i2 : hI S2 1105 q = 0 := hF.fi hm0 (fun h9 => by rcases h9 with h9 | h9 <;> exact absurd h9.1 (by decide)) (rd_nOI' (k := 11))
  obtain ⟨ad, rfl, hW, i3, z1, z2, z3, z4⟩ := house_wd hm0 hm2 hk2 hp
  exact law_go C M X hn9 ad _ _ (Nat.le_of_ble_eq_true rfl) (Nat.le_of_ble_eq_true rfl) hL9 S2 hW i1 i2 i3 z1 z2 z3 z4
