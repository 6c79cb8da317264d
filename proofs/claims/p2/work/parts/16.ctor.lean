/-- new addresses, each once -/
def NL (S0 : Hp) (L : List Nat) (S : Hp) : Prop := L.Nodup ∧ ∀ q ∈ L, q ∉ hL S0 ∧ q ∈ hL S
theorem NL.nil {S0 S : Hp} : NL S0 [] S := ⟨List.Pairwise.nil, fun q h => absurd h List.not_mem_nil⟩
theorem NL.mono {S0 S S' : Hp} {L : List Nat} (h : NL S0 L S) (hm : ∀ a, a ∈ hL S → a ∈ hL S') : NL S0 L S' := ⟨h.1, fun q hq => ⟨(h.2 q hq).1, hm q (h.2 q hq).2⟩⟩
theorem NL.oldO {S0 S : Hp} {L : List Nat} {q k : Nat} (h : NL S0 L S) : NL S0 L (nO S q k) := h.mono fun _ => mem_old
theorem NL.oldA {S0 S : Hp} {L : List Nat} {q k n : Nat} (h : NL S0 L S) : NL S0 L (nA S q k n) := h.mono fun _ => mem_old
theorem NL.app {S0 S S' : Hp} {L L2 : List Nat} (h : NL S0 L S) (h2 : NL S L2 S') (hm : ∀ a, a ∈ hL S → a ∈ hL S') (h0 : ∀ a, a ∈ hL S0 → a ∈ hL S) : NL S0 (L ++ L2) S' := by
  refine ⟨List.nodup_append.mpr ⟨h.1, h2.1, fun a ha b hb e => ?_⟩, fun q hq => ?_⟩
  · subst e
    exact (h2.2 a hb).1 (h.2 a ha).2
  · rcases List.mem_append.mp hq with hq | hq
    · exact ⟨(h.2 q hq).1, hm q (h.2 q hq).2⟩
    · exact ⟨fun z => (h2.2 q hq).1 (h0 q z), (h2.2 q hq).2⟩
theorem NL.one {S S' : Hp} {q : Nat} (hq : q ∉ hL S) (h' : q ∈ hL S') : NL S [q] S' := ⟨List.pairwise_singleton _ _, fun a ha => by rw [List.mem_singleton.mp ha]; exact ⟨hq, h'⟩⟩
theorem NL.nO {S0 S : Hp} {L : List Nat} {q k : Nat} (h : NL S0 L S) (hq : q ∉ hL S) (h0 : q ∉ hL S0) : NL S0 (L ++ [q]) (nO S q k) := by
  refine ⟨List.nodup_append.mpr ⟨h.1, List.pairwise_singleton _ _, fun a ha b hb e => ?_⟩, fun a ha => ?_⟩
  · rw [List.mem_singleton.mp hb] at e
    exact hq (e ▸ (h.2 a ha).2)
  · rcases List.mem_append.mp ha with ha | ha
    · exact ⟨(h.2 a ha).1, mem_old (h.2 a ha).2⟩
    · rw [List.mem_singleton.mp ha]; exact ⟨h0, mem_new⟩
theorem NL.nA {S0 S : Hp} {L : List Nat} {q k n : Nat} (h : NL S0 L S) (hq : q ∉ hL S) (h0 : q ∉ hL S0) : NL S0 (L ++ [q]) (nA S q k n) := by
  refine ⟨List.nodup_append.mpr ⟨h.1, List.pairwise_singleton _ _, fun a ha b hb e => ?_⟩, fun a ha => ?_⟩
  · rw [List.mem_singleton.mp hb] at e
    exact hq (e ▸ (h.2 a ha).2)
  · rcases List.mem_append.mp ha with ha | ha
    · exact ⟨(h.2 a ha).1, mem_old (h.2 a ha).2⟩
    · rw [List.mem_singleton.mp ha]; exact ⟨h0, mem_new⟩
theorem NL.two {S S' : Hp} {q g : Nat} (hq : q ∉ hL S) (hg : g ∉ hL S) (hn : q ≠ g) (h1 : q ∈ hL S') (h2 : g ∈ hL S') : NL S [q, g] S' := by
  refine ⟨List.Pairwise.cons (fun b hb => ?_) (List.pairwise_singleton _ _), fun a ha => ?_⟩
  · rw [List.mem_singleton.mp hb]; exact hn
  · rcases List.mem_cons.mp ha with rfl | ha
    · exact ⟨hq, h1⟩
    · rw [List.mem_singleton.mp ha]; exact ⟨hg, h2⟩
theorem NL.sI {S0 S : Hp} {L : List Nat} {g a : Nat} {v : Int32} (h : NL S0 L S) : NL S0 L (sI S g a v) := h
theorem NL.sJ {S0 S : Hp} {L : List Nat} {g a : Nat} {v : Int64} (h : NL S0 L S) : NL S0 L (sJ S g a v) := h
theorem NL.sR {S0 S : Hp} {L : List Nat} {g a : Nat} {v : Option Nat} (h : NL S0 L S) : NL S0 L (sR S g a v) := h
theorem NL.tI {S0 S : Hp} {L : List Nat} {a j : Nat} {v : Int32} (h : NL S0 L S) : NL S0 L (tI S a j v) := h
theorem NL.tJ {S0 S : Hp} {L : List Nat} {a j : Nat} {v : Int64} (h : NL S0 L S) : NL S0 L (tJ S a j v) := h
theorem NL.tR {S0 S : Hp} {L : List Nat} {a j : Nat} {v : Option Nat} (h : NL S0 L S) : NL S0 L (tR S a j v) := h
theorem NL.rI {S0 S : Hp} {L : List Nat} {a : Nat} {v : Nat → Int32} (h : NL S0 L S) : NL S0 L (rI S a v) := h
theorem rxA_sI {S : Hp} {b i : Nat} {c : Option Nat} {g a : Nat} {v : Int32} (h : aR S b i = c) : aR (sI S g a v) b i = c := h
theorem rxA_sJ {S : Hp} {b i : Nat} {c : Option Nat} {g a : Nat} {v : Int64} (h : aR S b i = c) : aR (sJ S g a v) b i = c := h
theorem rxA_sR {S : Hp} {b i : Nat} {c : Option Nat} {g a : Nat} {v : Option Nat} (h : aR S b i = c) : aR (sR S g a v) b i = c := h
theorem rxA_tI {S : Hp} {b i : Nat} {c : Option Nat} {a j : Nat} {v : Int32} (h : aR S b i = c) : aR (tI S a j v) b i = c := h
theorem rxA_tJ {S : Hp} {b i : Nat} {c : Option Nat} {a j : Nat} {v : Int64} (h : aR S b i = c) : aR (tJ S a j v) b i = c := h
theorem rxA_rI {S : Hp} {b i : Nat} {c : Option Nat} {a : Nat} {v : Nat → Int32} (h : aR S b i = c) : aR (rI S a v) b i = c := h
theorem rxA_nO {S : Hp} {b i : Nat} {c : Option Nat} {q k : Nat} (h : aR S b i = c) : aR (nO S q k) b i = c := h
theorem rd_tR {S : Hp} {a j : Nat} {v : Option Nat} : aR (tR S a j v) a j = v := if_pos ⟨rfl, rfl⟩
theorem rd_tRj {S : Hp} {a i j : Nat} {v c : Option Nat} (h : i ≠ j) (hc : aR S a i = c) : aR (tR S a j v) a i = c := (if_neg (fun q => h q.2)).trans hc
theorem rd_tRx {S : Hp} {a b i j : Nat} {v c : Option Nat} (h : b ≠ a) (hc : aR S b i = c) : aR (tR S a j v) b i = c := (if_neg (fun q => h q.1)).trans hc

def gT : Nat → List Nat × List (Nat × Nat) × List (Nat × Nat × Nat)
  | 0 => ([8, 14], [(1, 16)], [(800, 0, 1)])
  | 1 => ([10, 15], [(1, 16)], [(1003, 0, 1)])
  | 2 => ([1, 7, 14, 4, 14, 10, 15, 14, 14], [(2, 40), (4, 20), (6, 16), (7, 8), (8, 8)], [(100, 0, 1), (712, 1, 2), (101, 0, 3), (407, 3, 4), (102, 0, 5), (1003, 5, 6), (103, 0, 7), (104, 0, 8)])
  | 3 => ([0, 14, 14], [(1, 20000), (2, 25)], [(0, 0, 1), (1, 0, 2)])
  | 4 => ([2, 8, 14, 14, 14, 17, 14, 14, 14], [(2, 16), (3, 119), (4, 4352), (5, 400), (6, 2470), (7, 15808), (8, 8)], [(200, 0, 1), (800, 1, 2), (201, 0, 3), (202, 0, 4), (203, 0, 5), (204, 0, 6), (205, 0, 7), (207, 0, 8)])
  | 5 => ([5], [], [])
  | 6 => ([3, 15, 13, 16], [(1, 12), (2, 12000), (3, 16384)], [(307, 0, 1), (317, 0, 2), (320, 0, 3)])
  | 7 => ([6, 13, 14, 14, 21], [(1, 60000), (2, 12), (3, 12), (4, 13)], [(600, 0, 1), (604, 0, 2), (605, 0, 3), (606, 0, 4)])
  | _ => ([], [], [])

def gZ : Nat → List Nat
  | 0 => [1]
  | 4 => [2, 5]
  | _ => []

theorem gT_inz : ∀ t, t < 8 → ∀ p ∈ gZ t, ∃ k, (gT t).1[p]? = some k := by
  intro t ht p hp
  have h : ∀ t, t < 8 → ∀ p ∈ gZ t, p < (gT t).1.length := by decide +kernel
  exact ⟨_, List.getElem?_eq_getElem (h t ht p hp)⟩
theorem gT_in : ∀ t, t < 8 → ∀ p ∈ (gT t).2.2, ∃ k, (gT t).1[p.2.1]? = some k := by
  intro t ht p hp
  have h : ∀ t, t < 8 → ∀ p ∈ (gT t).2.2, p.2.1 < (gT t).1.length := by decide +kernel
  exact ⟨_, List.getElem?_eq_getElem (h t ht p hp)⟩
theorem gT_inn : ∀ t, t < 8 → ∀ p ∈ (gT t).2.1, ∃ k, (gT t).1[p.1]? = some k := by
  intro t ht p hp
  have h : ∀ t, t < 8 → ∀ p ∈ (gT t).2.1, p.1 < (gT t).1.length := by decide +kernel
  exact ⟨_, List.getElem?_eq_getElem (h t ht p hp)⟩
/-- a group: the kinds, lengths and pointers of its addresses -/
def Gt (t : Nat) (l : List Nat) (S : Hp) : Prop := (∀ i k, (gT t).1[i]? = some k → l.getD i 0 ∈ hL S ∧ Kd S (l.getD i 0) k) ∧ (∀ p ∈ (gT t).2.1, Ln S (l.getD p.1 0) p.2) ∧ (∀ p ∈ (gT t).2.2, hR S p.1 (l.getD p.2.1 0) = some (l.getD p.2.2 0)) ∧ ∀ i ∈ gZ t, ∀ j, aI S (l.getD i 0) j = 0
theorem Gt.own {t : Nat} {l : List Nat} {S : Hp} (h : Gt t l S) (ht : t < 8) : ∀ p ∈ (gT t).2.2, l.getD p.2.1 0 ∈ hL S := fun p hp => by
  obtain ⟨k, hk⟩ := gT_in t ht p hp
  exact (h.1 _ k hk).1
theorem Gt.fm {t : Nat} {l : List Nat} {S S' : Hp} {WI WR : Nat → Nat → Prop} (h : Gt t l S) (ht : t < 8) (hf : Fm WI WR (fun _ => False) S S') (hn : ∀ p ∈ (gT t).2.2, ¬ WR p.1 (l.getD p.2.1 0)) : Gt t l S' := by
  refine ⟨fun i k hk => ⟨hf.mem (h.1 i k hk).1, hf.kd (h.1 i k hk).1 (h.1 i k hk).2⟩, fun p hp => ?_, fun p hp => hf.fr (h.own ht p hp) (hn p hp) (h.2.2.1 p hp), fun i hi j => ?_⟩
  · obtain ⟨k, hk⟩ := gT_inn t ht p hp
    exact hf.ln (h.1 _ k hk).1 (h.2.1 p hp)
  · obtain ⟨k, hk⟩ := gT_inz t ht i hi
    exact (hf.ai (h.1 _ k hk).1 (fun q => q) j).trans (h.2.2.2 i hi j)
/-- groups, none of which has the object h -/
def Gs (h : Nat) (gs : List (Nat × List Nat)) (S : Hp) : Prop := ∀ g ∈ gs, g.1 < 8 ∧ Gt g.1 g.2 S ∧ ∀ p ∈ (gT g.1).2.2, g.2.getD p.2.1 0 ≠ h
theorem Gs.nil {h : Nat} {S : Hp} : Gs h [] S := fun g hg => absurd hg List.not_mem_nil
theorem Gs.fm {h : Nat} {gs : List (Nat × List Nat)} {S S' : Hp} {WI WR : Nat → Nat → Prop} (H : Gs h gs S) (hf : Fm WI WR (fun _ => False) S S') (hn : ∀ g ∈ gs, ∀ p ∈ (gT g.1).2.2, ¬ WR p.1 (g.2.getD p.2.1 0)) : Gs h gs S' := fun g hg => ⟨(H g hg).1, (H g hg).2.1.fm (H g hg).1 hf (hn g hg), (H g hg).2.2⟩
theorem Gs.ne {h q : Nat} {gs : List (Nat × List Nat)} {S : Hp} (H : Gs h gs S) (hq : q ∉ hL S) : ∀ g ∈ gs, ∀ p ∈ (gT g.1).2.2, g.2.getD p.2.1 0 ≠ q := fun g hg p hp e => hq (e ▸ (H g hg).2.1.own (H g hg).1 p hp)
theorem Gs.snoc {h t : Nat} {gs : List (Nat × List Nat)} {l : List Nat} {S : Hp} (H : Gs h gs S) (ht : t < 8) (hG : Gt t l S) (hn : ∀ p ∈ (gT t).2.2, l.getD p.2.1 0 ≠ h) : Gs h (gs ++ [(t, l)]) S := fun g hg => by
  rcases List.mem_append.mp hg with hg | hg
  · exact H g hg
  · rw [List.mem_singleton.mp hg]; exact ⟨ht, hG, hn⟩
theorem Gs.sI {h g a : Nat} {v : Int32} {gs : List (Nat × List Nat)} {S : Hp} (H : Gs h gs S) : Gs h gs (sI S g a v) := H
theorem Gs.sJ {h g a : Nat} {v : Int64} {gs : List (Nat × List Nat)} {S : Hp} (H : Gs h gs S) : Gs h gs (sJ S g a v) := H
theorem Gs.tJ {h a j : Nat} {v : Int64} {gs : List (Nat × List Nat)} {S : Hp} (H : Gs h gs S) : Gs h gs (tJ S a j v) := H
theorem Gs.tR {h a j : Nat} {v : Option Nat} {gs : List (Nat × List Nat)} {S : Hp} (H : Gs h gs S) : Gs h gs (tR S a j v) := H
theorem Gs.sR {h f : Nat} {v : Option Nat} {gs : List (Nat × List Nat)} {S : Hp} (H : Gs h gs S) : Gs h gs (sR S f h v) := H.fm (WI := fun _ _ => False) (WR := fun _ b => b = h) (Fm.refl.sR _ (fun _ => rfl)) (fun g hg p hp e => (H g hg).2.2 p hp e)
theorem Gs.nO {h q k : Nat} {gs : List (Nat × List Nat)} {S : Hp} (H : Gs h gs S) (hq : q ∉ hL S) : Gs h gs (nO S q k) := H.fm (WI := fun _ _ => False) (WR := fun _ _ => False) (Fm.refl.nO _ hq) (fun _ _ _ _ e => e)
theorem Gs.nA {h q k n : Nat} {gs : List (Nat × List Nat)} {S : Hp} (H : Gs h gs S) (hq : q ∉ hL S) : Gs h gs (nA S q k n) := H.fm (WI := fun _ _ => False) (WR := fun _ _ => False) (Fm.refl.nA _ _ hq) (fun _ _ _ _ e => e)
/-- an array's first elements -/
def ELs (S : Hp) (a : Nat) (l : List Nat) : Prop := ∀ i v, l[i]? = some v → aR S a i = some v
theorem ELs.nil {S : Hp} {a : Nat} : ELs S a [] := fun i v h => by simp at h
theorem ELs.snoc {S : Hp} {a j v : Nat} {l : List Nat} (H : ELs S a l) (hj : l.length = j) : ELs (tR S a j (some v)) a (l ++ [v]) := fun i w h => by
  subst hj
  rw [List.getElem?_append] at h
  by_cases hi : i < l.length
  · rw [if_pos hi] at h
    exact rd_tRj (by omega) (H i w h)
  · rw [if_neg hi] at h
    have e : i = l.length := by
      have := (List.getElem?_eq_some_iff.1 h).1
      simp at this
      omega
    subst e
    rw [Nat.sub_self] at h
    have e2 : v = w := Option.some.inj h
    subst e2
    exact rd_tR
theorem ELs.tRx {S : Hp} {a b j : Nat} {v : Option Nat} {l : List Nat} (h : b ≠ a) (H : ELs S b l) : ELs (tR S a j v) b l := fun i w hw => rd_tRx h (H i w hw)
theorem ELs.sI {S : Hp} {b g a : Nat} {v : Int32} {l : List Nat} (H : ELs S b l) : ELs (sI S g a v) b l := H
theorem ELs.sJ {S : Hp} {b g a : Nat} {v : Int64} {l : List Nat} (H : ELs S b l) : ELs (sJ S g a v) b l := H
theorem ELs.sR {S : Hp} {b g a : Nat} {v : Option Nat} {l : List Nat} (H : ELs S b l) : ELs (sR S g a v) b l := H
theorem ELs.tI {S : Hp} {b a j : Nat} {v : Int32} {l : List Nat} (H : ELs S b l) : ELs (tI S a j v) b l := H
theorem ELs.rI {S : Hp} {b a : Nat} {v : Nat → Int32} {l : List Nat} (H : ELs S b l) : ELs (rI S a v) b l := H
theorem ELs.nO {S : Hp} {b q k : Nat} {l : List Nat} (H : ELs S b l) : ELs (nO S q k) b l := H
theorem ELs.nA {S : Hp} {b q k n : Nat} {l : List Nat} (hq : q ∉ hL S) (hb : b ∈ hL S) (H : ELs S b l) : ELs (nA S q k n) b l := fun i w hw => rd_nAR hq hb (H i w hw)
theorem ELs.fm {S S' : Hp} {b : Nat} {l : List Nat} {WI WR : Nat → Nat → Prop} {WA : Nat → Prop} (H : ELs S b l) (hf : Fm WI WR WA S S') (hb : b ∈ hL S) (hn : ¬ WA b) : ELs S' b l := fun i w hw => (hf.ar hb hn i).trans (H i w hw)

theorem dX8_init_0 : decode cX8_init 0 = .ok (.aload_n 0, 1) := by decide +kernel
theorem dX8_init_1 : decode cX8_init 1 = .ok (.invokespecial 1, 3) := by decide +kernel
theorem dX8_init_4 : decode cX8_init 4 = .ok (.aload_n 0, 1) := by decide +kernel
theorem dX8_init_5 : decode cX8_init 5 = .ok (.bipush 16, 2) := by decide +kernel
theorem dX8_init_7 : decode cX8_init 7 = .ok (.newarray .int, 2) := by decide +kernel
theorem dX8_init_9 : decode cX8_init 9 = .ok (.putfield 9, 3) := by decide +kernel
theorem dX8_init_12 : decode cX8_init 12 = .ok (.return_, 1) := by decide +kernel

set_option maxRecDepth 100000 in
set_option maxHeartbeats 4000000 in
theorem c_X8_init (S : Hp) (h : Nat) (hm : h ∈ hL S) (hk : hK S h = 8) : Ct 1 yX8_init cX8_init 1 none 1 16 [.ref h] S (fun r S' => r = none ∧ Fm (fun _ _ => False) (fun f9 b9 => b9 = h) (fun _ => False) S S' ∧ ∃ q0 : Nat, q0 ∉ hL S ∧ q0 ∈ hL S' ∧ Kd S' q0 14 ∧ Ln S' q0 16 ∧ hR S' 800 h = some q0 ∧ (∀ j, aI S' q0 j = 0) ∧ NL S [q0] S') := by
  refine ct_of (by decide) (Nat.le_of_ble_eq_true rfl) fun x hn9 C M hm9 => ?_
  have C : CB x RX8 cX8_init := C
  refine J.eq (lv' := [(0, .ref h)]) rfl rfl rfl ?_
  refine j_aload_n C dX8_init_0 rfl 0 rfl ?_
  refine j_objInit C mlX8_1 nst_oi (M.fl (by decide)) dX8_init_1 ?_
  refine j_aload_n C dX8_init_4 rfl 0 rfl ?_
  refine j_bipush (v := 16) C dX8_init_5 (by decide) ?_
  refine j_newI (N := 16) C ka_int (by decide) (by decide) (Nat.le_of_ble_eq_true rfl) (M.cells (by decide)) (M.slots (Nat.le_of_ble_eq_true rfl)) dX8_init_7 (fun q_1 hq_2 => ?_)
  have hz_3 : q_1 ∉ hL S := hq_2
  refine j_putrF (f := 800) C hm9 flX8_9o (by decide) rfl rfl dX8_init_9 (mem_old hm) (kd_nA (k := 14) (n := 16) hq_2 hm hk) rfl ?_
  exact j_vret C M dX8_init_12 (Nat.le_of_ble_eq_true rfl) (Nat.le_of_ble_eq_true rfl) ⟨rfl, (((Fm.refl (WI := (fun _ _ => False)) (WR := (fun f9 b9 => b9 = h)) (WA := (fun _ => False))).nA _ _ hq_2).sR _ (fun _ => rfl)), q_1, hz_3, mem_new, (kd_nA' (k := 14) (n := 16)), (ln_nA' (k := 14)), (rd_sR (S := (nA S q_1 14 16)) (g := 800) (a := h) (v := (some q_1))), (fun j9 => rd_nAI' (k := 14) (n := 16)), (NL.sR (S := (nA S q_1 14 16)) (show NL S [q_1] (nA S q_1 14 16) from NL.nA (NL.nil : NL S [] S) hq_2 hz_3))⟩

theorem dX7_init_0 : decode cX7_init 0 = .ok (.aload_n 0, 1) := by decide +kernel
theorem dX7_init_1 : decode cX7_init 1 = .ok (.invokespecial 3, 3) := by decide +kernel
theorem dX7_init_4 : decode cX7_init 4 = .ok (.aload_n 0, 1) := by decide +kernel
theorem dX7_init_5 : decode cX7_init 5 = .ok (.bipush 40, 2) := by decide +kernel
theorem dX7_init_7 : decode cX7_init 7 = .ok (.newarray .int, 2) := by decide +kernel
theorem dX7_init_9 : decode cX7_init 9 = .ok (.putfield 11, 3) := by decide +kernel
theorem dX7_init_12 : decode cX7_init 12 = .ok (.return_, 1) := by decide +kernel

set_option maxRecDepth 100000 in
set_option maxHeartbeats 4000000 in
theorem c_X7_init (S : Hp) (h : Nat) (hm : h ∈ hL S) (hk : hK S h = 7) : Ct 1 yX7_init cX7_init 1 none 1 40 [.ref h] S (fun r S' => r = none ∧ Fm (fun _ _ => False) (fun f9 b9 => b9 = h) (fun _ => False) S S' ∧ ∃ q0 : Nat, q0 ∉ hL S ∧ q0 ∈ hL S' ∧ Kd S' q0 14 ∧ Ln S' q0 40 ∧ hR S' 712 h = some q0 ∧ NL S [q0] S') := by
  refine ct_of (by decide) (Nat.le_of_ble_eq_true rfl) fun x hn9 C M hm9 => ?_
  have C : CB x RX7 cX7_init := C
  refine J.eq (lv' := [(0, .ref h)]) rfl rfl rfl ?_
  refine j_aload_n C dX7_init_0 rfl 0 rfl ?_
  refine j_objInit C mlX7_3 nst_oi (M.fl (by decide)) dX7_init_1 ?_
  refine j_aload_n C dX7_init_4 rfl 0 rfl ?_
  refine j_bipush (v := 40) C dX7_init_5 (by decide) ?_
  refine j_newI (N := 40) C ka_int (by decide) (by decide) (Nat.le_of_ble_eq_true rfl) (M.cells (by decide)) (M.slots (Nat.le_of_ble_eq_true rfl)) dX7_init_7 (fun q_1 hq_2 => ?_)
  have hz_3 : q_1 ∉ hL S := hq_2
  refine j_putrF (f := 712) C hm9 flX7_11o (by decide) rfl rfl dX7_init_9 (mem_old hm) (kd_nA (k := 14) (n := 40) hq_2 hm hk) rfl ?_
  exact j_vret C M dX7_init_12 (Nat.le_of_ble_eq_true rfl) (Nat.le_of_ble_eq_true rfl) ⟨rfl, (((Fm.refl (WI := (fun _ _ => False)) (WR := (fun f9 b9 => b9 = h)) (WA := (fun _ => False))).nA _ _ hq_2).sR _ (fun _ => rfl)), q_1, hz_3, mem_new, (kd_nA' (k := 14) (n := 40)), (ln_nA' (k := 14)), (rd_sR (S := (nA S q_1 14 40)) (g := 712) (a := h) (v := (some q_1))), (NL.sR (S := (nA S q_1 14 40)) (show NL S [q_1] (nA S q_1 14 40) from NL.nA (NL.nil : NL S [] S) hq_2 hz_3))⟩

theorem dX4_init_0 : decode cX4_init 0 = .ok (.aload_n 0, 1) := by decide +kernel
theorem dX4_init_1 : decode cX4_init 1 = .ok (.invokespecial 1, 3) := by decide +kernel
theorem dX4_init_4 : decode cX4_init 4 = .ok (.aload_n 0, 1) := by decide +kernel
theorem dX4_init_5 : decode cX4_init 5 = .ok (.bipush 20, 2) := by decide +kernel
theorem dX4_init_7 : decode cX4_init 7 = .ok (.newarray .int, 2) := by decide +kernel
theorem dX4_init_9 : decode cX4_init 9 = .ok (.putfield 9, 3) := by decide +kernel
theorem dX4_init_12 : decode cX4_init 12 = .ok (.return_, 1) := by decide +kernel

set_option maxRecDepth 100000 in
set_option maxHeartbeats 4000000 in
theorem c_X4_init (S : Hp) (h : Nat) (hm : h ∈ hL S) (hk : hK S h = 4) : Ct 1 yX4_init cX4_init 1 none 1 20 [.ref h] S (fun r S' => r = none ∧ Fm (fun _ _ => False) (fun f9 b9 => b9 = h) (fun _ => False) S S' ∧ ∃ q0 : Nat, q0 ∉ hL S ∧ q0 ∈ hL S' ∧ Kd S' q0 14 ∧ Ln S' q0 20 ∧ hR S' 407 h = some q0 ∧ NL S [q0] S') := by
  refine ct_of (by decide) (Nat.le_of_ble_eq_true rfl) fun x hn9 C M hm9 => ?_
  have C : CB x RX4 cX4_init := C
  refine J.eq (lv' := [(0, .ref h)]) rfl rfl rfl ?_
  refine j_aload_n C dX4_init_0 rfl 0 rfl ?_
  refine j_objInit C mlX4_1 nst_oi (M.fl (by decide)) dX4_init_1 ?_
  refine j_aload_n C dX4_init_4 rfl 0 rfl ?_
  refine j_bipush (v := 20) C dX4_init_5 (by decide) ?_
  refine j_newI (N := 20) C ka_int (by decide) (by decide) (Nat.le_of_ble_eq_true rfl) (M.cells (by decide)) (M.slots (Nat.le_of_ble_eq_true rfl)) dX4_init_7 (fun q_1 hq_2 => ?_)
  have hz_3 : q_1 ∉ hL S := hq_2
  refine j_putrF (f := 407) C hm9 flX4_9o (by decide) rfl rfl dX4_init_9 (mem_old hm) (kd_nA (k := 14) (n := 20) hq_2 hm hk) rfl ?_
  exact j_vret C M dX4_init_12 (Nat.le_of_ble_eq_true rfl) (Nat.le_of_ble_eq_true rfl) ⟨rfl, (((Fm.refl (WI := (fun _ _ => False)) (WR := (fun f9 b9 => b9 = h)) (WA := (fun _ => False))).nA _ _ hq_2).sR _ (fun _ => rfl)), q_1, hz_3, mem_new, (kd_nA' (k := 14) (n := 20)), (ln_nA' (k := 14)), (rd_sR (S := (nA S q_1 14 20)) (g := 407) (a := h) (v := (some q_1))), (NL.sR (S := (nA S q_1 14 20)) (show NL S [q_1] (nA S q_1 14 20) from NL.nA (NL.nil : NL S [] S) hq_2 hz_3))⟩

theorem dX5_init_0 : decode cX5_init 0 = .ok (.aload_n 0, 1) := by decide +kernel
theorem dX5_init_1 : decode cX5_init 1 = .ok (.invokespecial 3, 3) := by decide +kernel
theorem dX5_init_4 : decode cX5_init 4 = .ok (.aload_n 0, 1) := by decide +kernel
theorem dX5_init_5 : decode cX5_init 5 = .ok (.iconst 0, 1) := by decide +kernel
theorem dX5_init_6 : decode cX5_init 6 = .ok (.newarray .byte, 2) := by decide +kernel
theorem dX5_init_8 : decode cX5_init 8 = .ok (.putfield 9, 3) := by decide +kernel
theorem dX5_init_11 : decode cX5_init 11 = .ok (.return_, 1) := by decide +kernel

set_option maxRecDepth 100000 in
set_option maxHeartbeats 4000000 in
theorem c_X5_init (S : Hp) (h : Nat) (hm : h ∈ hL S) (hk : hK S h = 5) : Ct 1 yX5_init cX5_init 1 none 1 0 [.ref h] S (fun r S' => r = none ∧ Fm (fun _ _ => False) (fun f9 b9 => b9 = h) (fun _ => False) S S') := by
  refine ct_of (by decide) (Nat.le_of_ble_eq_true rfl) fun x hn9 C M hm9 => ?_
  have C : CB x RX5 cX5_init := C
  refine J.eq (lv' := [(0, .ref h)]) rfl rfl rfl ?_
  refine j_aload_n C dX5_init_0 rfl 0 rfl ?_
  refine j_objInit C mlX5_3 nst_oi (M.fl (by decide)) dX5_init_1 ?_
  refine j_aload_n C dX5_init_4 rfl 0 rfl ?_
  refine j_iconst (v := 0) C dX5_init_5 (by decide) ?_
  refine j_newB (N := 0) C ka_byte (by decide) (by decide) (Nat.le_of_ble_eq_true rfl) (M.cells (by decide)) (M.slots (Nat.le_of_ble_eq_true rfl)) dX5_init_6 (fun q_1 hq_2 => ?_)
  have hz_3 : q_1 ∉ hL S := hq_2
  refine j_putr (f := 500) C flX5_9 (by decide) rfl rfl dX5_init_8 (mem_old hm) (kd_nA (k := 13) (n := 0) hq_2 hm hk) rfl ?_
  exact j_vret C M dX5_init_11 (Nat.le_of_ble_eq_true rfl) (Nat.le_of_ble_eq_true rfl) ⟨rfl, (((Fm.refl (WI := (fun _ _ => False)) (WR := (fun f9 b9 => b9 = h)) (WA := (fun _ => False))).nA _ _ hq_2).sR _ (fun _ => rfl))⟩

theorem dX10_init_0 : decode cX10_init 0 = .ok (.aload_n 0, 1) := by decide +kernel
theorem dX10_init_1 : decode cX10_init 1 = .ok (.invokespecial 1, 3) := by decide +kernel
theorem dX10_init_4 : decode cX10_init 4 = .ok (.aload_n 0, 1) := by decide +kernel
theorem dX10_init_5 : decode cX10_init 5 = .ok (.iconst 1, 1) := by decide +kernel
theorem dX10_init_6 : decode cX10_init 6 = .ok (.putfield 7, 3) := by decide +kernel
theorem dX10_init_9 : decode cX10_init 9 = .ok (.aload_n 0, 1) := by decide +kernel
theorem dX10_init_10 : decode cX10_init 10 = .ok (.iconst 1, 1) := by decide +kernel
theorem dX10_init_11 : decode cX10_init 11 = .ok (.putfield 13, 3) := by decide +kernel
theorem dX10_init_14 : decode cX10_init 14 = .ok (.aload_n 0, 1) := by decide +kernel
theorem dX10_init_15 : decode cX10_init 15 = .ok (.bipush 16, 2) := by decide +kernel
theorem dX10_init_17 : decode cX10_init 17 = .ok (.newarray .long, 2) := by decide +kernel
theorem dX10_init_19 : decode cX10_init 19 = .ok (.putfield 16, 3) := by decide +kernel
theorem dX10_init_22 : decode cX10_init 22 = .ok (.return_, 1) := by decide +kernel

set_option maxRecDepth 100000 in
set_option maxHeartbeats 4000000 in
theorem c_X10_init (S : Hp) (h : Nat) (hm : h ∈ hL S) (hk : hK S h = 10) : Ct 1 yX10_init cX10_init 1 none 1 16 [.ref h] S (fun r S' => r = none ∧ Fm (fun f9 b9 => (f9 = 1000 ∧ b9 = h) ∨ (f9 = 1001 ∧ b9 = h)) (fun f9 b9 => b9 = h) (fun _ => False) S S' ∧ hI S' 1000 h = 1 ∧ hI S' 1001 h = 1 ∧ ∃ q0 : Nat, q0 ∉ hL S ∧ q0 ∈ hL S' ∧ Kd S' q0 15 ∧ Ln S' q0 16 ∧ hR S' 1003 h = some q0 ∧ NL S [q0] S') := by
  refine ct_of (by decide) (Nat.le_of_ble_eq_true rfl) fun x hn9 C M hm9 => ?_
  have C : CB x RX10 cX10_init := C
  refine J.eq (lv' := [(0, .ref h)]) rfl rfl rfl ?_
  refine j_aload_n C dX10_init_0 rfl 0 rfl ?_
  refine j_objInit C mlX10_1 nst_oi (M.fl (by decide)) dX10_init_1 ?_
  refine j_aload_n C dX10_init_4 rfl 0 rfl ?_
  refine j_iconst (v := 1) C dX10_init_5 (by decide) ?_
  refine j_puti (f := 1000) C flX10_7 (by decide) rfl rfl dX10_init_6 hm hk rfl ?_
  refine j_aload_n C dX10_init_9 rfl 0 rfl ?_
  refine j_iconst (v := 1) C dX10_init_10 (by decide) ?_
  refine j_puti (f := 1001) C flX10_13 (by decide) rfl rfl dX10_init_11 hm hk rfl ?_
  show J _ _ _ _ _ 14 _
  refine j_aload_n C dX10_init_14 rfl 0 rfl ?_
  refine j_bipush (v := 16) C dX10_init_15 (by decide) ?_
  have hf_3 : Fm (fun f9 b9 => (f9 = 1000 ∧ b9 = h) ∨ (f9 = 1001 ∧ b9 = h)) (fun f9 b9 => b9 = h) (fun _ => False) S (sI (sI S 1000 h 1) 1001 h 1) := (((Fm.refl (WI := (fun f9 b9 => (f9 = 1000 ∧ b9 = h) ∨ (f9 = 1001 ∧ b9 = h))) (WR := (fun f9 b9 => b9 = h)) (WA := (fun _ => False))).sI _ (fun _ => (Or.inl ⟨rfl, rfl⟩))).sI _ (fun _ => (Or.inr ⟨rfl, rfl⟩)))
  refine j_newJ (N := 16) C ka_long (by decide) (by decide) (Nat.le_of_ble_eq_true rfl) (M.cells (by decide)) (M.slots (Nat.le_of_ble_eq_true rfl)) dX10_init_17 (fun q_1 hq_2 => ?_)
  have hz_4 : q_1 ∉ hL S := fun h9 => hq_2 (hf_3.mem h9)
  refine j_putrF (f := 1003) C hm9 flX10_16o (by decide) rfl rfl dX10_init_19 (mem_old hm) (kd_nA (k := 15) (n := 16) hq_2 hm hk) rfl ?_
  exact j_vret C M dX10_init_22 (Nat.le_of_ble_eq_true rfl) (Nat.le_of_ble_eq_true rfl) ⟨rfl, ((hf_3.nA _ _ hq_2).sR _ (fun _ => rfl)), (rd_sIf (S := (sI S 1000 h 1)) (g := 1001) (a := h) (v := 1) (by decide) (rd_sI (S := S) (g := 1000) (a := h) (v := 1))), (rd_sI (S := (sI S 1000 h 1)) (g := 1001) (a := h) (v := 1)), q_1, hz_4, mem_new, (kd_nA' (k := 15) (n := 16)), (ln_nA' (k := 15)), (rd_sR (S := (nA (sI (sI S 1000 h 1) 1001 h 1) q_1 15 16)) (g := 1003) (a := h) (v := (some q_1))), (NL.sR (S := (nA (sI (sI S 1000 h 1) 1001 h 1) q_1 15 16)) (show NL S [q_1] (nA (sI (sI S 1000 h 1) 1001 h 1) q_1 15 16) from NL.nA (NL.sI (S := (sI S 1000 h 1)) (NL.sI (S := S) (NL.nil : NL S [] S))) hq_2 hz_4))⟩

theorem dX1_init_0 : decode cX1_init 0 = .ok (.aload_n 0, 1) := by decide +kernel
theorem dX1_init_1 : decode cX1_init 1 = .ok (.invokespecial 3, 3) := by decide +kernel
theorem dX1_init_4 : decode cX1_init 4 = .ok (.aload_n 0, 1) := by decide +kernel
theorem dX1_init_5 : decode cX1_init 5 = .ok (.new 9, 3) := by decide +kernel
theorem dX1_init_8 : decode cX1_init 8 = .ok (.dup, 1) := by decide +kernel
theorem dX1_init_9 : decode cX1_init 9 = .ok (.invokespecial 11, 3) := by decide +kernel
theorem dX1_init_12 : decode cX1_init 12 = .ok (.putfield 12, 3) := by decide +kernel
theorem dX1_init_15 : decode cX1_init 15 = .ok (.aload_n 0, 1) := by decide +kernel
theorem dX1_init_16 : decode cX1_init 16 = .ok (.new 18, 3) := by decide +kernel
theorem dX1_init_19 : decode cX1_init 19 = .ok (.dup, 1) := by decide +kernel
theorem dX1_init_20 : decode cX1_init 20 = .ok (.invokespecial 20, 3) := by decide +kernel
theorem dX1_init_23 : decode cX1_init 23 = .ok (.putfield 21, 3) := by decide +kernel
theorem dX1_init_26 : decode cX1_init 26 = .ok (.aload_n 0, 1) := by decide +kernel
theorem dX1_init_27 : decode cX1_init 27 = .ok (.new 25, 3) := by decide +kernel
theorem dX1_init_30 : decode cX1_init 30 = .ok (.dup, 1) := by decide +kernel
theorem dX1_init_31 : decode cX1_init 31 = .ok (.invokespecial 27, 3) := by decide +kernel
theorem dX1_init_34 : decode cX1_init 34 = .ok (.putfield 28, 3) := by decide +kernel
theorem dX1_init_37 : decode cX1_init 37 = .ok (.aload_n 0, 1) := by decide +kernel
theorem dX1_init_38 : decode cX1_init 38 = .ok (.bipush 8, 2) := by decide +kernel
theorem dX1_init_40 : decode cX1_init 40 = .ok (.newarray .int, 2) := by decide +kernel
theorem dX1_init_42 : decode cX1_init 42 = .ok (.putfield 34, 3) := by decide +kernel
theorem dX1_init_45 : decode cX1_init 45 = .ok (.aload_n 0, 1) := by decide +kernel
theorem dX1_init_46 : decode cX1_init 46 = .ok (.bipush 8, 2) := by decide +kernel
theorem dX1_init_48 : decode cX1_init 48 = .ok (.newarray .int, 2) := by decide +kernel
theorem dX1_init_50 : decode cX1_init 50 = .ok (.putfield 38, 3) := by decide +kernel
theorem dX1_init_53 : decode cX1_init 53 = .ok (.return_, 1) := by decide +kernel

set_option maxRecDepth 100000 in
set_option maxHeartbeats 4000000 in
theorem c_X1_init (S : Hp) (h : Nat) (hm : h ∈ hL S) (hk : hK S h = 1) : Ct 2 yX1_init cX1_init 1 none 8 117 [.ref h] S (fun r S' => r = none ∧ Fm (fun _ _ => False) (fun f9 b9 => b9 = h) (fun _ => False) S S' ∧ ∃ q0 q7 q1 q2 q3 q4 q5 q6 : Nat, q0 ∉ hL S ∧ q0 ∈ hL S' ∧ Kd S' q0 7 ∧ hR S' 100 h = some q0 ∧ q7 ∉ hL S ∧ q7 ∈ hL S' ∧ Kd S' q7 14 ∧ Ln S' q7 40 ∧ hR S' 712 q0 = some q7 ∧ q1 ∉ hL S ∧ q1 ∈ hL S' ∧ Kd S' q1 4 ∧ hR S' 101 h = some q1 ∧ q2 ∉ hL S ∧ q2 ∈ hL S' ∧ Kd S' q2 14 ∧ Ln S' q2 20 ∧ hR S' 407 q1 = some q2 ∧ q3 ∉ hL S ∧ q3 ∈ hL S' ∧ Kd S' q3 10 ∧ hR S' 102 h = some q3 ∧ q4 ∉ hL S ∧ q4 ∈ hL S' ∧ Kd S' q4 15 ∧ Ln S' q4 16 ∧ hR S' 1003 q3 = some q4 ∧ q5 ∉ hL S ∧ q5 ∈ hL S' ∧ Kd S' q5 14 ∧ Ln S' q5 8 ∧ hR S' 103 h = some q5 ∧ q6 ∉ hL S ∧ q6 ∈ hL S' ∧ Kd S' q6 14 ∧ Ln S' q6 8 ∧ hR S' 104 h = some q6 ∧ NL S [q0, q7, q1, q2, q3, q4, q5, q6] S') := by
  refine ct_of (by decide) (Nat.le_of_ble_eq_true rfl) fun x hn9 C M hm9 => ?_
  have C : CB x RX1 cX1_init := C
  refine J.eq (lv' := [(0, .ref h)]) rfl rfl rfl ?_
  refine j_aload_n C dX1_init_0 rfl 0 rfl ?_
  refine j_objInit C mlX1_3 nst_oi (M.fl (by decide)) dX1_init_1 ?_
  refine j_aload_n C dX1_init_4 rfl 0 rfl ?_
  refine j_new (N := 13) C (ci := 7) rfl rfl klX1_9 knX7 kiX7 (M.cells (by decide)) (M.slots (by decide)) dX1_init_5 (fun q_1 hq_2 => ?_)
  have hz_3 : q_1 ∉ hL S := hq_2
  refine j_dup C dX1_init_8 rfl ?_
  have hf_4 : Fm (fun _ _ => False) (fun f9 b9 => b9 = h) (fun _ => False) S (nO S q_1 7) := ((Fm.refl (WI := (fun _ _ => False)) (WR := (fun f9 b9 => b9 = h)) (WA := (fun _ => False))).nO _ hq_2)
  refine j_callI C [] [.ref q_1, .ref h] mlX1_11 mcX7_init (c_X7_init (nO S q_1 7) q_1 mem_new (kd_nO' (k := 7))) (M.rm (by decide) (by decide) (Nat.le_of_ble_eq_true rfl) (Nat.le_of_ble_eq_true rfl)) rfl rfl (Nat.le_of_ble_eq_true rfl) dX1_init_9 (fun r_12 S_13 hp_14 => ?_)
  obtain ⟨rfl, hf_15, q_5, e_6, e_7, e_8, e_9, e_10, hNl_11⟩ := hp_14
  refine J.eq (st' := [.ref q_1, .ref h]) rfl rfl rfl ?_
  have hm_16 : h ∈ hL S_13 := hf_15.mem (mem_old hm)
  have hk_17 : Kd S_13 h 1 := hf_15.kd (mem_old hm) (kd_nO (k := 7) hq_2 hm hk)
  have hm_18 : q_1 ∈ hL S_13 := hf_15.mem mem_new
  have hk_19 : Kd S_13 q_1 7 := hf_15.kd mem_new (kd_nO' (k := 7))
  have hf_20 : Fm (fun _ _ => False) (fun f9 b9 => b9 = h) (fun _ => False) S S_13 := hf_4.then hf_15 (fun a9 ha9 => ⟨(fun f9 h9 => h9.elim), (fun f9 h9 => (fun h8 => absurd (h8 ▸ ha9) hz_3) h9), (fun h9 => h9.elim)⟩)
  have hN_21 : NL S [q_1] S_13 := NL.mono (show NL S [q_1] (nO S q_1 7) from NL.nO (NL.nil : NL S [] S) hq_2 hz_3) (fun a9 h9 => hf_15.mem h9)
  have hz_22 : q_5 ∉ hL S := fun h9 => e_6 (hf_4.mem h9)
  have hN_23 : NL S [q_1, q_5] S_13 := NL.app (show NL S [q_1] (nO S q_1 7) from NL.nO (NL.nil : NL S [] S) hq_2 hz_3) hNl_11 (fun a9 h9 => hf_15.mem h9) (fun a9 h9 => hf_4.mem h9)
  refine j_putrF (f := 100) C hm9 flX1_12o (by decide) rfl rfl dX1_init_12 hm_16 hk_17 rfl ?_
  refine j_aload_n C dX1_init_15 rfl 0 rfl ?_
  show J _ _ _ _ _ 16 _
  have hf_26 : Fm (fun _ _ => False) (fun f9 b9 => b9 = h) (fun _ => False) S (sR S_13 100 h (some q_1)) := (hf_20.sR _ (fun _ => rfl))
  refine j_new (N := 8) C (ci := 4) rfl rfl klX1_18 knX4 kiX4 (M.cells (by decide)) (M.slots (by decide)) dX1_init_16 (fun q_24 hq_25 => ?_)
  have hz_27 : q_24 ∉ hL S := fun h9 => hq_25 (hf_26.mem h9)
  refine j_dup C dX1_init_19 rfl ?_
  have hf_28 : Fm (fun _ _ => False) (fun f9 b9 => b9 = h) (fun _ => False) S (nO (sR S_13 100 h (some q_1)) q_24 4) := (hf_26.nO _ hq_25)
  refine j_callI C [] [.ref q_24, .ref h] mlX1_20 mcX4_init (c_X4_init (nO (sR S_13 100 h (some q_1)) q_24 4) q_24 mem_new (kd_nO' (k := 4))) (M.rm (by decide) (by decide) (Nat.le_of_ble_eq_true rfl) (Nat.le_of_ble_eq_true rfl)) rfl rfl (Nat.le_of_ble_eq_true rfl) dX1_init_20 (fun r_36 S_37 hp_38 => ?_)
  obtain ⟨rfl, hf_39, q_29, e_30, e_31, e_32, e_33, e_34, hNl_35⟩ := hp_38
  refine J.eq (st' := [.ref q_24, .ref h]) rfl rfl rfl ?_
  have hm_40 : h ∈ hL S_37 := hf_39.mem (mem_old hm_16)
  have hk_41 : Kd S_37 h 1 := hf_39.kd (mem_old hm_16) (kd_nO (k := 4) hq_25 hm_16 hk_17)
  have hm_42 : q_1 ∈ hL S_37 := hf_39.mem (mem_old hm_18)
  have hk_43 : Kd S_37 q_1 7 := hf_39.kd (mem_old hm_18) (kd_nO (k := 4) hq_25 hm_18 hk_19)
  have hm_44 : q_24 ∈ hL S_37 := hf_39.mem mem_new
  have hk_45 : Kd S_37 q_24 4 := hf_39.kd mem_new (kd_nO' (k := 4))
  have hm_46 : q_5 ∈ hL S_37 := hf_39.mem (mem_old e_7)
  have hk_47 : Kd S_37 q_5 14 := hf_39.kd (mem_old e_7) (kd_nO (k := 4) hq_25 e_7 e_8)
  have hn_48 : Ln S_37 q_5 40 := hf_39.ln (mem_old e_7) e_9
  have hv_49 : hR S_37 100 h = (some q_1) := hf_39.fr (mem_old hm_16) (fun q9 => (fun e9 => absurd (((kd_nO (k := 4) hq_25 hm_16 hk_17)).symm.trans ((congrArg (hK _) e9).trans (kd_nO' (k := 4)))) (by decide)) q9) (rd_nOR (k := 4) hq_25 hm_16 (rd_sR (S := S_13) (g := 100) (a := h) (v := (some q_1))))
  have hv_50 : hR S_37 712 q_1 = (some q_5) := hf_39.fr (mem_old hm_18) (fun q9 => (fun e9 => absurd (((kd_nO (k := 4) hq_25 hm_18 hk_19)).symm.trans ((congrArg (hK _) e9).trans (kd_nO' (k := 4)))) (by decide)) q9) (rd_nOR (k := 4) hq_25 hm_18 (rd_sRf (S := S_13) (g := 100) (a := h) (v := (some q_1)) (by decide) e_10))
  have hf_51 : Fm (fun _ _ => False) (fun f9 b9 => b9 = h) (fun _ => False) S S_37 := hf_28.then hf_39 (fun a9 ha9 => ⟨(fun f9 h9 => h9.elim), (fun f9 h9 => (fun h8 => absurd (h8 ▸ ha9) hz_27) h9), (fun h9 => h9.elim)⟩)
  have hN_52 : NL S [q_1, q_5, q_24] S_37 := NL.mono (show NL S [q_1, q_5, q_24] (nO (sR S_13 100 h (some q_1)) q_24 4) from NL.nO (NL.sR (S := S_13) hN_23) hq_25 hz_27) (fun a9 h9 => hf_39.mem h9)
  have hz_53 : q_29 ∉ hL S := fun h9 => e_30 (hf_28.mem h9)
  have hN_54 : NL S [q_1, q_5, q_24, q_29] S_37 := NL.app (show NL S [q_1, q_5, q_24] (nO (sR S_13 100 h (some q_1)) q_24 4) from NL.nO (NL.sR (S := S_13) hN_23) hq_25 hz_27) hNl_35 (fun a9 h9 => hf_39.mem h9) (fun a9 h9 => hf_28.mem h9)
  refine j_putrF (f := 101) C hm9 flX1_21o (by decide) rfl rfl dX1_init_23 hm_40 hk_41 rfl ?_
  refine j_aload_n C dX1_init_26 rfl 0 rfl ?_
  have hf_57 : Fm (fun _ _ => False) (fun f9 b9 => b9 = h) (fun _ => False) S (sR S_37 101 h (some q_24)) := (hf_51.sR _ (fun _ => rfl))
  refine j_new (N := 4) C (ci := 10) rfl rfl klX1_25 knX10 kiX10 (M.cells (by decide)) (M.slots (by decide)) dX1_init_27 (fun q_55 hq_56 => ?_)
  have hz_58 : q_55 ∉ hL S := fun h9 => hq_56 (hf_57.mem h9)
  refine j_dup C dX1_init_30 rfl ?_
  have hf_59 : Fm (fun _ _ => False) (fun f9 b9 => b9 = h) (fun _ => False) S (nO (sR S_37 101 h (some q_24)) q_55 10) := (hf_57.nO _ hq_56)
  refine j_callI C [] [.ref q_55, .ref h] mlX1_27 mcX10_init (c_X10_init (nO (sR S_37 101 h (some q_24)) q_55 10) q_55 mem_new (kd_nO' (k := 10))) (M.rm (by decide) (by decide) (Nat.le_of_ble_eq_true rfl) (Nat.le_of_ble_eq_true rfl)) rfl rfl (Nat.le_of_ble_eq_true rfl) dX1_init_31 (fun r_69 S_70 hp_71 => ?_)
  obtain ⟨rfl, hf_72, e_61, e_62, q_60, e_63, e_64, e_65, e_66, e_67, hNl_68⟩ := hp_71
  refine J.eq (st' := [.ref q_55, .ref h]) rfl rfl rfl ?_
  have hm_73 : h ∈ hL S_70 := hf_72.mem (mem_old hm_40)
  have hk_74 : Kd S_70 h 1 := hf_72.kd (mem_old hm_40) (kd_nO (k := 10) hq_56 hm_40 hk_41)
  have hm_75 : q_1 ∈ hL S_70 := hf_72.mem (mem_old hm_42)
  have hk_76 : Kd S_70 q_1 7 := hf_72.kd (mem_old hm_42) (kd_nO (k := 10) hq_56 hm_42 hk_43)
  have hm_77 : q_24 ∈ hL S_70 := hf_72.mem (mem_old hm_44)
  have hk_78 : Kd S_70 q_24 4 := hf_72.kd (mem_old hm_44) (kd_nO (k := 10) hq_56 hm_44 hk_45)
  have hm_79 : q_29 ∈ hL S_70 := hf_72.mem (mem_old e_31)
  have hk_80 : Kd S_70 q_29 14 := hf_72.kd (mem_old e_31) (kd_nO (k := 10) hq_56 e_31 e_32)
  have hn_81 : Ln S_70 q_29 20 := hf_72.ln (mem_old e_31) e_33
  have hm_82 : q_5 ∈ hL S_70 := hf_72.mem (mem_old hm_46)
  have hk_83 : Kd S_70 q_5 14 := hf_72.kd (mem_old hm_46) (kd_nO (k := 10) hq_56 hm_46 hk_47)
  have hn_84 : Ln S_70 q_5 40 := hf_72.ln (mem_old hm_46) hn_48
  have hm_85 : q_55 ∈ hL S_70 := hf_72.mem mem_new
  have hk_86 : Kd S_70 q_55 10 := hf_72.kd mem_new (kd_nO' (k := 10))
  have hv_87 : hR S_70 100 h = (some q_1) := hf_72.fr (mem_old hm_40) (fun q9 => (fun e9 => absurd (((kd_nO (k := 10) hq_56 hm_40 hk_41)).symm.trans ((congrArg (hK _) e9).trans (kd_nO' (k := 10)))) (by decide)) q9) (rd_nOR (k := 10) hq_56 hm_40 (rd_sRf (S := S_37) (g := 101) (a := h) (v := (some q_24)) (by decide) hv_49))
  have hv_88 : hR S_70 101 h = (some q_24) := hf_72.fr (mem_old hm_40) (fun q9 => (fun e9 => absurd (((kd_nO (k := 10) hq_56 hm_40 hk_41)).symm.trans ((congrArg (hK _) e9).trans (kd_nO' (k := 10)))) (by decide)) q9) (rd_nOR (k := 10) hq_56 hm_40 (rd_sR (S := S_37) (g := 101) (a := h) (v := (some q_24))))
  have hv_89 : hR S_70 407 q_24 = (some q_29) := hf_72.fr (mem_old hm_44) (fun q9 => (fun e9 => absurd (((kd_nO (k := 10) hq_56 hm_44 hk_45)).symm.trans ((congrArg (hK _) e9).trans (kd_nO' (k := 10)))) (by decide)) q9) (rd_nOR (k := 10) hq_56 hm_44 (rd_sRf (S := S_37) (g := 101) (a := h) (v := (some q_24)) (by decide) e_34))
  have hv_90 : hR S_70 712 q_1 = (some q_5) := hf_72.fr (mem_old hm_42) (fun q9 => (fun e9 => absurd (((kd_nO (k := 10) hq_56 hm_42 hk_43)).symm.trans ((congrArg (hK _) e9).trans (kd_nO' (k := 10)))) (by decide)) q9) (rd_nOR (k := 10) hq_56 hm_42 (rd_sRf (S := S_37) (g := 101) (a := h) (v := (some q_24)) (by decide) hv_50))
  have hf_91 : Fm (fun _ _ => False) (fun f9 b9 => b9 = h) (fun _ => False) S S_70 := hf_59.then hf_72 (fun a9 ha9 => ⟨(fun f9 h9 => (fun h9 => h9.elim (fun h8 => absurd (h8.2 ▸ ha9) hz_58) (fun h8 => absurd (h8.2 ▸ ha9) hz_58)) h9), (fun f9 h9 => (fun h8 => absurd (h8 ▸ ha9) hz_58) h9), (fun h9 => h9.elim)⟩)
  have hN_92 : NL S [q_1, q_5, q_24, q_29, q_55] S_70 := NL.mono (show NL S [q_1, q_5, q_24, q_29, q_55] (nO (sR S_37 101 h (some q_24)) q_55 10) from NL.nO (NL.sR (S := S_37) hN_54) hq_56 hz_58) (fun a9 h9 => hf_72.mem h9)
  have hz_93 : q_60 ∉ hL S := fun h9 => e_63 (hf_59.mem h9)
  have hN_94 : NL S [q_1, q_5, q_24, q_29, q_55, q_60] S_70 := NL.app (show NL S [q_1, q_5, q_24, q_29, q_55] (nO (sR S_37 101 h (some q_24)) q_55 10) from NL.nO (NL.sR (S := S_37) hN_54) hq_56 hz_58) hNl_68 (fun a9 h9 => hf_72.mem h9) (fun a9 h9 => hf_59.mem h9)
  show J _ _ _ _ _ 34 _
  refine j_putrF (f := 102) C hm9 flX1_28o (by decide) rfl rfl dX1_init_34 hm_73 hk_74 rfl ?_
  refine j_aload_n C dX1_init_37 rfl 0 rfl ?_
  refine j_bipush (v := 8) C dX1_init_38 (by decide) ?_
  have hf_97 : Fm (fun _ _ => False) (fun f9 b9 => b9 = h) (fun _ => False) S (sR S_70 102 h (some q_55)) := (hf_91.sR _ (fun _ => rfl))
  refine j_newI (N := 8) C ka_int (by decide) (by decide) (Nat.le_of_ble_eq_true rfl) (M.cells (by decide)) (M.slots (Nat.le_of_ble_eq_true rfl)) dX1_init_40 (fun q_95 hq_96 => ?_)
  have hz_98 : q_95 ∉ hL S := fun h9 => hq_96 (hf_97.mem h9)
  refine j_putrF (f := 103) C hm9 flX1_34o (by decide) rfl rfl dX1_init_42 (mem_old hm_73) (kd_nA (k := 14) (n := 8) hq_96 hm_73 hk_74) rfl ?_
  refine j_aload_n C dX1_init_45 rfl 0 rfl ?_
  refine j_bipush (v := 8) C dX1_init_46 (by decide) ?_
  have hf_101 : Fm (fun _ _ => False) (fun f9 b9 => b9 = h) (fun _ => False) S (sR (nA (sR S_70 102 h (some q_55)) q_95 14 8) 103 h (some q_95)) := ((hf_97.nA _ _ hq_96).sR _ (fun _ => rfl))
  obtain ⟨S_99, eS_100⟩ : ∃ S9 : Hp, S9 = (sR (nA (sR S_70 102 h (some q_55)) q_95 14 8) 103 h (some q_95)) := ⟨_, rfl⟩
  refine J.eq (S' := S_99) eS_100.symm rfl rfl ?_
  have hm_102 : h ∈ hL S_99 := by rw [eS_100]; exact (mem_old hm_73)
  have hk_103 : Kd S_99 h 1 := by rw [eS_100]; exact (kd_nA (k := 14) (n := 8) hq_96 hm_73 hk_74)
  have hm_104 : q_1 ∈ hL S_99 := by rw [eS_100]; exact (mem_old hm_75)
  have hk_105 : Kd S_99 q_1 7 := by rw [eS_100]; exact (kd_nA (k := 14) (n := 8) hq_96 hm_75 hk_76)
  have hm_106 : q_24 ∈ hL S_99 := by rw [eS_100]; exact (mem_old hm_77)
  have hk_107 : Kd S_99 q_24 4 := by rw [eS_100]; exact (kd_nA (k := 14) (n := 8) hq_96 hm_77 hk_78)
  have hm_108 : q_29 ∈ hL S_99 := by rw [eS_100]; exact (mem_old hm_79)
  have hk_109 : Kd S_99 q_29 14 := by rw [eS_100]; exact (kd_nA (k := 14) (n := 8) hq_96 hm_79 hk_80)
  have hn_110 : Ln S_99 q_29 20 := by rw [eS_100]; exact (ln_nA (k := 14) hq_96 hm_79 hn_81)
  have hm_111 : q_5 ∈ hL S_99 := by rw [eS_100]; exact (mem_old hm_82)
  have hk_112 : Kd S_99 q_5 14 := by rw [eS_100]; exact (kd_nA (k := 14) (n := 8) hq_96 hm_82 hk_83)
  have hn_113 : Ln S_99 q_5 40 := by rw [eS_100]; exact (ln_nA (k := 14) hq_96 hm_82 hn_84)
  have hm_114 : q_55 ∈ hL S_99 := by rw [eS_100]; exact (mem_old hm_85)
  have hk_115 : Kd S_99 q_55 10 := by rw [eS_100]; exact (kd_nA (k := 14) (n := 8) hq_96 hm_85 hk_86)
  have hm_116 : q_60 ∈ hL S_99 := by rw [eS_100]; exact (mem_old e_64)
  have hk_117 : Kd S_99 q_60 15 := by rw [eS_100]; exact (kd_nA (k := 14) (n := 8) hq_96 e_64 e_65)
  have hn_118 : Ln S_99 q_60 16 := by rw [eS_100]; exact (ln_nA (k := 14) hq_96 e_64 e_66)
  have hm_119 : q_95 ∈ hL S_99 := by rw [eS_100]; exact mem_new
  have hk_120 : Kd S_99 q_95 14 := by rw [eS_100]; exact (kd_nA' (k := 14) (n := 8))
  have hn_121 : Ln S_99 q_95 8 := by rw [eS_100]; exact (ln_nA' (k := 14))
  have hz_122 : ∀ j, aI S_99 q_95 j = 0 := by rw [eS_100]; exact (fun j9 => rd_nAI' (k := 14) (n := 8))
  have hv_123 : hI S_99 1000 q_55 = 1 := by rw [eS_100]; exact e_61
  have hv_124 : hI S_99 1001 q_55 = 1 := by rw [eS_100]; exact e_62
  have hv_125 : hR S_99 100 h = (some q_1) := by rw [eS_100]; exact (rd_sRf (S := (nA (sR S_70 102 h (some q_55)) q_95 14 8)) (g := 103) (a := h) (v := (some q_95)) (by decide) (rd_sRf (S := S_70) (g := 102) (a := h) (v := (some q_55)) (by decide) hv_87))
  have hv_126 : hR S_99 1003 q_55 = (some q_60) := by rw [eS_100]; exact (rd_sRf (S := (nA (sR S_70 102 h (some q_55)) q_95 14 8)) (g := 103) (a := h) (v := (some q_95)) (by decide) (rd_sRf (S := S_70) (g := 102) (a := h) (v := (some q_55)) (by decide) e_67))
  have hv_127 : hR S_99 101 h = (some q_24) := by rw [eS_100]; exact (rd_sRf (S := (nA (sR S_70 102 h (some q_55)) q_95 14 8)) (g := 103) (a := h) (v := (some q_95)) (by decide) (rd_sRf (S := S_70) (g := 102) (a := h) (v := (some q_55)) (by decide) hv_88))
  have hv_128 : hR S_99 102 h = (some q_55) := by rw [eS_100]; exact (rd_sRf (S := (nA (sR S_70 102 h (some q_55)) q_95 14 8)) (g := 103) (a := h) (v := (some q_95)) (by decide) (rd_sR (S := S_70) (g := 102) (a := h) (v := (some q_55))))
  have hv_129 : hR S_99 103 h = (some q_95) := by rw [eS_100]; exact (rd_sR (S := (nA (sR S_70 102 h (some q_55)) q_95 14 8)) (g := 103) (a := h) (v := (some q_95)))
  have hv_130 : hR S_99 407 q_24 = (some q_29) := by rw [eS_100]; exact (rd_sRf (S := (nA (sR S_70 102 h (some q_55)) q_95 14 8)) (g := 103) (a := h) (v := (some q_95)) (by decide) (rd_sRf (S := S_70) (g := 102) (a := h) (v := (some q_55)) (by decide) hv_89))
  have hv_131 : hR S_99 712 q_1 = (some q_5) := by rw [eS_100]; exact (rd_sRf (S := (nA (sR S_70 102 h (some q_55)) q_95 14 8)) (g := 103) (a := h) (v := (some q_95)) (by decide) (rd_sRf (S := S_70) (g := 102) (a := h) (v := (some q_55)) (by decide) hv_90))
  have hf_132 : Fm (fun _ _ => False) (fun f9 b9 => b9 = h) (fun _ => False) S S_99 := by rw [eS_100]; exact hf_101
  have hN_133 : NL S [q_1, q_5, q_24, q_29, q_55, q_60, q_95] S_99 := by rw [eS_100]; exact (NL.sR (S := (nA (sR S_70 102 h (some q_55)) q_95 14 8)) (show NL S [q_1, q_5, q_24, q_29, q_55, q_60, q_95] (nA (sR S_70 102 h (some q_55)) q_95 14 8) from NL.nA (NL.sR (S := S_70) hN_94) hq_96 hz_98))
  refine j_newI (N := 8) C ka_int (by decide) (by decide) (Nat.le_of_ble_eq_true rfl) (M.cells (by decide)) (M.slots (Nat.le_of_ble_eq_true rfl)) dX1_init_48 (fun q_134 hq_135 => ?_)
  have hz_136 : q_134 ∉ hL S := fun h9 => hq_135 (hf_132.mem h9)
  show J _ _ _ _ _ 50 _
  refine j_putrF (f := 104) C hm9 flX1_38o (by decide) rfl rfl dX1_init_50 (mem_old hm_102) (kd_nA (k := 14) (n := 8) hq_135 hm_102 hk_103) rfl ?_
  exact j_vret C M dX1_init_53 (Nat.le_of_ble_eq_true rfl) (Nat.le_of_ble_eq_true rfl) ⟨rfl, ((hf_132.nA _ _ hq_135).sR _ (fun _ => rfl)), q_1, q_5, q_24, q_29, q_55, q_60, q_95, q_134, hz_3, (mem_old hm_104), (kd_nA (k := 14) (n := 8) hq_135 hm_104 hk_105), (rd_sRf (S := (nA S_99 q_134 14 8)) (g := 104) (a := h) (v := (some q_134)) (by decide) hv_125), hz_22, (mem_old hm_111), (kd_nA (k := 14) (n := 8) hq_135 hm_111 hk_112), (ln_nA (k := 14) hq_135 hm_111 hn_113), (rd_sRf (S := (nA S_99 q_134 14 8)) (g := 104) (a := h) (v := (some q_134)) (by decide) hv_131), hz_27, (mem_old hm_106), (kd_nA (k := 14) (n := 8) hq_135 hm_106 hk_107), (rd_sRf (S := (nA S_99 q_134 14 8)) (g := 104) (a := h) (v := (some q_134)) (by decide) hv_127), hz_53, (mem_old hm_108), (kd_nA (k := 14) (n := 8) hq_135 hm_108 hk_109), (ln_nA (k := 14) hq_135 hm_108 hn_110), (rd_sRf (S := (nA S_99 q_134 14 8)) (g := 104) (a := h) (v := (some q_134)) (by decide) hv_130), hz_58, (mem_old hm_114), (kd_nA (k := 14) (n := 8) hq_135 hm_114 hk_115), (rd_sRf (S := (nA S_99 q_134 14 8)) (g := 104) (a := h) (v := (some q_134)) (by decide) hv_128), hz_93, (mem_old hm_116), (kd_nA (k := 14) (n := 8) hq_135 hm_116 hk_117), (ln_nA (k := 14) hq_135 hm_116 hn_118), (rd_sRf (S := (nA S_99 q_134 14 8)) (g := 104) (a := h) (v := (some q_134)) (by decide) hv_126), hz_98, (mem_old hm_119), (kd_nA (k := 14) (n := 8) hq_135 hm_119 hk_120), (ln_nA (k := 14) hq_135 hm_119 hn_121), (rd_sRf (S := (nA S_99 q_134 14 8)) (g := 104) (a := h) (v := (some q_134)) (by decide) hv_129), hz_136, mem_new, (kd_nA' (k := 14) (n := 8)), (ln_nA' (k := 14)), (rd_sR (S := (nA S_99 q_134 14 8)) (g := 104) (a := h) (v := (some q_134))), (NL.sR (S := (nA S_99 q_134 14 8)) (show NL S [q_1, q_5, q_24, q_29, q_55, q_60, q_95, q_134] (nA S_99 q_134 14 8) from NL.nA hN_133 hq_135 hz_136))⟩

theorem dX0_init_0 : decode cX0_init 0 = .ok (.aload_n 0, 1) := by decide +kernel
theorem dX0_init_1 : decode cX0_init 1 = .ok (.invokespecial 3, 3) := by decide +kernel
theorem dX0_init_4 : decode cX0_init 4 = .ok (.aload_n 0, 1) := by decide +kernel
theorem dX0_init_5 : decode cX0_init 5 = .ok (.sipush 20000, 3) := by decide +kernel
theorem dX0_init_8 : decode cX0_init 8 = .ok (.newarray .int, 2) := by decide +kernel
theorem dX0_init_10 : decode cX0_init 10 = .ok (.putfield 11, 3) := by decide +kernel
theorem dX0_init_13 : decode cX0_init 13 = .ok (.aload_n 0, 1) := by decide +kernel
theorem dX0_init_14 : decode cX0_init 14 = .ok (.bipush 25, 2) := by decide +kernel
theorem dX0_init_16 : decode cX0_init 16 = .ok (.newarray .int, 2) := by decide +kernel
theorem dX0_init_18 : decode cX0_init 18 = .ok (.putfield 15, 3) := by decide +kernel
theorem dX0_init_21 : decode cX0_init 21 = .ok (.aload_n 0, 1) := by decide +kernel
theorem dX0_init_22 : decode cX0_init 22 = .ok (.new 18, 3) := by decide +kernel
theorem dX0_init_25 : decode cX0_init 25 = .ok (.dup, 1) := by decide +kernel
theorem dX0_init_26 : decode cX0_init 26 = .ok (.invokespecial 20, 3) := by decide +kernel
theorem dX0_init_29 : decode cX0_init 29 = .ok (.putfield 21, 3) := by decide +kernel
theorem dX0_init_32 : decode cX0_init 32 = .ok (.return_, 1) := by decide +kernel

set_option maxRecDepth 100000 in
set_option maxHeartbeats 4000000 in
theorem c_X0_init (S : Hp) (h : Nat) (hm : h ∈ hL S) (hk : hK S h = 0) : Ct 2 yX0_init cX0_init 1 none 4 20045 [.ref h] S (fun r S' => r = none ∧ Fm (fun _ _ => False) (fun f9 b9 => b9 = h) (fun _ => False) S S' ∧ ∃ q0 q1 : Nat, q0 ∉ hL S ∧ q0 ∈ hL S' ∧ Kd S' q0 14 ∧ Ln S' q0 20000 ∧ hR S' 0 h = some q0 ∧ q1 ∉ hL S ∧ q1 ∈ hL S' ∧ Kd S' q1 14 ∧ Ln S' q1 25 ∧ hR S' 1 h = some q1 ∧ NL S [q0, q1] S') := by
  refine ct_of (by decide) (Nat.le_of_ble_eq_true rfl) fun x hn9 C M hm9 => ?_
  have C : CB x RX0 cX0_init := C
  refine J.eq (lv' := [(0, .ref h)]) rfl rfl rfl ?_
  refine j_aload_n C dX0_init_0 rfl 0 rfl ?_
  refine j_objInit C mlX0_3 nst_oi (M.fl (by decide)) dX0_init_1 ?_
  refine j_aload_n C dX0_init_4 rfl 0 rfl ?_
  refine j_sipush (v := 20000) C dX0_init_5 (by decide) ?_
  refine j_newI (N := 20000) C ka_int (by decide) (by decide) (Nat.le_of_ble_eq_true rfl) (M.cells (by decide)) (M.slots (Nat.le_of_ble_eq_true rfl)) dX0_init_8 (fun q_1 hq_2 => ?_)
  have hz_3 : q_1 ∉ hL S := hq_2
  refine j_putrF (f := 0) C hm9 flX0_11o (by decide) rfl rfl dX0_init_10 (mem_old hm) (kd_nA (k := 14) (n := 20000) hq_2 hm hk) rfl ?_
  refine j_aload_n C dX0_init_13 rfl 0 rfl ?_
  refine j_bipush (v := 25) C dX0_init_14 (by decide) ?_
  show J _ _ _ _ _ 16 _
  have hf_6 : Fm (fun _ _ => False) (fun f9 b9 => b9 = h) (fun _ => False) S (sR (nA S q_1 14 20000) 0 h (some q_1)) := (((Fm.refl (WI := (fun _ _ => False)) (WR := (fun f9 b9 => b9 = h)) (WA := (fun _ => False))).nA _ _ hq_2).sR _ (fun _ => rfl))
  obtain ⟨S_4, eS_5⟩ : ∃ S9 : Hp, S9 = (sR (nA S q_1 14 20000) 0 h (some q_1)) := ⟨_, rfl⟩
  refine J.eq (S' := S_4) eS_5.symm rfl rfl ?_
  have hm_7 : h ∈ hL S_4 := by rw [eS_5]; exact (mem_old hm)
  have hk_8 : Kd S_4 h 0 := by rw [eS_5]; exact (kd_nA (k := 14) (n := 20000) hq_2 hm hk)
  have hm_9 : q_1 ∈ hL S_4 := by rw [eS_5]; exact mem_new
  have hk_10 : Kd S_4 q_1 14 := by rw [eS_5]; exact (kd_nA' (k := 14) (n := 20000))
  have hn_11 : Ln S_4 q_1 20000 := by rw [eS_5]; exact (ln_nA' (k := 14))
  have hz_12 : ∀ j, aI S_4 q_1 j = 0 := by rw [eS_5]; exact (fun j9 => rd_nAI' (k := 14) (n := 20000))
  have hv_13 : hR S_4 0 h = (some q_1) := by rw [eS_5]; exact (rd_sR (S := (nA S q_1 14 20000)) (g := 0) (a := h) (v := (some q_1)))
  have hf_14 : Fm (fun _ _ => False) (fun f9 b9 => b9 = h) (fun _ => False) S S_4 := by rw [eS_5]; exact hf_6
  have hN_15 : NL S [q_1] S_4 := by rw [eS_5]; exact (NL.sR (S := (nA S q_1 14 20000)) (show NL S [q_1] (nA S q_1 14 20000) from NL.nA (NL.nil : NL S [] S) hq_2 hz_3))
  refine j_newI (N := 25) C ka_int (by decide) (by decide) (Nat.le_of_ble_eq_true rfl) (M.cells (by decide)) (M.slots (Nat.le_of_ble_eq_true rfl)) dX0_init_16 (fun q_16 hq_17 => ?_)
  have hz_18 : q_16 ∉ hL S := fun h9 => hq_17 (hf_14.mem h9)
  refine j_putrF (f := 1) C hm9 flX0_15o (by decide) rfl rfl dX0_init_18 (mem_old hm_7) (kd_nA (k := 14) (n := 25) hq_17 hm_7 hk_8) rfl ?_
  refine j_aload_n C dX0_init_21 rfl 0 rfl ?_
  have hf_21 : Fm (fun _ _ => False) (fun f9 b9 => b9 = h) (fun _ => False) S (sR (nA S_4 q_16 14 25) 1 h (some q_16)) := ((hf_14.nA _ _ hq_17).sR _ (fun _ => rfl))
  obtain ⟨S_19, eS_20⟩ : ∃ S9 : Hp, S9 = (sR (nA S_4 q_16 14 25) 1 h (some q_16)) := ⟨_, rfl⟩
  refine J.eq (S' := S_19) eS_20.symm rfl rfl ?_
  have hm_22 : h ∈ hL S_19 := by rw [eS_20]; exact (mem_old hm_7)
  have hk_23 : Kd S_19 h 0 := by rw [eS_20]; exact (kd_nA (k := 14) (n := 25) hq_17 hm_7 hk_8)
  have hm_24 : q_1 ∈ hL S_19 := by rw [eS_20]; exact (mem_old hm_9)
  have hk_25 : Kd S_19 q_1 14 := by rw [eS_20]; exact (kd_nA (k := 14) (n := 25) hq_17 hm_9 hk_10)
  have hn_26 : Ln S_19 q_1 20000 := by rw [eS_20]; exact (ln_nA (k := 14) hq_17 hm_9 hn_11)
  have hz_27 : ∀ j, aI S_19 q_1 j = 0 := by rw [eS_20]; exact (fun j9 => rd_nAI (k := 14) (n := 25) hq_17 hm_9 (hz_12 j9))
  have hm_28 : q_16 ∈ hL S_19 := by rw [eS_20]; exact mem_new
  have hk_29 : Kd S_19 q_16 14 := by rw [eS_20]; exact (kd_nA' (k := 14) (n := 25))
  have hn_30 : Ln S_19 q_16 25 := by rw [eS_20]; exact (ln_nA' (k := 14))
  have hz_31 : ∀ j, aI S_19 q_16 j = 0 := by rw [eS_20]; exact (fun j9 => rd_nAI' (k := 14) (n := 25))
  have hv_32 : hR S_19 0 h = (some q_1) := by rw [eS_20]; exact (rd_sRf (S := (nA S_4 q_16 14 25)) (g := 1) (a := h) (v := (some q_16)) (by decide) hv_13)
  have hv_33 : hR S_19 1 h = (some q_16) := by rw [eS_20]; exact (rd_sR (S := (nA S_4 q_16 14 25)) (g := 1) (a := h) (v := (some q_16)))
  have hf_34 : Fm (fun _ _ => False) (fun f9 b9 => b9 = h) (fun _ => False) S S_19 := by rw [eS_20]; exact hf_21
  have hN_35 : NL S [q_1, q_16] S_19 := by rw [eS_20]; exact (NL.sR (S := (nA S_4 q_16 14 25)) (show NL S [q_1, q_16] (nA S_4 q_16 14 25) from NL.nA hN_15 hq_17 hz_18))
  refine j_new (N := 4) C (ci := 10) rfl rfl klX0_18 knX10 kiX10 (M.cells (by decide)) (M.slots (by decide)) dX0_init_22 (fun q_36 hq_37 => ?_)
  have hz_38 : q_36 ∉ hL S := fun h9 => hq_37 (hf_34.mem h9)
  refine j_dup C dX0_init_25 rfl ?_
  have hf_39 : Fm (fun _ _ => False) (fun f9 b9 => b9 = h) (fun _ => False) S (nO S_19 q_36 10) := (hf_34.nO _ hq_37)
  refine j_callI C [] [.ref q_36, .ref h] mlX0_20 mcX10_init (c_X10_init (nO S_19 q_36 10) q_36 mem_new (kd_nO' (k := 10))) (M.rm (by decide) (by decide) (Nat.le_of_ble_eq_true rfl) (Nat.le_of_ble_eq_true rfl)) rfl rfl (Nat.le_of_ble_eq_true rfl) dX0_init_26 (fun r_49 S_50 hp_51 => ?_)
  obtain ⟨rfl, hf_52, e_41, e_42, q_40, e_43, e_44, e_45, e_46, e_47, hNl_48⟩ := hp_51
  refine J.eq (st' := [.ref q_36, .ref h]) rfl rfl rfl ?_
  have hz_53 : ∀ j, aI S_50 q_1 j = 0 := fun j9 => (hf_52.ai (mem_old hm_24) (fun h9 => h9) j9).trans (hz_27 j9)
  have hz_54 : ∀ j, aI S_50 q_16 j = 0 := fun j9 => (hf_52.ai (mem_old hm_28) (fun h9 => h9) j9).trans (hz_31 j9)
  have hm_55 : h ∈ hL S_50 := hf_52.mem (mem_old hm_22)
  have hk_56 : Kd S_50 h 0 := hf_52.kd (mem_old hm_22) (kd_nO (k := 10) hq_37 hm_22 hk_23)
  have hm_57 : q_1 ∈ hL S_50 := hf_52.mem (mem_old hm_24)
  have hk_58 : Kd S_50 q_1 14 := hf_52.kd (mem_old hm_24) (kd_nO (k := 10) hq_37 hm_24 hk_25)
  have hn_59 : Ln S_50 q_1 20000 := hf_52.ln (mem_old hm_24) hn_26
  have hm_60 : q_16 ∈ hL S_50 := hf_52.mem (mem_old hm_28)
  have hk_61 : Kd S_50 q_16 14 := hf_52.kd (mem_old hm_28) (kd_nO (k := 10) hq_37 hm_28 hk_29)
  have hn_62 : Ln S_50 q_16 25 := hf_52.ln (mem_old hm_28) hn_30
  have hm_63 : q_36 ∈ hL S_50 := hf_52.mem mem_new
  have hk_64 : Kd S_50 q_36 10 := hf_52.kd mem_new (kd_nO' (k := 10))
  have hv_65 : hR S_50 0 h = (some q_1) := hf_52.fr (mem_old hm_22) (fun q9 => (fun e9 => absurd (((kd_nO (k := 10) hq_37 hm_22 hk_23)).symm.trans ((congrArg (hK _) e9).trans (kd_nO' (k := 10)))) (by decide)) q9) (rd_nOR (k := 10) hq_37 hm_22 hv_32)
  have hv_66 : hR S_50 1 h = (some q_16) := hf_52.fr (mem_old hm_22) (fun q9 => (fun e9 => absurd (((kd_nO (k := 10) hq_37 hm_22 hk_23)).symm.trans ((congrArg (hK _) e9).trans (kd_nO' (k := 10)))) (by decide)) q9) (rd_nOR (k := 10) hq_37 hm_22 hv_33)
  have hf_67 : Fm (fun _ _ => False) (fun f9 b9 => b9 = h) (fun _ => False) S S_50 := hf_39.then hf_52 (fun a9 ha9 => ⟨(fun f9 h9 => (fun h9 => h9.elim (fun h8 => absurd (h8.2 ▸ ha9) hz_38) (fun h8 => absurd (h8.2 ▸ ha9) hz_38)) h9), (fun f9 h9 => (fun h8 => absurd (h8 ▸ ha9) hz_38) h9), (fun h9 => h9.elim)⟩)
  have hN_68 : NL S [q_1, q_16] S_50 := NL.mono (show NL S [q_1, q_16] (nO S_19 q_36 10) from NL.oldO hN_35) (fun a9 h9 => hf_52.mem h9)
  refine j_putr (f := 10) C flX0_21 (by decide) rfl rfl dX0_init_29 hm_55 hk_56 rfl ?_
  exact j_vret C M dX0_init_32 (Nat.le_of_ble_eq_true rfl) (Nat.le_of_ble_eq_true rfl) ⟨rfl, (hf_67.sR _ (fun _ => rfl)), q_1, q_16, hz_3, hm_57, hk_58, hn_59, (rd_sRf (S := S_50) (g := 10) (a := h) (v := (some q_36)) (by decide) hv_65), hz_18, hm_60, hk_61, hn_62, (rd_sRf (S := S_50) (g := 10) (a := h) (v := (some q_36)) (by decide) hv_66), (NL.sR (S := S_50) hN_68)⟩

theorem dX2_firstWishes_0 : decode cX2_firstWishes 0 = .ok (.aload_n 0, 1) := by decide +kernel
theorem dX2_firstWishes_1 : decode cX2_firstWishes 1 = .ok (.iconst 0, 1) := by decide +kernel
theorem dX2_firstWishes_2 : decode cX2_firstWishes 2 = .ok (.invokestatic 52, 3) := by decide +kernel
theorem dX2_firstWishes_5 : decode cX2_firstWishes 5 = .ok (.aload_n 0, 1) := by decide +kernel
theorem dX2_firstWishes_6 : decode cX2_firstWishes 6 = .ok (.arraylength, 1) := by decide +kernel
theorem dX2_firstWishes_7 : decode cX2_firstWishes 7 = .ok (.bipush 8, 2) := by decide +kernel
theorem dX2_firstWishes_9 : decode cX2_firstWishes 9 = .ok (.if_icmp .lt 19, 3) := by decide +kernel
theorem dX2_firstWishes_12 : decode cX2_firstWishes 12 = .ok (.aload_n 0, 1) := by decide +kernel
theorem dX2_firstWishes_13 : decode cX2_firstWishes 13 = .ok (.iconst 2, 1) := by decide +kernel
theorem dX2_firstWishes_14 : decode cX2_firstWishes 14 = .ok (.sipush 720, 3) := by decide +kernel
theorem dX2_firstWishes_17 : decode cX2_firstWishes 17 = .ok (.iastore, 1) := by decide +kernel
theorem dX2_firstWishes_18 : decode cX2_firstWishes 18 = .ok (.aload_n 0, 1) := by decide +kernel
theorem dX2_firstWishes_19 : decode cX2_firstWishes 19 = .ok (.iconst 3, 1) := by decide +kernel
theorem dX2_firstWishes_20 : decode cX2_firstWishes 20 = .ok (.bipush 8, 2) := by decide +kernel
theorem dX2_firstWishes_22 : decode cX2_firstWishes 22 = .ok (.iastore, 1) := by decide +kernel
theorem dX2_firstWishes_23 : decode cX2_firstWishes 23 = .ok (.aload_n 0, 1) := by decide +kernel
theorem dX2_firstWishes_24 : decode cX2_firstWishes 24 = .ok (.bipush 7, 2) := by decide +kernel
theorem dX2_firstWishes_26 : decode cX2_firstWishes 26 = .ok (.iconst (-1), 1) := by decide +kernel
theorem dX2_firstWishes_27 : decode cX2_firstWishes 27 = .ok (.iastore, 1) := by decide +kernel
theorem dX2_firstWishes_28 : decode cX2_firstWishes 28 = .ok (.return_, 1) := by decide +kernel

set_option maxRecDepth 100000 in
set_option maxHeartbeats 4000000 in
theorem c_X2_firstWishes (S : Hp) (a : Nat) (m_a : a ∈ hL S) (k_a : Kd S a 14) (l_a : Ln S a 8) : Ct 2 yX2_firstWishes cX2_firstWishes 1 none 0 0 [.ref a] S (fun r S' => r = none ∧ S' = (tI (tI (tI (rI S a (fillN (aI S a) 8 0)) a 2 (720 : Int32)) a 3 (8 : Int32)) a 7 ((-1) : Int32))) := by
  refine ct_of (by decide) (Nat.le_of_ble_eq_true rfl) fun x hn9 C M hm9 => ?_
  have C : CB x RX2 cX2_firstWishes := C
  refine J.eq (lv' := [(0, .ref a)]) rfl rfl rfl ?_
  refine j_aload_n C dX2_firstWishes_0 rfl 0 rfl ?_
  refine j_iconst (v := 0) C dX2_firstWishes_1 (by decide) ?_
  refine j_callS C [.ref a, .int 0] [] mlX2_52 mcJ7_fill_53178 (c_J7_fill_53178 S a 8 0 m_a k_a l_a (by omega)) (M.rm (by decide) (by decide) (Nat.le_of_ble_eq_true rfl) (Nat.le_of_ble_eq_true rfl)) rfl rfl (Nat.le_of_ble_eq_true rfl) dX2_firstWishes_2 (fun r_1 S_2 hp_3 => ?_)
  obtain ⟨rfl, e_4⟩ := hp_3
  refine J.eq (S' := (rI S a (fillN (aI S a) 8 0))) (st' := []) (lv' := [(0, .ref a)]) e_4 rfl rfl ?_
  refine j_aload_n C dX2_firstWishes_5 rfl 0 rfl ?_
  refine j_alen (v := 8) C dX2_firstWishes_6 m_a k_a (by decide) (by decide) (len_of (n := 8) l_a (by decide)) ?_
  refine j_bipush (v := 8) C dX2_firstWishes_7 (by decide) ?_
  refine j_ic_lt (tgt := 28) C dX2_firstWishes_9 (by decide) (fun c9 => absurd c9 (by decide)) (fun c9 => ?_)
  refine j_aload_n C dX2_firstWishes_12 rfl 0 rfl ?_
  show J _ _ _ _ _ 13 _
  refine j_iconst (v := 2) C dX2_firstWishes_13 (by decide) ?_
  refine j_sipush (v := 720) C dX2_firstWishes_14 (by decide) ?_
  refine j_iast (j := 2) C dX2_firstWishes_17 m_a k_a (inr_of (n := 8) l_a (vp_lit (by decide))) (by decide) ?_
  refine j_aload_n C dX2_firstWishes_18 rfl 0 rfl ?_
  refine j_iconst (v := 3) C dX2_firstWishes_19 (by decide) ?_
  refine j_bipush (v := 8) C dX2_firstWishes_20 (by decide) ?_
  refine j_iast (j := 3) C dX2_firstWishes_22 m_a k_a (inr_of (n := 8) l_a (vp_lit (by decide))) (by decide) ?_
  refine j_aload_n C dX2_firstWishes_23 rfl 0 rfl ?_
  show J _ _ _ _ _ 24 _
  refine j_bipush (v := 7) C dX2_firstWishes_24 (by decide) ?_
  refine j_iconst (v := (-1)) C dX2_firstWishes_26 (by decide) ?_
  refine j_iast (j := 7) C dX2_firstWishes_27 m_a k_a (inr_of (n := 8) l_a (vp_lit (by decide))) (by decide) ?_
  exact j_vret C M dX2_firstWishes_28 (Nat.le_of_ble_eq_true rfl) (Nat.le_of_ble_eq_true rfl) ⟨rfl, rfl⟩

theorem dX2_setHead_0 : decode cX2_setHead 0 = .ok (.iload_n 1, 1) := by decide +kernel
theorem dX2_setHead_1 : decode cX2_setHead 1 = .ok (.iconst 5, 1) := by decide +kernel
theorem dX2_setHead_2 : decode cX2_setHead 2 = .ok (.imul, 1) := by decide +kernel
theorem dX2_setHead_3 : decode cX2_setHead 3 = .ok (.istore 7, 2) := by decide +kernel
theorem dX2_setHead_5 : decode cX2_setHead 5 = .ok (.iload 7, 2) := by decide +kernel
theorem dX2_setHead_7 : decode cX2_setHead 7 = .ok (.ifCond .lt 68, 3) := by decide +kernel
theorem dX2_setHead_10 : decode cX2_setHead 10 = .ok (.iload 7, 2) := by decide +kernel
theorem dX2_setHead_12 : decode cX2_setHead 12 = .ok (.iconst 5, 1) := by decide +kernel
theorem dX2_setHead_13 : decode cX2_setHead 13 = .ok (.iadd, 1) := by decide +kernel
theorem dX2_setHead_14 : decode cX2_setHead 14 = .ok (.aload_n 0, 1) := by decide +kernel
theorem dX2_setHead_15 : decode cX2_setHead 15 = .ok (.getfield 29, 3) := by decide +kernel
theorem dX2_setHead_18 : decode cX2_setHead 18 = .ok (.arraylength, 1) := by decide +kernel
theorem dX2_setHead_19 : decode cX2_setHead 19 = .ok (.if_icmp .gt 56, 3) := by decide +kernel
theorem dX2_setHead_22 : decode cX2_setHead 22 = .ok (.aload_n 0, 1) := by decide +kernel
theorem dX2_setHead_23 : decode cX2_setHead 23 = .ok (.getfield 29, 3) := by decide +kernel
theorem dX2_setHead_26 : decode cX2_setHead 26 = .ok (.iload 7, 2) := by decide +kernel
theorem dX2_setHead_28 : decode cX2_setHead 28 = .ok (.iconst 0, 1) := by decide +kernel
theorem dX2_setHead_29 : decode cX2_setHead 29 = .ok (.iadd, 1) := by decide +kernel
theorem dX2_setHead_30 : decode cX2_setHead 30 = .ok (.iload_n 2, 1) := by decide +kernel
theorem dX2_setHead_31 : decode cX2_setHead 31 = .ok (.iastore, 1) := by decide +kernel
theorem dX2_setHead_32 : decode cX2_setHead 32 = .ok (.aload_n 0, 1) := by decide +kernel
theorem dX2_setHead_33 : decode cX2_setHead 33 = .ok (.getfield 29, 3) := by decide +kernel
theorem dX2_setHead_36 : decode cX2_setHead 36 = .ok (.iload 7, 2) := by decide +kernel
theorem dX2_setHead_38 : decode cX2_setHead 38 = .ok (.iconst 1, 1) := by decide +kernel
theorem dX2_setHead_39 : decode cX2_setHead 39 = .ok (.iadd, 1) := by decide +kernel
theorem dX2_setHead_40 : decode cX2_setHead 40 = .ok (.iload_n 3, 1) := by decide +kernel
theorem dX2_setHead_41 : decode cX2_setHead 41 = .ok (.iastore, 1) := by decide +kernel
theorem dX2_setHead_42 : decode cX2_setHead 42 = .ok (.aload_n 0, 1) := by decide +kernel
theorem dX2_setHead_43 : decode cX2_setHead 43 = .ok (.getfield 29, 3) := by decide +kernel
theorem dX2_setHead_46 : decode cX2_setHead 46 = .ok (.iload 7, 2) := by decide +kernel
theorem dX2_setHead_48 : decode cX2_setHead 48 = .ok (.iconst 2, 1) := by decide +kernel
theorem dX2_setHead_49 : decode cX2_setHead 49 = .ok (.iadd, 1) := by decide +kernel
theorem dX2_setHead_50 : decode cX2_setHead 50 = .ok (.iload 4, 2) := by decide +kernel
theorem dX2_setHead_52 : decode cX2_setHead 52 = .ok (.iastore, 1) := by decide +kernel
theorem dX2_setHead_53 : decode cX2_setHead 53 = .ok (.aload_n 0, 1) := by decide +kernel
theorem dX2_setHead_54 : decode cX2_setHead 54 = .ok (.getfield 29, 3) := by decide +kernel
theorem dX2_setHead_57 : decode cX2_setHead 57 = .ok (.iload 7, 2) := by decide +kernel
theorem dX2_setHead_59 : decode cX2_setHead 59 = .ok (.iconst 3, 1) := by decide +kernel
theorem dX2_setHead_60 : decode cX2_setHead 60 = .ok (.iadd, 1) := by decide +kernel
theorem dX2_setHead_61 : decode cX2_setHead 61 = .ok (.iload 5, 2) := by decide +kernel
theorem dX2_setHead_63 : decode cX2_setHead 63 = .ok (.iastore, 1) := by decide +kernel
theorem dX2_setHead_64 : decode cX2_setHead 64 = .ok (.aload_n 0, 1) := by decide +kernel
theorem dX2_setHead_65 : decode cX2_setHead 65 = .ok (.getfield 29, 3) := by decide +kernel
theorem dX2_setHead_68 : decode cX2_setHead 68 = .ok (.iload 7, 2) := by decide +kernel
theorem dX2_setHead_70 : decode cX2_setHead 70 = .ok (.iconst 4, 1) := by decide +kernel
theorem dX2_setHead_71 : decode cX2_setHead 71 = .ok (.iadd, 1) := by decide +kernel
theorem dX2_setHead_72 : decode cX2_setHead 72 = .ok (.iload 6, 2) := by decide +kernel
theorem dX2_setHead_74 : decode cX2_setHead 74 = .ok (.iastore, 1) := by decide +kernel
theorem dX2_setHead_75 : decode cX2_setHead 75 = .ok (.return_, 1) := by decide +kernel

set_option maxRecDepth 100000 in
set_option maxHeartbeats 4000000 in
theorem c_X2_setHead (S : Hp) (h : Nat) (m_h : h ∈ hL S) (k_h : Kd S h 2) (q : Nat) (hR_204_h : hR S 204 h = some q) (m_q : q ∈ hL S) (k_q : Kd S q 14) (l_q : Ln S q 2470) (s9 : Nat) (v2 : Int32) (v3 : Int32) (v4 : Int32) (v5 : Int32) (v6 : Int32) (hs : s9 < 494) : Ct 1 yX2_setHead cX2_setHead 8 none 0 0 [.ref h, .int (nI s9), .int v2, .int v3, .int v4, .int v5, .int v6] S (fun r S' => r = none ∧ Fm (fun _ _ => False) (fun _ _ => False) (fun b9 => b9 = q) S S') := by
  refine ct_of (by decide) (Nat.le_of_ble_eq_true rfl) fun x hn9 C M hm9 => ?_
  have C : CB x RX2 cX2_setHead := C
  refine J.eq (lv' := [(0, .ref h), (1, .int (nI s9)), (2, .int v2), (3, .int v3), (4, .int v4), (5, .int v5), (6, .int v6)]) rfl rfl rfl ?_
  refine j_iload_n C dX2_setHead_0 rfl 1 rfl ?_
  refine j_iconst (v := 5) C dX2_setHead_1 (by decide) ?_
  refine j_imul (v := nI (s9 * 5)) C dX2_setHead_2 (pk_mul s9 5) ?_
  refine j_istore (lv' := [(7, .int (nI (s9 * 5))), (0, .ref h), (1, .int (nI s9)), (2, .int v2), (3, .int v3), (4, .int v4), (5, .int v5), (6, .int v6)]) C dX2_setHead_3 (by rw [hn9]; decide) rfl ?_
  refine j_iload C dX2_setHead_5 0 rfl ?_
  refine j_if_lt (tgt := 75) C dX2_setHead_7 (by decide) (fun c_7 => absurd c_7 (nI_pos (by omega))) (fun c_7 => ?_)
  refine j_iload C dX2_setHead_10 0 rfl ?_
  refine j_iconst (v := 5) C dX2_setHead_12 (by decide) ?_
  show J _ _ _ _ _ 13 _
  refine j_iadd (v := nI ((s9 * 5) + 5)) C dX2_setHead_13 (nI_add (s9 * 5) 5) ?_
  refine j_aload_n C dX2_setHead_14 rfl 1 rfl ?_
  refine j_getr (f := 204) (v := q) C flX2_29 dX2_setHead_15 m_h k_h (by decide) rfl hR_204_h ?_
  refine j_alen (v := 2470) C dX2_setHead_18 m_q k_q (by decide) (by decide) (len_of (n := 2470) l_q (by decide)) ?_
  refine j_ic_gt (tgt := 75) C dX2_setHead_19 (by decide) (fun c_19 => absurd c_19 (nI_nlt (a := 2470) (by omega) (by omega))) (fun c_19 => ?_)
  refine j_aload_n C dX2_setHead_22 rfl 1 rfl ?_
  refine j_getr (f := 204) (v := q) C flX2_29 dX2_setHead_23 m_h k_h (by decide) rfl hR_204_h ?_
  refine j_iload C dX2_setHead_26 0 rfl ?_
  show J _ _ _ _ _ 28 _
  refine j_iconst (v := 0) C dX2_setHead_28 (by decide) ?_
  refine j_iadd (v := nI ((s9 * 5) + 0)) C dX2_setHead_29 (nI_add (s9 * 5) 0) ?_
  refine j_iload_n C dX2_setHead_30 rfl 3 rfl ?_
  refine j_iast (j := ((s9 * 5) + 0)) C dX2_setHead_31 m_q k_q (inr_of (n := 2470) l_q (vp_in_nI (by omega) (by omega))) (nI_clamp (by omega)) ?_
  refine j_aload_n C dX2_setHead_32 rfl 1 rfl ?_
  refine j_getr (f := 204) (v := q) C flX2_29 dX2_setHead_33 m_h k_h (by decide) rfl hR_204_h ?_
  refine j_iload C dX2_setHead_36 0 rfl ?_
  refine j_iconst (v := 1) C dX2_setHead_38 (by decide) ?_
  show J _ _ _ _ _ 39 _
  refine j_iadd (v := nI ((s9 * 5) + 1)) C dX2_setHead_39 (nI_add (s9 * 5) 1) ?_
  refine j_iload_n C dX2_setHead_40 rfl 4 rfl ?_
  refine j_iast (j := ((s9 * 5) + 1)) C dX2_setHead_41 m_q k_q (inr_of (n := 2470) l_q (vp_in_nI (by omega) (by omega))) (nI_clamp (by omega)) ?_
  refine j_aload_n C dX2_setHead_42 rfl 1 rfl ?_
  refine j_getr (f := 204) (v := q) C flX2_29 dX2_setHead_43 m_h k_h (by decide) rfl hR_204_h ?_
  refine j_iload C dX2_setHead_46 0 rfl ?_
  refine j_iconst (v := 2) C dX2_setHead_48 (by decide) ?_
  refine j_iadd (v := nI ((s9 * 5) + 2)) C dX2_setHead_49 (nI_add (s9 * 5) 2) ?_
  show J _ _ _ _ _ 50 _
  refine j_iload C dX2_setHead_50 5 rfl ?_
  refine j_iast (j := ((s9 * 5) + 2)) C dX2_setHead_52 m_q k_q (inr_of (n := 2470) l_q (vp_in_nI (by omega) (by omega))) (nI_clamp (by omega)) ?_
  refine j_aload_n C dX2_setHead_53 rfl 1 rfl ?_
  refine j_getr (f := 204) (v := q) C flX2_29 dX2_setHead_54 m_h k_h (by decide) rfl hR_204_h ?_
  refine j_iload C dX2_setHead_57 0 rfl ?_
  refine j_iconst (v := 3) C dX2_setHead_59 (by decide) ?_
  refine j_iadd (v := nI ((s9 * 5) + 3)) C dX2_setHead_60 (nI_add (s9 * 5) 3) ?_
  refine j_iload C dX2_setHead_61 6 rfl ?_
  show J _ _ _ _ _ 63 _
  refine j_iast (j := ((s9 * 5) + 3)) C dX2_setHead_63 m_q k_q (inr_of (n := 2470) l_q (vp_in_nI (by omega) (by omega))) (nI_clamp (by omega)) ?_
  refine j_aload_n C dX2_setHead_64 rfl 1 rfl ?_
  refine j_getr (f := 204) (v := q) C flX2_29 dX2_setHead_65 m_h k_h (by decide) rfl hR_204_h ?_
  refine j_iload C dX2_setHead_68 0 rfl ?_
  refine j_iconst (v := 4) C dX2_setHead_70 (by decide) ?_
  refine j_iadd (v := nI ((s9 * 5) + 4)) C dX2_setHead_71 (nI_add (s9 * 5) 4) ?_
  refine j_iload C dX2_setHead_72 7 rfl ?_
  refine j_iast (j := ((s9 * 5) + 4)) C dX2_setHead_74 m_q k_q (inr_of (n := 2470) l_q (vp_in_nI (by omega) (by omega))) (nI_clamp (by omega)) ?_
  show J _ _ _ _ _ 75 _
  exact j_vret C M dX2_setHead_75 (by decide) (by decide) ⟨rfl, ((((((Fm.refl (WI := (fun _ _ => False)) (WR := (fun _ _ => False)) (WA := (fun b9 => b9 = q))).tI _ _ (fun _ => rfl)).tI _ _ (fun _ => rfl)).tI _ _ (fun _ => rfl)).tI _ _ (fun _ => rfl)).tI _ _ (fun _ => rfl))⟩

theorem dX2_init_0 : decode cX2_init 0 = .ok (.aload_n 0, 1) := by decide +kernel
theorem dX2_init_1 : decode cX2_init 1 = .ok (.invokespecial 5, 3) := by decide +kernel
theorem dX2_init_4 : decode cX2_init 4 = .ok (.aload_n 0, 1) := by decide +kernel
theorem dX2_init_5 : decode cX2_init 5 = .ok (.new 11, 3) := by decide +kernel
theorem dX2_init_8 : decode cX2_init 8 = .ok (.dup, 1) := by decide +kernel
theorem dX2_init_9 : decode cX2_init 9 = .ok (.invokespecial 13, 3) := by decide +kernel
theorem dX2_init_12 : decode cX2_init 12 = .ok (.putfield 14, 3) := by decide +kernel
theorem dX2_init_15 : decode cX2_init 15 = .ok (.aload_n 0, 1) := by decide +kernel
theorem dX2_init_16 : decode cX2_init 16 = .ok (.bipush 119, 2) := by decide +kernel
theorem dX2_init_18 : decode cX2_init 18 = .ok (.newarray .int, 2) := by decide +kernel
theorem dX2_init_20 : decode cX2_init 20 = .ok (.putfield 18, 3) := by decide +kernel
theorem dX2_init_23 : decode cX2_init 23 = .ok (.aload_n 0, 1) := by decide +kernel
theorem dX2_init_24 : decode cX2_init 24 = .ok (.sipush 4352, 3) := by decide +kernel
theorem dX2_init_27 : decode cX2_init 27 = .ok (.newarray .int, 2) := by decide +kernel
theorem dX2_init_29 : decode cX2_init 29 = .ok (.putfield 22, 3) := by decide +kernel
theorem dX2_init_32 : decode cX2_init 32 = .ok (.aload_n 0, 1) := by decide +kernel
theorem dX2_init_33 : decode cX2_init 33 = .ok (.sipush 400, 3) := by decide +kernel
theorem dX2_init_36 : decode cX2_init 36 = .ok (.newarray .boolean, 2) := by decide +kernel
theorem dX2_init_38 : decode cX2_init 38 = .ok (.putfield 25, 3) := by decide +kernel
theorem dX2_init_41 : decode cX2_init 41 = .ok (.aload_n 0, 1) := by decide +kernel
theorem dX2_init_42 : decode cX2_init 42 = .ok (.sipush 2470, 3) := by decide +kernel
theorem dX2_init_45 : decode cX2_init 45 = .ok (.newarray .int, 2) := by decide +kernel
theorem dX2_init_47 : decode cX2_init 47 = .ok (.putfield 29, 3) := by decide +kernel
theorem dX2_init_50 : decode cX2_init 50 = .ok (.aload_n 0, 1) := by decide +kernel
theorem dX2_init_51 : decode cX2_init 51 = .ok (.sipush 15808, 3) := by decide +kernel
theorem dX2_init_54 : decode cX2_init 54 = .ok (.newarray .int, 2) := by decide +kernel
theorem dX2_init_56 : decode cX2_init 56 = .ok (.putfield 32, 3) := by decide +kernel
theorem dX2_init_59 : decode cX2_init 59 = .ok (.aload_n 0, 1) := by decide +kernel
theorem dX2_init_60 : decode cX2_init 60 = .ok (.bipush 8, 2) := by decide +kernel
theorem dX2_init_62 : decode cX2_init 62 = .ok (.newarray .int, 2) := by decide +kernel
theorem dX2_init_64 : decode cX2_init 64 = .ok (.putfield 35, 3) := by decide +kernel
theorem dX2_init_67 : decode cX2_init 67 = .ok (.aload_n 0, 1) := by decide +kernel
theorem dX2_init_68 : decode cX2_init 68 = .ok (.getfield 35, 3) := by decide +kernel
theorem dX2_init_71 : decode cX2_init 71 = .ok (.invokestatic 38, 3) := by decide +kernel
theorem dX2_init_74 : decode cX2_init 74 = .ok (.aload_n 0, 1) := by decide +kernel
theorem dX2_init_75 : decode cX2_init 75 = .ok (.getfield 35, 3) := by decide +kernel
theorem dX2_init_78 : decode cX2_init 78 = .ok (.iconst 0, 1) := by decide +kernel
theorem dX2_init_79 : decode cX2_init 79 = .ok (.aload_n 0, 1) := by decide +kernel
theorem dX2_init_80 : decode cX2_init 80 = .ok (.getfield 18, 3) := by decide +kernel
theorem dX2_init_83 : decode cX2_init 83 = .ok (.bipush 112, 2) := by decide +kernel
theorem dX2_init_85 : decode cX2_init 85 = .ok (.bipush 7, 2) := by decide +kernel
theorem dX2_init_87 : decode cX2_init 87 = .ok (.invokestatic 42, 3) := by decide +kernel
theorem dX2_init_90 : decode cX2_init 90 = .ok (.bipush 33, 2) := by decide +kernel
theorem dX2_init_92 : decode cX2_init 92 = .ok (.istore_n 1, 1) := by decide +kernel
theorem dX2_init_93 : decode cX2_init 93 = .ok (.iload_n 1, 1) := by decide +kernel
theorem dX2_init_94 : decode cX2_init 94 = .ok (.bipush 126, 2) := by decide +kernel
theorem dX2_init_96 : decode cX2_init 96 = .ok (.if_icmp .gt 97, 3) := by decide +kernel
theorem dX2_init_99 : decode cX2_init 99 = .ok (.sipush 400, 3) := by decide +kernel
theorem dX2_init_102 : decode cX2_init 102 = .ok (.iload_n 1, 1) := by decide +kernel
theorem dX2_init_103 : decode cX2_init 103 = .ok (.iadd, 1) := by decide +kernel
theorem dX2_init_104 : decode cX2_init 104 = .ok (.bipush 33, 2) := by decide +kernel
theorem dX2_init_106 : decode cX2_init 106 = .ok (.isub, 1) := by decide +kernel
theorem dX2_init_107 : decode cX2_init 107 = .ok (.istore_n 2, 1) := by decide +kernel
theorem dX2_init_108 : decode cX2_init 108 = .ok (.aload_n 0, 1) := by decide +kernel
theorem dX2_init_109 : decode cX2_init 109 = .ok (.getfield 22, 3) := by decide +kernel
theorem dX2_init_112 : decode cX2_init 112 = .ok (.sipush 4096, 3) := by decide +kernel
theorem dX2_init_115 : decode cX2_init 115 = .ok (.iload_n 1, 1) := by decide +kernel
theorem dX2_init_116 : decode cX2_init 116 = .ok (.iadd, 1) := by decide +kernel
theorem dX2_init_117 : decode cX2_init 117 = .ok (.iload_n 2, 1) := by decide +kernel
theorem dX2_init_118 : decode cX2_init 118 = .ok (.iconst 1, 1) := by decide +kernel
theorem dX2_init_119 : decode cX2_init 119 = .ok (.iadd, 1) := by decide +kernel
theorem dX2_init_120 : decode cX2_init 120 = .ok (.iastore, 1) := by decide +kernel
theorem dX2_init_121 : decode cX2_init 121 = .ok (.aload_n 0, 1) := by decide +kernel
theorem dX2_init_122 : decode cX2_init 122 = .ok (.iload_n 2, 1) := by decide +kernel
theorem dX2_init_123 : decode cX2_init 123 = .ok (.iconst 0, 1) := by decide +kernel
theorem dX2_init_124 : decode cX2_init 124 = .ok (.bipush 7, 2) := by decide +kernel
theorem dX2_init_126 : decode cX2_init 126 = .ok (.bipush 6, 2) := by decide +kernel
theorem dX2_init_128 : decode cX2_init 128 = .ok (.bipush 8, 2) := by decide +kernel
theorem dX2_init_130 : decode cX2_init 130 = .ok (.sipush 720, 3) := by decide +kernel
theorem dX2_init_133 : decode cX2_init 133 = .ok (.invokevirtual 48, 3) := by decide +kernel
theorem dX2_init_136 : decode cX2_init 136 = .ok (.iconst 0, 1) := by decide +kernel
theorem dX2_init_137 : decode cX2_init 137 = .ok (.istore_n 3, 1) := by decide +kernel
theorem dX2_init_138 : decode cX2_init 138 = .ok (.iload_n 3, 1) := by decide +kernel
theorem dX2_init_139 : decode cX2_init 139 = .ok (.bipush 8, 2) := by decide +kernel
theorem dX2_init_141 : decode cX2_init 141 = .ok (.if_icmp .ge 46, 3) := by decide +kernel
theorem dX2_init_144 : decode cX2_init 144 = .ok (.iload_n 1, 1) := by decide +kernel
theorem dX2_init_145 : decode cX2_init 145 = .ok (.iload_n 1, 1) := by decide +kernel
theorem dX2_init_146 : decode cX2_init 146 = .ok (.imul, 1) := by decide +kernel
theorem dX2_init_147 : decode cX2_init 147 = .ok (.bipush 7, 2) := by decide +kernel
theorem dX2_init_149 : decode cX2_init 149 = .ok (.iload_n 1, 1) := by decide +kernel
theorem dX2_init_150 : decode cX2_init 150 = .ok (.imul, 1) := by decide +kernel
theorem dX2_init_151 : decode cX2_init 151 = .ok (.iload_n 3, 1) := by decide +kernel
theorem dX2_init_152 : decode cX2_init 152 = .ok (.imul, 1) := by decide +kernel
theorem dX2_init_153 : decode cX2_init 153 = .ok (.iadd, 1) := by decide +kernel
theorem dX2_init_154 : decode cX2_init 154 = .ok (.bipush 13, 2) := by decide +kernel
theorem dX2_init_156 : decode cX2_init 156 = .ok (.iload_n 3, 1) := by decide +kernel
theorem dX2_init_157 : decode cX2_init 157 = .ok (.imul, 1) := by decide +kernel
theorem dX2_init_158 : decode cX2_init 158 = .ok (.iload_n 3, 1) := by decide +kernel
theorem dX2_init_159 : decode cX2_init 159 = .ok (.imul, 1) := by decide +kernel
theorem dX2_init_160 : decode cX2_init 160 = .ok (.iadd, 1) := by decide +kernel
theorem dX2_init_161 : decode cX2_init 161 = .ok (.iconst 4, 1) := by decide +kernel
theorem dX2_init_162 : decode cX2_init 162 = .ok (.idiv, 1) := by decide +kernel
theorem dX2_init_163 : decode cX2_init 163 = .ok (.istore 4, 2) := by decide +kernel
theorem dX2_init_165 : decode cX2_init 165 = .ok (.aload_n 0, 1) := by decide +kernel
theorem dX2_init_166 : decode cX2_init 166 = .ok (.getfield 32, 3) := by decide +kernel
theorem dX2_init_169 : decode cX2_init 169 = .ok (.iload_n 2, 1) := by decide +kernel
theorem dX2_init_170 : decode cX2_init 170 = .ok (.bipush 32, 2) := by decide +kernel
theorem dX2_init_172 : decode cX2_init 172 = .ok (.imul, 1) := by decide +kernel
theorem dX2_init_173 : decode cX2_init 173 = .ok (.iload_n 3, 1) := by decide +kernel
theorem dX2_init_174 : decode cX2_init 174 = .ok (.iadd, 1) := by decide +kernel
theorem dX2_init_175 : decode cX2_init 175 = .ok (.iload 4, 2) := by decide +kernel
theorem dX2_init_177 : decode cX2_init 177 = .ok (.bipush 26, 2) := by decide +kernel
theorem dX2_init_179 : decode cX2_init 179 = .ok (.ishl, 1) := by decide +kernel
theorem dX2_init_180 : decode cX2_init 180 = .ok (.iastore, 1) := by decide +kernel
theorem dX2_init_181 : decode cX2_init 181 = .ok (.iinc 3 1, 3) := by decide +kernel
theorem dX2_init_184 : decode cX2_init 184 = .ok (.goto (-46), 3) := by decide +kernel
theorem dX2_init_187 : decode cX2_init 187 = .ok (.iinc 1 1, 3) := by decide +kernel
theorem dX2_init_190 : decode cX2_init 190 = .ok (.goto (-97), 3) := by decide +kernel
theorem dX2_init_193 : decode cX2_init 193 = .ok (.return_, 1) := by decide +kernel

set_option maxRecDepth 100000 in
set_option maxHeartbeats 4000000 in
theorem c_X2_init (S : Hp) (h : Nat) (hm : h ∈ hL S) (hk : hK S h = 2) : Ct 3 yX2_init cX2_init 5 none 8 23174 [.ref h] S (fun r S' => r = none ∧ Fm (fun _ _ => False) (fun f9 b9 => b9 = h) (fun _ => False) S S' ∧ ∃ q0 q1 q2 q4 q5 q6 q7 q3 : Nat, q0 ∉ hL S ∧ q0 ∈ hL S' ∧ Kd S' q0 8 ∧ hR S' 200 h = some q0 ∧ q1 ∉ hL S ∧ q1 ∈ hL S' ∧ Kd S' q1 14 ∧ Ln S' q1 16 ∧ hR S' 800 q0 = some q1 ∧ (∀ j, aI S' q1 j = 0) ∧ q2 ∉ hL S ∧ q2 ∈ hL S' ∧ Kd S' q2 14 ∧ Ln S' q2 119 ∧ hR S' 201 h = some q2 ∧ q4 ∉ hL S ∧ q4 ∈ hL S' ∧ Kd S' q4 14 ∧ Ln S' q4 4352 ∧ hR S' 202 h = some q4 ∧ q5 ∉ hL S ∧ q5 ∈ hL S' ∧ Kd S' q5 17 ∧ Ln S' q5 400 ∧ hR S' 203 h = some q5 ∧ (∀ j, aI S' q5 j = 0) ∧ q6 ∉ hL S ∧ q6 ∈ hL S' ∧ Kd S' q6 14 ∧ Ln S' q6 2470 ∧ hR S' 204 h = some q6 ∧ q7 ∉ hL S ∧ q7 ∈ hL S' ∧ Kd S' q7 14 ∧ Ln S' q7 15808 ∧ hR S' 205 h = some q7 ∧ q3 ∉ hL S ∧ q3 ∈ hL S' ∧ Kd S' q3 14 ∧ Ln S' q3 8 ∧ hR S' 207 h = some q3 ∧ NL S [q0, q1, q2, q4, q5, q6, q7, q3] S') := by
  refine ct_of (by decide) (Nat.le_of_ble_eq_true rfl) fun x hn9 C M hm9 => ?_
  have C : CB x RX2 cX2_init := C
  refine J.eq (lv' := [(0, .ref h)]) rfl rfl rfl ?_
  refine j_aload_n C dX2_init_0 rfl 0 rfl ?_
  refine j_objInit C mlX2_5 nst_oi (M.fl (by decide)) dX2_init_1 ?_
  refine j_aload_n C dX2_init_4 rfl 0 rfl ?_
  refine j_new (N := 1) C (ci := 8) rfl rfl klX2_11 knX8 kiX8 (M.cells (by decide)) (M.slots (by decide)) dX2_init_5 (fun q_1 hq_2 => ?_)
  have hz_3 : q_1 ∉ hL S := hq_2
  refine j_dup C dX2_init_8 rfl ?_
  have hf_4 : Fm (fun _ _ => False) (fun f9 b9 => b9 = h) (fun _ => False) S (nO S q_1 8) := ((Fm.refl (WI := (fun _ _ => False)) (WR := (fun f9 b9 => b9 = h)) (WA := (fun _ => False))).nO _ hq_2)
  refine j_callI C [] [.ref q_1, .ref h] mlX2_13 mcX8_init (c_X8_init (nO S q_1 8) q_1 mem_new (kd_nO' (k := 8))) (M.rm (by decide) (by decide) (Nat.le_of_ble_eq_true rfl) (Nat.le_of_ble_eq_true rfl)) rfl rfl (Nat.le_of_ble_eq_true rfl) dX2_init_9 (fun r_13 S_14 hp_15 => ?_)
  obtain ⟨rfl, hf_16, q_5, e_6, e_7, e_8, e_9, e_10, e_11, hNl_12⟩ := hp_15
  refine J.eq (st' := [.ref q_1, .ref h]) rfl rfl rfl ?_
  have hm_17 : h ∈ hL S_14 := hf_16.mem (mem_old hm)
  have hk_18 : Kd S_14 h 2 := hf_16.kd (mem_old hm) (kd_nO (k := 8) hq_2 hm hk)
  have hm_19 : q_1 ∈ hL S_14 := hf_16.mem mem_new
  have hk_20 : Kd S_14 q_1 8 := hf_16.kd mem_new (kd_nO' (k := 8))
  have hf_21 : Fm (fun _ _ => False) (fun f9 b9 => b9 = h) (fun _ => False) S S_14 := hf_4.then hf_16 (fun a9 ha9 => ⟨(fun f9 h9 => h9.elim), (fun f9 h9 => (fun h8 => absurd (h8 ▸ ha9) hz_3) h9), (fun h9 => h9.elim)⟩)
  have hN_22 : NL S [q_1] S_14 := NL.mono (show NL S [q_1] (nO S q_1 8) from NL.nO (NL.nil : NL S [] S) hq_2 hz_3) (fun a9 h9 => hf_16.mem h9)
  have hz_23 : q_5 ∉ hL S := fun h9 => e_6 (hf_4.mem h9)
  have hN_24 : NL S [q_1, q_5] S_14 := NL.app (show NL S [q_1] (nO S q_1 8) from NL.nO (NL.nil : NL S [] S) hq_2 hz_3) hNl_12 (fun a9 h9 => hf_16.mem h9) (fun a9 h9 => hf_4.mem h9)
  refine j_putrF (f := 200) C hm9 flX2_14o (by decide) rfl rfl dX2_init_12 hm_17 hk_18 rfl ?_
  refine j_aload_n C dX2_init_15 rfl 0 rfl ?_
  show J _ _ _ _ _ 16 _
  refine j_bipush (v := 119) C dX2_init_16 (by decide) ?_
  have hf_27 : Fm (fun _ _ => False) (fun f9 b9 => b9 = h) (fun _ => False) S (sR S_14 200 h (some q_1)) := (hf_21.sR _ (fun _ => rfl))
  refine j_newI (N := 119) C ka_int (by decide) (by decide) (Nat.le_of_ble_eq_true rfl) (M.cells (by decide)) (M.slots (Nat.le_of_ble_eq_true rfl)) dX2_init_18 (fun q_25 hq_26 => ?_)
  have hz_28 : q_25 ∉ hL S := fun h9 => hq_26 (hf_27.mem h9)
  refine j_putrF (f := 201) C hm9 flX2_18o (by decide) rfl rfl dX2_init_20 (mem_old hm_17) (kd_nA (k := 14) (n := 119) hq_26 hm_17 hk_18) rfl ?_
  refine j_aload_n C dX2_init_23 rfl 0 rfl ?_
  refine j_sipush (v := 4352) C dX2_init_24 (by decide) ?_
  have hf_31 : Fm (fun _ _ => False) (fun f9 b9 => b9 = h) (fun _ => False) S (sR (nA (sR S_14 200 h (some q_1)) q_25 14 119) 201 h (some q_25)) := ((hf_27.nA _ _ hq_26).sR _ (fun _ => rfl))
  obtain ⟨S_29, eS_30⟩ : ∃ S9 : Hp, S9 = (sR (nA (sR S_14 200 h (some q_1)) q_25 14 119) 201 h (some q_25)) := ⟨_, rfl⟩
  refine J.eq (S' := S_29) eS_30.symm rfl rfl ?_
  have hm_32 : h ∈ hL S_29 := by rw [eS_30]; exact (mem_old hm_17)
  have hk_33 : Kd S_29 h 2 := by rw [eS_30]; exact (kd_nA (k := 14) (n := 119) hq_26 hm_17 hk_18)
  have hm_34 : q_1 ∈ hL S_29 := by rw [eS_30]; exact (mem_old hm_19)
  have hk_35 : Kd S_29 q_1 8 := by rw [eS_30]; exact (kd_nA (k := 14) (n := 119) hq_26 hm_19 hk_20)
  have hm_36 : q_25 ∈ hL S_29 := by rw [eS_30]; exact mem_new
  have hk_37 : Kd S_29 q_25 14 := by rw [eS_30]; exact (kd_nA' (k := 14) (n := 119))
  have hn_38 : Ln S_29 q_25 119 := by rw [eS_30]; exact (ln_nA' (k := 14))
  have hz_39 : ∀ j, aI S_29 q_25 j = 0 := by rw [eS_30]; exact (fun j9 => rd_nAI' (k := 14) (n := 119))
  have hm_40 : q_5 ∈ hL S_29 := by rw [eS_30]; exact (mem_old e_7)
  have hk_41 : Kd S_29 q_5 14 := by rw [eS_30]; exact (kd_nA (k := 14) (n := 119) hq_26 e_7 e_8)
  have hn_42 : Ln S_29 q_5 16 := by rw [eS_30]; exact (ln_nA (k := 14) hq_26 e_7 e_9)
  have hz_43 : ∀ j, aI S_29 q_5 j = 0 := by rw [eS_30]; exact (fun j9 => rd_nAI (k := 14) (n := 119) hq_26 e_7 (e_11 j9))
  have hv_44 : hR S_29 200 h = (some q_1) := by rw [eS_30]; exact (rd_sRf (S := (nA (sR S_14 200 h (some q_1)) q_25 14 119)) (g := 201) (a := h) (v := (some q_25)) (by decide) (rd_sR (S := S_14) (g := 200) (a := h) (v := (some q_1))))
  have hv_45 : hR S_29 201 h = (some q_25) := by rw [eS_30]; exact (rd_sR (S := (nA (sR S_14 200 h (some q_1)) q_25 14 119)) (g := 201) (a := h) (v := (some q_25)))
  have hv_46 : hR S_29 800 q_1 = (some q_5) := by rw [eS_30]; exact (rd_sRf (S := (nA (sR S_14 200 h (some q_1)) q_25 14 119)) (g := 201) (a := h) (v := (some q_25)) (by decide) (rd_sRf (S := S_14) (g := 200) (a := h) (v := (some q_1)) (by decide) e_10))
  have hf_47 : Fm (fun _ _ => False) (fun f9 b9 => b9 = h) (fun _ => False) S S_29 := by rw [eS_30]; exact hf_31
  have hN_48 : NL S [q_1, q_5, q_25] S_29 := by rw [eS_30]; exact (NL.sR (S := (nA (sR S_14 200 h (some q_1)) q_25 14 119)) (show NL S [q_1, q_5, q_25] (nA (sR S_14 200 h (some q_1)) q_25 14 119) from NL.nA (NL.sR (S := S_14) hN_24) hq_26 hz_28))
  refine j_newI (N := 4352) C ka_int (by decide) (by decide) (Nat.le_of_ble_eq_true rfl) (M.cells (by decide)) (M.slots (Nat.le_of_ble_eq_true rfl)) dX2_init_27 (fun q_49 hq_50 => ?_)
  have hz_51 : q_49 ∉ hL S := fun h9 => hq_50 (hf_47.mem h9)
  refine j_putrF (f := 202) C hm9 flX2_22o (by decide) rfl rfl dX2_init_29 (mem_old hm_32) (kd_nA (k := 14) (n := 4352) hq_50 hm_32 hk_33) rfl ?_
  refine j_aload_n C dX2_init_32 rfl 0 rfl ?_
  show J _ _ _ _ _ 33 _
  refine j_sipush (v := 400) C dX2_init_33 (by decide) ?_
  have hf_54 : Fm (fun _ _ => False) (fun f9 b9 => b9 = h) (fun _ => False) S (sR (nA S_29 q_49 14 4352) 202 h (some q_49)) := ((hf_47.nA _ _ hq_50).sR _ (fun _ => rfl))
  obtain ⟨S_52, eS_53⟩ : ∃ S9 : Hp, S9 = (sR (nA S_29 q_49 14 4352) 202 h (some q_49)) := ⟨_, rfl⟩
  refine J.eq (S' := S_52) eS_53.symm rfl rfl ?_
  have hm_55 : h ∈ hL S_52 := by rw [eS_53]; exact (mem_old hm_32)
  have hk_56 : Kd S_52 h 2 := by rw [eS_53]; exact (kd_nA (k := 14) (n := 4352) hq_50 hm_32 hk_33)
  have hm_57 : q_1 ∈ hL S_52 := by rw [eS_53]; exact (mem_old hm_34)
  have hk_58 : Kd S_52 q_1 8 := by rw [eS_53]; exact (kd_nA (k := 14) (n := 4352) hq_50 hm_34 hk_35)
  have hm_59 : q_25 ∈ hL S_52 := by rw [eS_53]; exact (mem_old hm_36)
  have hk_60 : Kd S_52 q_25 14 := by rw [eS_53]; exact (kd_nA (k := 14) (n := 4352) hq_50 hm_36 hk_37)
  have hn_61 : Ln S_52 q_25 119 := by rw [eS_53]; exact (ln_nA (k := 14) hq_50 hm_36 hn_38)
  have hz_62 : ∀ j, aI S_52 q_25 j = 0 := by rw [eS_53]; exact (fun j9 => rd_nAI (k := 14) (n := 4352) hq_50 hm_36 (hz_39 j9))
  have hm_63 : q_49 ∈ hL S_52 := by rw [eS_53]; exact mem_new
  have hk_64 : Kd S_52 q_49 14 := by rw [eS_53]; exact (kd_nA' (k := 14) (n := 4352))
  have hn_65 : Ln S_52 q_49 4352 := by rw [eS_53]; exact (ln_nA' (k := 14))
  have hz_66 : ∀ j, aI S_52 q_49 j = 0 := by rw [eS_53]; exact (fun j9 => rd_nAI' (k := 14) (n := 4352))
  have hm_67 : q_5 ∈ hL S_52 := by rw [eS_53]; exact (mem_old hm_40)
  have hk_68 : Kd S_52 q_5 14 := by rw [eS_53]; exact (kd_nA (k := 14) (n := 4352) hq_50 hm_40 hk_41)
  have hn_69 : Ln S_52 q_5 16 := by rw [eS_53]; exact (ln_nA (k := 14) hq_50 hm_40 hn_42)
  have hz_70 : ∀ j, aI S_52 q_5 j = 0 := by rw [eS_53]; exact (fun j9 => rd_nAI (k := 14) (n := 4352) hq_50 hm_40 (hz_43 j9))
  have hv_71 : hR S_52 200 h = (some q_1) := by rw [eS_53]; exact (rd_sRf (S := (nA S_29 q_49 14 4352)) (g := 202) (a := h) (v := (some q_49)) (by decide) hv_44)
  have hv_72 : hR S_52 201 h = (some q_25) := by rw [eS_53]; exact (rd_sRf (S := (nA S_29 q_49 14 4352)) (g := 202) (a := h) (v := (some q_49)) (by decide) hv_45)
  have hv_73 : hR S_52 202 h = (some q_49) := by rw [eS_53]; exact (rd_sR (S := (nA S_29 q_49 14 4352)) (g := 202) (a := h) (v := (some q_49)))
  have hv_74 : hR S_52 800 q_1 = (some q_5) := by rw [eS_53]; exact (rd_sRf (S := (nA S_29 q_49 14 4352)) (g := 202) (a := h) (v := (some q_49)) (by decide) hv_46)
  have hf_75 : Fm (fun _ _ => False) (fun f9 b9 => b9 = h) (fun _ => False) S S_52 := by rw [eS_53]; exact hf_54
  have hN_76 : NL S [q_1, q_5, q_25, q_49] S_52 := by rw [eS_53]; exact (NL.sR (S := (nA S_29 q_49 14 4352)) (show NL S [q_1, q_5, q_25, q_49] (nA S_29 q_49 14 4352) from NL.nA hN_48 hq_50 hz_51))
  refine j_newZ (N := 400) C ka_boolean (by decide) (by decide) (Nat.le_of_ble_eq_true rfl) (M.cells (by decide)) (M.slots (Nat.le_of_ble_eq_true rfl)) dX2_init_36 (fun q_77 hq_78 => ?_)
  have hz_79 : q_77 ∉ hL S := fun h9 => hq_78 (hf_75.mem h9)
  refine j_putrF (f := 203) C hm9 flX2_25o (by decide) rfl rfl dX2_init_38 (mem_old hm_55) (kd_nA (k := 17) (n := 400) hq_78 hm_55 hk_56) rfl ?_
  refine j_aload_n C dX2_init_41 rfl 0 rfl ?_
  refine j_sipush (v := 2470) C dX2_init_42 (by decide) ?_
  have hf_82 : Fm (fun _ _ => False) (fun f9 b9 => b9 = h) (fun _ => False) S (sR (nA S_52 q_77 17 400) 203 h (some q_77)) := ((hf_75.nA _ _ hq_78).sR _ (fun _ => rfl))
  obtain ⟨S_80, eS_81⟩ : ∃ S9 : Hp, S9 = (sR (nA S_52 q_77 17 400) 203 h (some q_77)) := ⟨_, rfl⟩
  refine J.eq (S' := S_80) eS_81.symm rfl rfl ?_
  have hm_83 : h ∈ hL S_80 := by rw [eS_81]; exact (mem_old hm_55)
  have hk_84 : Kd S_80 h 2 := by rw [eS_81]; exact (kd_nA (k := 17) (n := 400) hq_78 hm_55 hk_56)
  have hm_85 : q_1 ∈ hL S_80 := by rw [eS_81]; exact (mem_old hm_57)
  have hk_86 : Kd S_80 q_1 8 := by rw [eS_81]; exact (kd_nA (k := 17) (n := 400) hq_78 hm_57 hk_58)
  have hm_87 : q_25 ∈ hL S_80 := by rw [eS_81]; exact (mem_old hm_59)
  have hk_88 : Kd S_80 q_25 14 := by rw [eS_81]; exact (kd_nA (k := 17) (n := 400) hq_78 hm_59 hk_60)
  have hn_89 : Ln S_80 q_25 119 := by rw [eS_81]; exact (ln_nA (k := 17) hq_78 hm_59 hn_61)
  have hz_90 : ∀ j, aI S_80 q_25 j = 0 := by rw [eS_81]; exact (fun j9 => rd_nAI (k := 17) (n := 400) hq_78 hm_59 (hz_62 j9))
  have hm_91 : q_49 ∈ hL S_80 := by rw [eS_81]; exact (mem_old hm_63)
  have hk_92 : Kd S_80 q_49 14 := by rw [eS_81]; exact (kd_nA (k := 17) (n := 400) hq_78 hm_63 hk_64)
  have hn_93 : Ln S_80 q_49 4352 := by rw [eS_81]; exact (ln_nA (k := 17) hq_78 hm_63 hn_65)
  have hz_94 : ∀ j, aI S_80 q_49 j = 0 := by rw [eS_81]; exact (fun j9 => rd_nAI (k := 17) (n := 400) hq_78 hm_63 (hz_66 j9))
  have hm_95 : q_5 ∈ hL S_80 := by rw [eS_81]; exact (mem_old hm_67)
  have hk_96 : Kd S_80 q_5 14 := by rw [eS_81]; exact (kd_nA (k := 17) (n := 400) hq_78 hm_67 hk_68)
  have hn_97 : Ln S_80 q_5 16 := by rw [eS_81]; exact (ln_nA (k := 17) hq_78 hm_67 hn_69)
  have hz_98 : ∀ j, aI S_80 q_5 j = 0 := by rw [eS_81]; exact (fun j9 => rd_nAI (k := 17) (n := 400) hq_78 hm_67 (hz_70 j9))
  have hm_99 : q_77 ∈ hL S_80 := by rw [eS_81]; exact mem_new
  have hk_100 : Kd S_80 q_77 17 := by rw [eS_81]; exact (kd_nA' (k := 17) (n := 400))
  have hn_101 : Ln S_80 q_77 400 := by rw [eS_81]; exact (ln_nA' (k := 17))
  have hz_102 : ∀ j, aI S_80 q_77 j = 0 := by rw [eS_81]; exact (fun j9 => rd_nAI' (k := 17) (n := 400))
  have hv_103 : hR S_80 200 h = (some q_1) := by rw [eS_81]; exact (rd_sRf (S := (nA S_52 q_77 17 400)) (g := 203) (a := h) (v := (some q_77)) (by decide) hv_71)
  have hv_104 : hR S_80 201 h = (some q_25) := by rw [eS_81]; exact (rd_sRf (S := (nA S_52 q_77 17 400)) (g := 203) (a := h) (v := (some q_77)) (by decide) hv_72)
  have hv_105 : hR S_80 202 h = (some q_49) := by rw [eS_81]; exact (rd_sRf (S := (nA S_52 q_77 17 400)) (g := 203) (a := h) (v := (some q_77)) (by decide) hv_73)
  have hv_106 : hR S_80 203 h = (some q_77) := by rw [eS_81]; exact (rd_sR (S := (nA S_52 q_77 17 400)) (g := 203) (a := h) (v := (some q_77)))
  have hv_107 : hR S_80 800 q_1 = (some q_5) := by rw [eS_81]; exact (rd_sRf (S := (nA S_52 q_77 17 400)) (g := 203) (a := h) (v := (some q_77)) (by decide) hv_74)
  have hf_108 : Fm (fun _ _ => False) (fun f9 b9 => b9 = h) (fun _ => False) S S_80 := by rw [eS_81]; exact hf_82
  have hN_109 : NL S [q_1, q_5, q_25, q_49, q_77] S_80 := by rw [eS_81]; exact (NL.sR (S := (nA S_52 q_77 17 400)) (show NL S [q_1, q_5, q_25, q_49, q_77] (nA S_52 q_77 17 400) from NL.nA hN_76 hq_78 hz_79))
  refine j_newI (N := 2470) C ka_int (by decide) (by decide) (Nat.le_of_ble_eq_true rfl) (M.cells (by decide)) (M.slots (Nat.le_of_ble_eq_true rfl)) dX2_init_45 (fun q_110 hq_111 => ?_)
  have hz_112 : q_110 ∉ hL S := fun h9 => hq_111 (hf_108.mem h9)
  refine j_putrF (f := 204) C hm9 flX2_29o (by decide) rfl rfl dX2_init_47 (mem_old hm_83) (kd_nA (k := 14) (n := 2470) hq_111 hm_83 hk_84) rfl ?_
  refine j_aload_n C dX2_init_50 rfl 0 rfl ?_
  show J _ _ _ _ _ 51 _
  refine j_sipush (v := 15808) C dX2_init_51 (by decide) ?_
  have hf_115 : Fm (fun _ _ => False) (fun f9 b9 => b9 = h) (fun _ => False) S (sR (nA S_80 q_110 14 2470) 204 h (some q_110)) := ((hf_108.nA _ _ hq_111).sR _ (fun _ => rfl))
  obtain ⟨S_113, eS_114⟩ : ∃ S9 : Hp, S9 = (sR (nA S_80 q_110 14 2470) 204 h (some q_110)) := ⟨_, rfl⟩
  refine J.eq (S' := S_113) eS_114.symm rfl rfl ?_
  have hm_116 : h ∈ hL S_113 := by rw [eS_114]; exact (mem_old hm_83)
  have hk_117 : Kd S_113 h 2 := by rw [eS_114]; exact (kd_nA (k := 14) (n := 2470) hq_111 hm_83 hk_84)
  have hm_118 : q_1 ∈ hL S_113 := by rw [eS_114]; exact (mem_old hm_85)
  have hk_119 : Kd S_113 q_1 8 := by rw [eS_114]; exact (kd_nA (k := 14) (n := 2470) hq_111 hm_85 hk_86)
  have hm_120 : q_110 ∈ hL S_113 := by rw [eS_114]; exact mem_new
  have hk_121 : Kd S_113 q_110 14 := by rw [eS_114]; exact (kd_nA' (k := 14) (n := 2470))
  have hn_122 : Ln S_113 q_110 2470 := by rw [eS_114]; exact (ln_nA' (k := 14))
  have hz_123 : ∀ j, aI S_113 q_110 j = 0 := by rw [eS_114]; exact (fun j9 => rd_nAI' (k := 14) (n := 2470))
  have hm_124 : q_25 ∈ hL S_113 := by rw [eS_114]; exact (mem_old hm_87)
  have hk_125 : Kd S_113 q_25 14 := by rw [eS_114]; exact (kd_nA (k := 14) (n := 2470) hq_111 hm_87 hk_88)
  have hn_126 : Ln S_113 q_25 119 := by rw [eS_114]; exact (ln_nA (k := 14) hq_111 hm_87 hn_89)
  have hz_127 : ∀ j, aI S_113 q_25 j = 0 := by rw [eS_114]; exact (fun j9 => rd_nAI (k := 14) (n := 2470) hq_111 hm_87 (hz_90 j9))
  have hm_128 : q_49 ∈ hL S_113 := by rw [eS_114]; exact (mem_old hm_91)
  have hk_129 : Kd S_113 q_49 14 := by rw [eS_114]; exact (kd_nA (k := 14) (n := 2470) hq_111 hm_91 hk_92)
  have hn_130 : Ln S_113 q_49 4352 := by rw [eS_114]; exact (ln_nA (k := 14) hq_111 hm_91 hn_93)
  have hz_131 : ∀ j, aI S_113 q_49 j = 0 := by rw [eS_114]; exact (fun j9 => rd_nAI (k := 14) (n := 2470) hq_111 hm_91 (hz_94 j9))
  have hm_132 : q_5 ∈ hL S_113 := by rw [eS_114]; exact (mem_old hm_95)
  have hk_133 : Kd S_113 q_5 14 := by rw [eS_114]; exact (kd_nA (k := 14) (n := 2470) hq_111 hm_95 hk_96)
  have hn_134 : Ln S_113 q_5 16 := by rw [eS_114]; exact (ln_nA (k := 14) hq_111 hm_95 hn_97)
  have hz_135 : ∀ j, aI S_113 q_5 j = 0 := by rw [eS_114]; exact (fun j9 => rd_nAI (k := 14) (n := 2470) hq_111 hm_95 (hz_98 j9))
  have hm_136 : q_77 ∈ hL S_113 := by rw [eS_114]; exact (mem_old hm_99)
  have hk_137 : Kd S_113 q_77 17 := by rw [eS_114]; exact (kd_nA (k := 14) (n := 2470) hq_111 hm_99 hk_100)
  have hn_138 : Ln S_113 q_77 400 := by rw [eS_114]; exact (ln_nA (k := 14) hq_111 hm_99 hn_101)
  have hz_139 : ∀ j, aI S_113 q_77 j = 0 := by rw [eS_114]; exact (fun j9 => rd_nAI (k := 14) (n := 2470) hq_111 hm_99 (hz_102 j9))
  have hv_140 : hR S_113 200 h = (some q_1) := by rw [eS_114]; exact (rd_sRf (S := (nA S_80 q_110 14 2470)) (g := 204) (a := h) (v := (some q_110)) (by decide) hv_103)
  have hv_141 : hR S_113 201 h = (some q_25) := by rw [eS_114]; exact (rd_sRf (S := (nA S_80 q_110 14 2470)) (g := 204) (a := h) (v := (some q_110)) (by decide) hv_104)
  have hv_142 : hR S_113 202 h = (some q_49) := by rw [eS_114]; exact (rd_sRf (S := (nA S_80 q_110 14 2470)) (g := 204) (a := h) (v := (some q_110)) (by decide) hv_105)
  have hv_143 : hR S_113 203 h = (some q_77) := by rw [eS_114]; exact (rd_sRf (S := (nA S_80 q_110 14 2470)) (g := 204) (a := h) (v := (some q_110)) (by decide) hv_106)
  have hv_144 : hR S_113 204 h = (some q_110) := by rw [eS_114]; exact (rd_sR (S := (nA S_80 q_110 14 2470)) (g := 204) (a := h) (v := (some q_110)))
  have hv_145 : hR S_113 800 q_1 = (some q_5) := by rw [eS_114]; exact (rd_sRf (S := (nA S_80 q_110 14 2470)) (g := 204) (a := h) (v := (some q_110)) (by decide) hv_107)
  have hf_146 : Fm (fun _ _ => False) (fun f9 b9 => b9 = h) (fun _ => False) S S_113 := by rw [eS_114]; exact hf_115
  have hN_147 : NL S [q_1, q_5, q_25, q_49, q_77, q_110] S_113 := by rw [eS_114]; exact (NL.sR (S := (nA S_80 q_110 14 2470)) (show NL S [q_1, q_5, q_25, q_49, q_77, q_110] (nA S_80 q_110 14 2470) from NL.nA hN_109 hq_111 hz_112))
  refine j_newI (N := 15808) C ka_int (by decide) (by decide) (Nat.le_of_ble_eq_true rfl) (M.cells (by decide)) (M.slots (Nat.le_of_ble_eq_true rfl)) dX2_init_54 (fun q_148 hq_149 => ?_)
  have hz_150 : q_148 ∉ hL S := fun h9 => hq_149 (hf_146.mem h9)
  refine j_putrF (f := 205) C hm9 flX2_32o (by decide) rfl rfl dX2_init_56 (mem_old hm_116) (kd_nA (k := 14) (n := 15808) hq_149 hm_116 hk_117) rfl ?_
  refine j_aload_n C dX2_init_59 rfl 0 rfl ?_
  refine j_bipush (v := 8) C dX2_init_60 (by decide) ?_
  have hf_153 : Fm (fun _ _ => False) (fun f9 b9 => b9 = h) (fun _ => False) S (sR (nA S_113 q_148 14 15808) 205 h (some q_148)) := ((hf_146.nA _ _ hq_149).sR _ (fun _ => rfl))
  obtain ⟨S_151, eS_152⟩ : ∃ S9 : Hp, S9 = (sR (nA S_113 q_148 14 15808) 205 h (some q_148)) := ⟨_, rfl⟩
  refine J.eq (S' := S_151) eS_152.symm rfl rfl ?_
  have hm_154 : h ∈ hL S_151 := by rw [eS_152]; exact (mem_old hm_116)
  have hk_155 : Kd S_151 h 2 := by rw [eS_152]; exact (kd_nA (k := 14) (n := 15808) hq_149 hm_116 hk_117)
  have hm_156 : q_1 ∈ hL S_151 := by rw [eS_152]; exact (mem_old hm_118)
  have hk_157 : Kd S_151 q_1 8 := by rw [eS_152]; exact (kd_nA (k := 14) (n := 15808) hq_149 hm_118 hk_119)
  have hm_158 : q_110 ∈ hL S_151 := by rw [eS_152]; exact (mem_old hm_120)
  have hk_159 : Kd S_151 q_110 14 := by rw [eS_152]; exact (kd_nA (k := 14) (n := 15808) hq_149 hm_120 hk_121)
  have hn_160 : Ln S_151 q_110 2470 := by rw [eS_152]; exact (ln_nA (k := 14) hq_149 hm_120 hn_122)
  have hz_161 : ∀ j, aI S_151 q_110 j = 0 := by rw [eS_152]; exact (fun j9 => rd_nAI (k := 14) (n := 15808) hq_149 hm_120 (hz_123 j9))
  have hm_162 : q_148 ∈ hL S_151 := by rw [eS_152]; exact mem_new
  have hk_163 : Kd S_151 q_148 14 := by rw [eS_152]; exact (kd_nA' (k := 14) (n := 15808))
  have hn_164 : Ln S_151 q_148 15808 := by rw [eS_152]; exact (ln_nA' (k := 14))
  have hz_165 : ∀ j, aI S_151 q_148 j = 0 := by rw [eS_152]; exact (fun j9 => rd_nAI' (k := 14) (n := 15808))
  have hm_166 : q_25 ∈ hL S_151 := by rw [eS_152]; exact (mem_old hm_124)
  have hk_167 : Kd S_151 q_25 14 := by rw [eS_152]; exact (kd_nA (k := 14) (n := 15808) hq_149 hm_124 hk_125)
  have hn_168 : Ln S_151 q_25 119 := by rw [eS_152]; exact (ln_nA (k := 14) hq_149 hm_124 hn_126)
  have hz_169 : ∀ j, aI S_151 q_25 j = 0 := by rw [eS_152]; exact (fun j9 => rd_nAI (k := 14) (n := 15808) hq_149 hm_124 (hz_127 j9))
  have hm_170 : q_49 ∈ hL S_151 := by rw [eS_152]; exact (mem_old hm_128)
  have hk_171 : Kd S_151 q_49 14 := by rw [eS_152]; exact (kd_nA (k := 14) (n := 15808) hq_149 hm_128 hk_129)
  have hn_172 : Ln S_151 q_49 4352 := by rw [eS_152]; exact (ln_nA (k := 14) hq_149 hm_128 hn_130)
  have hz_173 : ∀ j, aI S_151 q_49 j = 0 := by rw [eS_152]; exact (fun j9 => rd_nAI (k := 14) (n := 15808) hq_149 hm_128 (hz_131 j9))
  have hm_174 : q_5 ∈ hL S_151 := by rw [eS_152]; exact (mem_old hm_132)
  have hk_175 : Kd S_151 q_5 14 := by rw [eS_152]; exact (kd_nA (k := 14) (n := 15808) hq_149 hm_132 hk_133)
  have hn_176 : Ln S_151 q_5 16 := by rw [eS_152]; exact (ln_nA (k := 14) hq_149 hm_132 hn_134)
  have hz_177 : ∀ j, aI S_151 q_5 j = 0 := by rw [eS_152]; exact (fun j9 => rd_nAI (k := 14) (n := 15808) hq_149 hm_132 (hz_135 j9))
  have hm_178 : q_77 ∈ hL S_151 := by rw [eS_152]; exact (mem_old hm_136)
  have hk_179 : Kd S_151 q_77 17 := by rw [eS_152]; exact (kd_nA (k := 14) (n := 15808) hq_149 hm_136 hk_137)
  have hn_180 : Ln S_151 q_77 400 := by rw [eS_152]; exact (ln_nA (k := 14) hq_149 hm_136 hn_138)
  have hz_181 : ∀ j, aI S_151 q_77 j = 0 := by rw [eS_152]; exact (fun j9 => rd_nAI (k := 14) (n := 15808) hq_149 hm_136 (hz_139 j9))
  have hv_182 : hR S_151 200 h = (some q_1) := by rw [eS_152]; exact (rd_sRf (S := (nA S_113 q_148 14 15808)) (g := 205) (a := h) (v := (some q_148)) (by decide) hv_140)
  have hv_183 : hR S_151 201 h = (some q_25) := by rw [eS_152]; exact (rd_sRf (S := (nA S_113 q_148 14 15808)) (g := 205) (a := h) (v := (some q_148)) (by decide) hv_141)
  have hv_184 : hR S_151 202 h = (some q_49) := by rw [eS_152]; exact (rd_sRf (S := (nA S_113 q_148 14 15808)) (g := 205) (a := h) (v := (some q_148)) (by decide) hv_142)
  have hv_185 : hR S_151 203 h = (some q_77) := by rw [eS_152]; exact (rd_sRf (S := (nA S_113 q_148 14 15808)) (g := 205) (a := h) (v := (some q_148)) (by decide) hv_143)
  have hv_186 : hR S_151 204 h = (some q_110) := by rw [eS_152]; exact (rd_sRf (S := (nA S_113 q_148 14 15808)) (g := 205) (a := h) (v := (some q_148)) (by decide) hv_144)
  have hv_187 : hR S_151 205 h = (some q_148) := by rw [eS_152]; exact (rd_sR (S := (nA S_113 q_148 14 15808)) (g := 205) (a := h) (v := (some q_148)))
  have hv_188 : hR S_151 800 q_1 = (some q_5) := by rw [eS_152]; exact (rd_sRf (S := (nA S_113 q_148 14 15808)) (g := 205) (a := h) (v := (some q_148)) (by decide) hv_145)
  have hf_189 : Fm (fun _ _ => False) (fun f9 b9 => b9 = h) (fun _ => False) S S_151 := by rw [eS_152]; exact hf_153
  have hN_190 : NL S [q_1, q_5, q_25, q_49, q_77, q_110, q_148] S_151 := by rw [eS_152]; exact (NL.sR (S := (nA S_113 q_148 14 15808)) (show NL S [q_1, q_5, q_25, q_49, q_77, q_110, q_148] (nA S_113 q_148 14 15808) from NL.nA hN_147 hq_149 hz_150))
  refine j_newI (N := 8) C ka_int (by decide) (by decide) (Nat.le_of_ble_eq_true rfl) (M.cells (by decide)) (M.slots (Nat.le_of_ble_eq_true rfl)) dX2_init_62 (fun q_191 hq_192 => ?_)
  have hz_193 : q_191 ∉ hL S := fun h9 => hq_192 (hf_189.mem h9)
  refine j_putrF (f := 207) C hm9 flX2_35o (by decide) rfl rfl dX2_init_64 (mem_old hm_154) (kd_nA (k := 14) (n := 8) hq_192 hm_154 hk_155) rfl ?_
  refine j_aload_n C dX2_init_67 rfl 0 rfl ?_
  show J _ _ _ _ _ 68 _
  refine j_getr (f := 207) (v := q_191) C flX2_35 dX2_init_68 (mem_old hm_154) (kd_nA (k := 14) (n := 8) hq_192 hm_154 hk_155) (by decide) rfl (rd_sR (S := (nA S_151 q_191 14 8)) (g := 207) (a := h) (v := (some q_191))) ?_
  have hf_194 : Fm (fun _ _ => False) (fun f9 b9 => b9 = h) (fun _ => False) S (sR (nA S_151 q_191 14 8) 207 h (some q_191)) := ((hf_189.nA _ _ hq_192).sR _ (fun _ => rfl))
  refine j_callS C [.ref q_191] [] mlX2_38 mcX2_firstWishes (c_X2_firstWishes (sR (nA S_151 q_191 14 8) 207 h (some q_191)) q_191 mem_new (kd_nA' (k := 14) (n := 8)) (ln_nA' (k := 14))) (M.rm (by decide) (by decide) (Nat.le_of_ble_eq_true rfl) (Nat.le_of_ble_eq_true rfl)) rfl rfl (Nat.le_of_ble_eq_true rfl) dX2_init_71 (fun r_195 S_196 hp_197 => ?_)
  obtain ⟨rfl, e_198⟩ := hp_197
  refine J.eq (S' := (tI (tI (tI (rI (sR (nA S_151 q_191 14 8) 207 h (some q_191)) q_191 (fillN (aI (sR (nA S_151 q_191 14 8) 207 h (some q_191)) q_191) 8 0)) q_191 2 (720 : Int32)) q_191 3 (8 : Int32)) q_191 7 ((-1) : Int32))) (st' := []) (lv' := [(0, .ref h)]) e_198 rfl rfl ?_
  refine j_aload_n C dX2_init_74 rfl 0 rfl ?_
  refine j_getr (f := 207) (v := q_191) C flX2_35 dX2_init_75 (mem_old hm_154) (kd_nA (k := 14) (n := 8) hq_192 hm_154 hk_155) (by decide) rfl (rd_sR (S := (nA S_151 q_191 14 8)) (g := 207) (a := h) (v := (some q_191))) ?_
  refine j_iconst (v := 0) C dX2_init_78 (by decide) ?_
  refine j_aload_n C dX2_init_79 rfl 0 rfl ?_
  refine j_getr (f := 201) (v := q_25) C flX2_18 dX2_init_80 (mem_old hm_154) (kd_nA (k := 14) (n := 8) hq_192 hm_154 hk_155) (by decide) rfl (rd_sRf (S := (nA S_151 q_191 14 8)) (g := 207) (a := h) (v := (some q_191)) (by decide) hv_183) ?_
  refine j_bipush (v := 112) C dX2_init_83 (by decide) ?_
  show J _ _ _ _ _ 85 _
  refine j_bipush (v := 7) C dX2_init_85 (by decide) ?_
  have hf_201 : Fm (fun _ _ => False) (fun f9 b9 => b9 = h) (fun _ => False) S (tI (tI (tI (rI (sR (nA S_151 q_191 14 8) 207 h (some q_191)) q_191 (fillN (aI (sR (nA S_151 q_191 14 8) 207 h (some q_191)) q_191) 8 0)) q_191 2 (720 : Int32)) q_191 3 (8 : Int32)) q_191 7 ((-1) : Int32)) := ((((hf_194.rI _ (fun h9 => absurd h9 hz_193)).tI _ _ (fun h9 => absurd h9 hz_193)).tI _ _ (fun h9 => absurd h9 hz_193)).tI _ _ (fun h9 => absurd h9 hz_193))
  obtain ⟨S_199, eS_200⟩ : ∃ S9 : Hp, S9 = (tI (tI (tI (rI (sR (nA S_151 q_191 14 8) 207 h (some q_191)) q_191 (fillN (aI (sR (nA S_151 q_191 14 8) 207 h (some q_191)) q_191) 8 0)) q_191 2 (720 : Int32)) q_191 3 (8 : Int32)) q_191 7 ((-1) : Int32)) := ⟨_, rfl⟩
  refine J.eq (S' := S_199) eS_200.symm rfl rfl ?_
  have hm_202 : h ∈ hL S_199 := by rw [eS_200]; exact (mem_old hm_154)
  have hk_203 : Kd S_199 h 2 := by rw [eS_200]; exact (kd_nA (k := 14) (n := 8) hq_192 hm_154 hk_155)
  have hm_204 : q_1 ∈ hL S_199 := by rw [eS_200]; exact (mem_old hm_156)
  have hk_205 : Kd S_199 q_1 8 := by rw [eS_200]; exact (kd_nA (k := 14) (n := 8) hq_192 hm_156 hk_157)
  have hm_206 : q_110 ∈ hL S_199 := by rw [eS_200]; exact (mem_old hm_158)
  have hk_207 : Kd S_199 q_110 14 := by rw [eS_200]; exact (kd_nA (k := 14) (n := 8) hq_192 hm_158 hk_159)
  have hn_208 : Ln S_199 q_110 2470 := by rw [eS_200]; exact (ln_nA (k := 14) hq_192 hm_158 hn_160)
  have hz_209 : ∀ j, aI S_199 q_110 j = 0 := by rw [eS_200]; exact (fun j9 => rd_tIa (S := (tI (tI (rI (sR (nA S_151 q_191 14 8) 207 h (some q_191)) q_191 (fillN (aI (sR (nA S_151 q_191 14 8) 207 h (some q_191)) q_191) 8 0)) q_191 2 (720 : Int32)) q_191 3 (8 : Int32))) (ne_of_nin hq_192 hm_158) ((fun j9 => rd_tIa (S := (tI (rI (sR (nA S_151 q_191 14 8) 207 h (some q_191)) q_191 (fillN (aI (sR (nA S_151 q_191 14 8) 207 h (some q_191)) q_191) 8 0)) q_191 2 (720 : Int32))) (ne_of_nin hq_192 hm_158) ((fun j9 => rd_tIa (S := (rI (sR (nA S_151 q_191 14 8) 207 h (some q_191)) q_191 (fillN (aI (sR (nA S_151 q_191 14 8) 207 h (some q_191)) q_191) 8 0))) (ne_of_nin hq_192 hm_158) ((fun j9 => rd_rIa (S := (sR (nA S_151 q_191 14 8) 207 h (some q_191))) (ne_of_nin hq_192 hm_158) ((fun j9 => rd_nAI (k := 14) (n := 8) hq_192 hm_158 (hz_161 j9)) j9)) j9)) j9)) j9))
  have hm_210 : q_148 ∈ hL S_199 := by rw [eS_200]; exact (mem_old hm_162)
  have hk_211 : Kd S_199 q_148 14 := by rw [eS_200]; exact (kd_nA (k := 14) (n := 8) hq_192 hm_162 hk_163)
  have hn_212 : Ln S_199 q_148 15808 := by rw [eS_200]; exact (ln_nA (k := 14) hq_192 hm_162 hn_164)
  have hz_213 : ∀ j, aI S_199 q_148 j = 0 := by rw [eS_200]; exact (fun j9 => rd_tIa (S := (tI (tI (rI (sR (nA S_151 q_191 14 8) 207 h (some q_191)) q_191 (fillN (aI (sR (nA S_151 q_191 14 8) 207 h (some q_191)) q_191) 8 0)) q_191 2 (720 : Int32)) q_191 3 (8 : Int32))) (ne_of_nin hq_192 hm_162) ((fun j9 => rd_tIa (S := (tI (rI (sR (nA S_151 q_191 14 8) 207 h (some q_191)) q_191 (fillN (aI (sR (nA S_151 q_191 14 8) 207 h (some q_191)) q_191) 8 0)) q_191 2 (720 : Int32))) (ne_of_nin hq_192 hm_162) ((fun j9 => rd_tIa (S := (rI (sR (nA S_151 q_191 14 8) 207 h (some q_191)) q_191 (fillN (aI (sR (nA S_151 q_191 14 8) 207 h (some q_191)) q_191) 8 0))) (ne_of_nin hq_192 hm_162) ((fun j9 => rd_rIa (S := (sR (nA S_151 q_191 14 8) 207 h (some q_191))) (ne_of_nin hq_192 hm_162) ((fun j9 => rd_nAI (k := 14) (n := 8) hq_192 hm_162 (hz_165 j9)) j9)) j9)) j9)) j9))
  have hm_214 : q_191 ∈ hL S_199 := by rw [eS_200]; exact mem_new
  have hk_215 : Kd S_199 q_191 14 := by rw [eS_200]; exact (kd_nA' (k := 14) (n := 8))
  have hn_216 : Ln S_199 q_191 8 := by rw [eS_200]; exact (ln_nA' (k := 14))
  have hm_217 : q_25 ∈ hL S_199 := by rw [eS_200]; exact (mem_old hm_166)
  have hk_218 : Kd S_199 q_25 14 := by rw [eS_200]; exact (kd_nA (k := 14) (n := 8) hq_192 hm_166 hk_167)
  have hn_219 : Ln S_199 q_25 119 := by rw [eS_200]; exact (ln_nA (k := 14) hq_192 hm_166 hn_168)
  have hz_220 : ∀ j, aI S_199 q_25 j = 0 := by rw [eS_200]; exact (fun j9 => rd_tIa (S := (tI (tI (rI (sR (nA S_151 q_191 14 8) 207 h (some q_191)) q_191 (fillN (aI (sR (nA S_151 q_191 14 8) 207 h (some q_191)) q_191) 8 0)) q_191 2 (720 : Int32)) q_191 3 (8 : Int32))) (ne_of_nin hq_192 hm_166) ((fun j9 => rd_tIa (S := (tI (rI (sR (nA S_151 q_191 14 8) 207 h (some q_191)) q_191 (fillN (aI (sR (nA S_151 q_191 14 8) 207 h (some q_191)) q_191) 8 0)) q_191 2 (720 : Int32))) (ne_of_nin hq_192 hm_166) ((fun j9 => rd_tIa (S := (rI (sR (nA S_151 q_191 14 8) 207 h (some q_191)) q_191 (fillN (aI (sR (nA S_151 q_191 14 8) 207 h (some q_191)) q_191) 8 0))) (ne_of_nin hq_192 hm_166) ((fun j9 => rd_rIa (S := (sR (nA S_151 q_191 14 8) 207 h (some q_191))) (ne_of_nin hq_192 hm_166) ((fun j9 => rd_nAI (k := 14) (n := 8) hq_192 hm_166 (hz_169 j9)) j9)) j9)) j9)) j9))
  have hm_221 : q_49 ∈ hL S_199 := by rw [eS_200]; exact (mem_old hm_170)
  have hk_222 : Kd S_199 q_49 14 := by rw [eS_200]; exact (kd_nA (k := 14) (n := 8) hq_192 hm_170 hk_171)
  have hn_223 : Ln S_199 q_49 4352 := by rw [eS_200]; exact (ln_nA (k := 14) hq_192 hm_170 hn_172)
  have hz_224 : ∀ j, aI S_199 q_49 j = 0 := by rw [eS_200]; exact (fun j9 => rd_tIa (S := (tI (tI (rI (sR (nA S_151 q_191 14 8) 207 h (some q_191)) q_191 (fillN (aI (sR (nA S_151 q_191 14 8) 207 h (some q_191)) q_191) 8 0)) q_191 2 (720 : Int32)) q_191 3 (8 : Int32))) (ne_of_nin hq_192 hm_170) ((fun j9 => rd_tIa (S := (tI (rI (sR (nA S_151 q_191 14 8) 207 h (some q_191)) q_191 (fillN (aI (sR (nA S_151 q_191 14 8) 207 h (some q_191)) q_191) 8 0)) q_191 2 (720 : Int32))) (ne_of_nin hq_192 hm_170) ((fun j9 => rd_tIa (S := (rI (sR (nA S_151 q_191 14 8) 207 h (some q_191)) q_191 (fillN (aI (sR (nA S_151 q_191 14 8) 207 h (some q_191)) q_191) 8 0))) (ne_of_nin hq_192 hm_170) ((fun j9 => rd_rIa (S := (sR (nA S_151 q_191 14 8) 207 h (some q_191))) (ne_of_nin hq_192 hm_170) ((fun j9 => rd_nAI (k := 14) (n := 8) hq_192 hm_170 (hz_173 j9)) j9)) j9)) j9)) j9))
  have hm_225 : q_5 ∈ hL S_199 := by rw [eS_200]; exact (mem_old hm_174)
  have hk_226 : Kd S_199 q_5 14 := by rw [eS_200]; exact (kd_nA (k := 14) (n := 8) hq_192 hm_174 hk_175)
  have hn_227 : Ln S_199 q_5 16 := by rw [eS_200]; exact (ln_nA (k := 14) hq_192 hm_174 hn_176)
  have hz_228 : ∀ j, aI S_199 q_5 j = 0 := by rw [eS_200]; exact (fun j9 => rd_tIa (S := (tI (tI (rI (sR (nA S_151 q_191 14 8) 207 h (some q_191)) q_191 (fillN (aI (sR (nA S_151 q_191 14 8) 207 h (some q_191)) q_191) 8 0)) q_191 2 (720 : Int32)) q_191 3 (8 : Int32))) (ne_of_nin hq_192 hm_174) ((fun j9 => rd_tIa (S := (tI (rI (sR (nA S_151 q_191 14 8) 207 h (some q_191)) q_191 (fillN (aI (sR (nA S_151 q_191 14 8) 207 h (some q_191)) q_191) 8 0)) q_191 2 (720 : Int32))) (ne_of_nin hq_192 hm_174) ((fun j9 => rd_tIa (S := (rI (sR (nA S_151 q_191 14 8) 207 h (some q_191)) q_191 (fillN (aI (sR (nA S_151 q_191 14 8) 207 h (some q_191)) q_191) 8 0))) (ne_of_nin hq_192 hm_174) ((fun j9 => rd_rIa (S := (sR (nA S_151 q_191 14 8) 207 h (some q_191))) (ne_of_nin hq_192 hm_174) ((fun j9 => rd_nAI (k := 14) (n := 8) hq_192 hm_174 (hz_177 j9)) j9)) j9)) j9)) j9))
  have hm_229 : q_77 ∈ hL S_199 := by rw [eS_200]; exact (mem_old hm_178)
  have hk_230 : Kd S_199 q_77 17 := by rw [eS_200]; exact (kd_nA (k := 14) (n := 8) hq_192 hm_178 hk_179)
  have hn_231 : Ln S_199 q_77 400 := by rw [eS_200]; exact (ln_nA (k := 14) hq_192 hm_178 hn_180)
  have hz_232 : ∀ j, aI S_199 q_77 j = 0 := by rw [eS_200]; exact (fun j9 => rd_tIa (S := (tI (tI (rI (sR (nA S_151 q_191 14 8) 207 h (some q_191)) q_191 (fillN (aI (sR (nA S_151 q_191 14 8) 207 h (some q_191)) q_191) 8 0)) q_191 2 (720 : Int32)) q_191 3 (8 : Int32))) (fun e9 => absurd (((kd_nA (k := 14) (n := 8) hq_192 hm_178 hk_179)).symm.trans ((congrArg (hK _) e9).trans (kd_nA' (k := 14) (n := 8)))) (by decide)) ((fun j9 => rd_tIa (S := (tI (rI (sR (nA S_151 q_191 14 8) 207 h (some q_191)) q_191 (fillN (aI (sR (nA S_151 q_191 14 8) 207 h (some q_191)) q_191) 8 0)) q_191 2 (720 : Int32))) (fun e9 => absurd (((kd_nA (k := 14) (n := 8) hq_192 hm_178 hk_179)).symm.trans ((congrArg (hK _) e9).trans (kd_nA' (k := 14) (n := 8)))) (by decide)) ((fun j9 => rd_tIa (S := (rI (sR (nA S_151 q_191 14 8) 207 h (some q_191)) q_191 (fillN (aI (sR (nA S_151 q_191 14 8) 207 h (some q_191)) q_191) 8 0))) (fun e9 => absurd (((kd_nA (k := 14) (n := 8) hq_192 hm_178 hk_179)).symm.trans ((congrArg (hK _) e9).trans (kd_nA' (k := 14) (n := 8)))) (by decide)) ((fun j9 => rd_rIa (S := (sR (nA S_151 q_191 14 8) 207 h (some q_191))) (fun e9 => absurd (((kd_nA (k := 14) (n := 8) hq_192 hm_178 hk_179)).symm.trans ((congrArg (hK _) e9).trans (kd_nA' (k := 14) (n := 8)))) (by decide)) ((fun j9 => rd_nAI (k := 14) (n := 8) hq_192 hm_178 (hz_181 j9)) j9)) j9)) j9)) j9))
  have hv_233 : hR S_199 200 h = (some q_1) := by rw [eS_200]; exact (rd_sRf (S := (nA S_151 q_191 14 8)) (g := 207) (a := h) (v := (some q_191)) (by decide) hv_182)
  have hv_234 : hR S_199 201 h = (some q_25) := by rw [eS_200]; exact (rd_sRf (S := (nA S_151 q_191 14 8)) (g := 207) (a := h) (v := (some q_191)) (by decide) hv_183)
  have hv_235 : hR S_199 202 h = (some q_49) := by rw [eS_200]; exact (rd_sRf (S := (nA S_151 q_191 14 8)) (g := 207) (a := h) (v := (some q_191)) (by decide) hv_184)
  have hv_236 : hR S_199 203 h = (some q_77) := by rw [eS_200]; exact (rd_sRf (S := (nA S_151 q_191 14 8)) (g := 207) (a := h) (v := (some q_191)) (by decide) hv_185)
  have hv_237 : hR S_199 204 h = (some q_110) := by rw [eS_200]; exact (rd_sRf (S := (nA S_151 q_191 14 8)) (g := 207) (a := h) (v := (some q_191)) (by decide) hv_186)
  have hv_238 : hR S_199 205 h = (some q_148) := by rw [eS_200]; exact (rd_sRf (S := (nA S_151 q_191 14 8)) (g := 207) (a := h) (v := (some q_191)) (by decide) hv_187)
  have hv_239 : hR S_199 207 h = (some q_191) := by rw [eS_200]; exact (rd_sR (S := (nA S_151 q_191 14 8)) (g := 207) (a := h) (v := (some q_191)))
  have hv_240 : hR S_199 800 q_1 = (some q_5) := by rw [eS_200]; exact (rd_sRf (S := (nA S_151 q_191 14 8)) (g := 207) (a := h) (v := (some q_191)) (by decide) hv_188)
  have hf_241 : Fm (fun _ _ => False) (fun f9 b9 => b9 = h) (fun _ => False) S S_199 := by rw [eS_200]; exact hf_201
  have hN_242 : NL S [q_1, q_5, q_25, q_49, q_77, q_110, q_148, q_191] S_199 := by rw [eS_200]; exact (NL.tI (S := (tI (tI (rI (sR (nA S_151 q_191 14 8) 207 h (some q_191)) q_191 (fillN (aI (sR (nA S_151 q_191 14 8) 207 h (some q_191)) q_191) 8 0)) q_191 2 (720 : Int32)) q_191 3 (8 : Int32))) (NL.tI (S := (tI (rI (sR (nA S_151 q_191 14 8) 207 h (some q_191)) q_191 (fillN (aI (sR (nA S_151 q_191 14 8) 207 h (some q_191)) q_191) 8 0)) q_191 2 (720 : Int32))) (NL.tI (S := (rI (sR (nA S_151 q_191 14 8) 207 h (some q_191)) q_191 (fillN (aI (sR (nA S_151 q_191 14 8) 207 h (some q_191)) q_191) 8 0))) (NL.rI (S := (sR (nA S_151 q_191 14 8) 207 h (some q_191))) (NL.sR (S := (nA S_151 q_191 14 8)) (show NL S [q_1, q_5, q_25, q_49, q_77, q_110, q_148, q_191] (nA S_151 q_191 14 8) from NL.nA hN_190 hq_192 hz_193))))))
  refine j_copy (kd := 14) (ty := .int) (p0 := 0) (p1 := 112) (m0 := 7) C mlX2_42 (by decide) hm_214 hk_215 hn_216 hm_217 hk_218 hn_219 (by decide) (by decide) (by decide) (by decide) (by decide) (by decide) (by decide) (by decide) (fun i _ => rfl) (M.fl (by decide)) dX2_init_87 ?_
  refine j_bipush (v := 33) C dX2_init_90 (by decide) ?_
  refine j_istore_n (lv' := [(1, .int 33), (0, .ref h)]) C dX2_init_92 rfl (by rw [hn9]; decide) rfl ?_
  have hf_245 : Fm (fun _ _ => False) (fun f9 b9 => b9 = h) (fun _ => False) S (rI S_199 q_25 (va_cpy (aI S_199 q_191) (aI S_199 q_25) 0 112 7)) := (hf_241.rI _ (fun h9 => absurd h9 hz_28))
  obtain ⟨S_243, eS_244⟩ : ∃ S9 : Hp, S9 = (rI S_199 q_25 (va_cpy (aI S_199 q_191) (aI S_199 q_25) 0 112 7)) := ⟨_, rfl⟩
  refine J.eq (S' := S_243) eS_244.symm rfl rfl ?_
  have hm_246 : h ∈ hL S_243 := by rw [eS_244]; exact hm_202
  have hk_247 : Kd S_243 h 2 := by rw [eS_244]; exact hk_203
  have hm_248 : q_1 ∈ hL S_243 := by rw [eS_244]; exact hm_204
  have hk_249 : Kd S_243 q_1 8 := by rw [eS_244]; exact hk_205
  have hm_250 : q_110 ∈ hL S_243 := by rw [eS_244]; exact hm_206
  have hk_251 : Kd S_243 q_110 14 := by rw [eS_244]; exact hk_207
  have hn_252 : Ln S_243 q_110 2470 := by rw [eS_244]; exact hn_208
  have hz_253 : ∀ j, aI S_243 q_110 j = 0 := by rw [eS_244]; exact (fun j9 => rd_rIa (S := S_199) (Ne.symm (ne_of_nin hq_111 hm_87)) (hz_209 j9))
  have hm_254 : q_148 ∈ hL S_243 := by rw [eS_244]; exact hm_210
  have hk_255 : Kd S_243 q_148 14 := by rw [eS_244]; exact hk_211
  have hn_256 : Ln S_243 q_148 15808 := by rw [eS_244]; exact hn_212
  have hz_257 : ∀ j, aI S_243 q_148 j = 0 := by rw [eS_244]; exact (fun j9 => rd_rIa (S := S_199) (Ne.symm (ne_of_nin hq_149 hm_124)) (hz_213 j9))
  have hm_258 : q_191 ∈ hL S_243 := by rw [eS_244]; exact hm_214
  have hk_259 : Kd S_243 q_191 14 := by rw [eS_244]; exact hk_215
  have hn_260 : Ln S_243 q_191 8 := by rw [eS_244]; exact hn_216
  have hm_261 : q_25 ∈ hL S_243 := by rw [eS_244]; exact hm_217
  have hk_262 : Kd S_243 q_25 14 := by rw [eS_244]; exact hk_218
  have hn_263 : Ln S_243 q_25 119 := by rw [eS_244]; exact hn_219
  have hm_264 : q_49 ∈ hL S_243 := by rw [eS_244]; exact hm_221
  have hk_265 : Kd S_243 q_49 14 := by rw [eS_244]; exact hk_222
  have hn_266 : Ln S_243 q_49 4352 := by rw [eS_244]; exact hn_223
  have hz_267 : ∀ j, aI S_243 q_49 j = 0 := by rw [eS_244]; exact (fun j9 => rd_rIa (S := S_199) (Ne.symm (ne_of_nin hq_50 hm_36)) (hz_224 j9))
  have hm_268 : q_5 ∈ hL S_243 := by rw [eS_244]; exact hm_225
  have hk_269 : Kd S_243 q_5 14 := by rw [eS_244]; exact hk_226
  have hn_270 : Ln S_243 q_5 16 := by rw [eS_244]; exact hn_227
  have hz_271 : ∀ j, aI S_243 q_5 j = 0 := by rw [eS_244]; exact (fun j9 => rd_rIa (S := S_199) (ne_of_nin hq_26 e_7) (hz_228 j9))
  have hm_272 : q_77 ∈ hL S_243 := by rw [eS_244]; exact hm_229
  have hk_273 : Kd S_243 q_77 17 := by rw [eS_244]; exact hk_230
  have hn_274 : Ln S_243 q_77 400 := by rw [eS_244]; exact hn_231
  have hz_275 : ∀ j, aI S_243 q_77 j = 0 := by rw [eS_244]; exact (fun j9 => rd_rIa (S := S_199) (fun e9 => absurd ((hk_230).symm.trans ((congrArg (hK _) e9).trans hk_218)) (by decide)) (hz_232 j9))
  have hv_276 : hR S_243 200 h = (some q_1) := by rw [eS_244]; exact hv_233
  have hv_277 : hR S_243 201 h = (some q_25) := by rw [eS_244]; exact hv_234
  have hv_278 : hR S_243 202 h = (some q_49) := by rw [eS_244]; exact hv_235
  have hv_279 : hR S_243 203 h = (some q_77) := by rw [eS_244]; exact hv_236
  have hv_280 : hR S_243 204 h = (some q_110) := by rw [eS_244]; exact hv_237
  have hv_281 : hR S_243 205 h = (some q_148) := by rw [eS_244]; exact hv_238
  have hv_282 : hR S_243 207 h = (some q_191) := by rw [eS_244]; exact hv_239
  have hv_283 : hR S_243 800 q_1 = (some q_5) := by rw [eS_244]; exact hv_240
  have hf_284 : Fm (fun _ _ => False) (fun f9 b9 => b9 = h) (fun _ => False) S S_243 := by rw [eS_244]; exact hf_245
  have hN_285 : NL S [q_1, q_5, q_25, q_49, q_77, q_110, q_148, q_191] S_243 := by rw [eS_244]; exact (NL.rI (S := S_199) hN_242)
  have loop_290 : ∀ (m9 c : Nat) (S_287 : Hp), c + m9 = 94 → Fm (fun _ _ => False) (fun _ _ => False) (fun b9 => b9 = q_49 ∨ b9 = q_110 ∨ b9 = q_148) S_243 S_287 → J x (0 + 1 + 1 + 1 + 1 + 1 + 1 + 1 + 1 + 0) (0 + 1 + 16 + 119 + 4352 + 400 + 2470 + 15808 + 8 + 0) S_287 [(1, .int (nI (33 + c))), (0, .ref h)] 93 [] := by
    intro m9
    induction m9 with
    | zero =>
      intro c S_287  hi_291 hl_288 
      have hz_292 : ∀ j, aI S_287 q_5 j = 0 := fun j9 => (hl_288.ai hm_268 (fun h9 => h9.elim (fun q9 => (ne_of_nin hq_50 hm_40) q9) (fun h9 => h9.elim (fun q9 => (ne_of_nin hq_111 hm_95) q9) (fun q9 => (ne_of_nin hq_149 hm_132) q9))) j9).trans (hz_271 j9)
      have hz_293 : ∀ j, aI S_287 q_77 j = 0 := fun j9 => (hl_288.ai hm_272 (fun h9 => h9.elim (fun q9 => (fun e9 => absurd ((hk_273).symm.trans ((congrArg (hK _) e9).trans hk_265)) (by decide)) q9) (fun h9 => h9.elim (fun q9 => (fun e9 => absurd ((hk_273).symm.trans ((congrArg (hK _) e9).trans hk_251)) (by decide)) q9) (fun q9 => (fun e9 => absurd ((hk_273).symm.trans ((congrArg (hK _) e9).trans hk_255)) (by decide)) q9))) j9).trans (hz_275 j9)
      have hm_294 : h ∈ hL S_287 := hl_288.mem hm_246
      have hk_295 : Kd S_287 h 2 := hl_288.kd hm_246 hk_247
      have hm_296 : q_1 ∈ hL S_287 := hl_288.mem hm_248
      have hk_297 : Kd S_287 q_1 8 := hl_288.kd hm_248 hk_249
      have hm_298 : q_110 ∈ hL S_287 := hl_288.mem hm_250
      have hk_299 : Kd S_287 q_110 14 := hl_288.kd hm_250 hk_251
      have hn_300 : Ln S_287 q_110 2470 := hl_288.ln hm_250 hn_252
      have hm_301 : q_148 ∈ hL S_287 := hl_288.mem hm_254
      have hk_302 : Kd S_287 q_148 14 := hl_288.kd hm_254 hk_255
      have hn_303 : Ln S_287 q_148 15808 := hl_288.ln hm_254 hn_256
      have hm_304 : q_191 ∈ hL S_287 := hl_288.mem hm_258
      have hk_305 : Kd S_287 q_191 14 := hl_288.kd hm_258 hk_259
      have hn_306 : Ln S_287 q_191 8 := hl_288.ln hm_258 hn_260
      have hm_307 : q_25 ∈ hL S_287 := hl_288.mem hm_261
      have hk_308 : Kd S_287 q_25 14 := hl_288.kd hm_261 hk_262
      have hn_309 : Ln S_287 q_25 119 := hl_288.ln hm_261 hn_263
      have hm_310 : q_49 ∈ hL S_287 := hl_288.mem hm_264
      have hk_311 : Kd S_287 q_49 14 := hl_288.kd hm_264 hk_265
      have hn_312 : Ln S_287 q_49 4352 := hl_288.ln hm_264 hn_266
      have hm_313 : q_5 ∈ hL S_287 := hl_288.mem hm_268
      have hk_314 : Kd S_287 q_5 14 := hl_288.kd hm_268 hk_269
      have hn_315 : Ln S_287 q_5 16 := hl_288.ln hm_268 hn_270
      have hm_316 : q_77 ∈ hL S_287 := hl_288.mem hm_272
      have hk_317 : Kd S_287 q_77 17 := hl_288.kd hm_272 hk_273
      have hn_318 : Ln S_287 q_77 400 := hl_288.ln hm_272 hn_274
      have hv_319 : hR S_287 200 h = (some q_1) := hl_288.fr hm_246 (fun h9 => h9) hv_276
      have hv_320 : hR S_287 201 h = (some q_25) := hl_288.fr hm_246 (fun h9 => h9) hv_277
      have hv_321 : hR S_287 202 h = (some q_49) := hl_288.fr hm_246 (fun h9 => h9) hv_278
      have hv_322 : hR S_287 203 h = (some q_77) := hl_288.fr hm_246 (fun h9 => h9) hv_279
      have hv_323 : hR S_287 204 h = (some q_110) := hl_288.fr hm_246 (fun h9 => h9) hv_280
      have hv_324 : hR S_287 205 h = (some q_148) := hl_288.fr hm_246 (fun h9 => h9) hv_281
      have hv_325 : hR S_287 207 h = (some q_191) := hl_288.fr hm_246 (fun h9 => h9) hv_282
      have hv_326 : hR S_287 800 q_1 = (some q_5) := hl_288.fr hm_248 (fun h9 => h9) hv_283
      have hf_327 : Fm (fun _ _ => False) (fun f9 b9 => b9 = h) (fun _ => False) S S_287 := hf_284.then hl_288 (fun a9 ha9 => ⟨(fun f9 h9 => h9.elim), (fun f9 h9 => h9.elim), (fun h9 => (fun h9 => h9.elim (fun h8 => absurd (h8 ▸ ha9) hz_51) (fun h9 => h9.elim (fun h8 => absurd (h8 ▸ ha9) hz_112) (fun h8 => absurd (h8 ▸ ha9) hz_150))) h9)⟩)
      have hN_328 : NL S [q_1, q_5, q_25, q_49, q_77, q_110, q_148, q_191] S_287 := NL.mono hN_285 (fun a9 h9 => hl_288.mem h9)
      refine j_iload_n C dX2_init_93 rfl 0 rfl ?_
      refine j_bipush (v := 126) C dX2_init_94 (by decide) ?_
      refine j_ic_gt (tgt := 193) C dX2_init_96 (by decide) (fun c_96 => ?_) (fun c_96 => absurd (nI_lt (a := 126) (by omega) (by omega)) c_96)
      exact j_vret C M dX2_init_193 (Nat.le_of_ble_eq_true rfl) (Nat.le_of_ble_eq_true rfl) ⟨rfl, hf_327, q_1, q_5, q_25, q_49, q_77, q_110, q_148, q_191, hz_3, hm_296, hk_297, hv_319, hz_23, hm_313, hk_314, hn_315, hv_326, hz_292, hz_28, hm_307, hk_308, hn_309, hv_320, hz_51, hm_310, hk_311, hn_312, hv_321, hz_79, hm_316, hk_317, hn_318, hv_322, hz_293, hz_112, hm_298, hk_299, hn_300, hv_323, hz_150, hm_301, hk_302, hn_303, hv_324, hz_193, hm_304, hk_305, hn_306, hv_325, hN_328⟩
    | succ m9 ih_289 =>
      intro c S_287  hi_291 hl_288 
      have hz_329 : ∀ j, aI S_287 q_5 j = 0 := fun j9 => (hl_288.ai hm_268 (fun h9 => h9.elim (fun q9 => (ne_of_nin hq_50 hm_40) q9) (fun h9 => h9.elim (fun q9 => (ne_of_nin hq_111 hm_95) q9) (fun q9 => (ne_of_nin hq_149 hm_132) q9))) j9).trans (hz_271 j9)
      have hz_330 : ∀ j, aI S_287 q_77 j = 0 := fun j9 => (hl_288.ai hm_272 (fun h9 => h9.elim (fun q9 => (fun e9 => absurd ((hk_273).symm.trans ((congrArg (hK _) e9).trans hk_265)) (by decide)) q9) (fun h9 => h9.elim (fun q9 => (fun e9 => absurd ((hk_273).symm.trans ((congrArg (hK _) e9).trans hk_251)) (by decide)) q9) (fun q9 => (fun e9 => absurd ((hk_273).symm.trans ((congrArg (hK _) e9).trans hk_255)) (by decide)) q9))) j9).trans (hz_275 j9)
      have hm_331 : h ∈ hL S_287 := hl_288.mem hm_246
      have hk_332 : Kd S_287 h 2 := hl_288.kd hm_246 hk_247
      have hm_333 : q_1 ∈ hL S_287 := hl_288.mem hm_248
      have hk_334 : Kd S_287 q_1 8 := hl_288.kd hm_248 hk_249
      have hm_335 : q_110 ∈ hL S_287 := hl_288.mem hm_250
      have hk_336 : Kd S_287 q_110 14 := hl_288.kd hm_250 hk_251
      have hn_337 : Ln S_287 q_110 2470 := hl_288.ln hm_250 hn_252
      have hm_338 : q_148 ∈ hL S_287 := hl_288.mem hm_254
      have hk_339 : Kd S_287 q_148 14 := hl_288.kd hm_254 hk_255
      have hn_340 : Ln S_287 q_148 15808 := hl_288.ln hm_254 hn_256
      have hm_341 : q_191 ∈ hL S_287 := hl_288.mem hm_258
      have hk_342 : Kd S_287 q_191 14 := hl_288.kd hm_258 hk_259
      have hn_343 : Ln S_287 q_191 8 := hl_288.ln hm_258 hn_260
      have hm_344 : q_25 ∈ hL S_287 := hl_288.mem hm_261
      have hk_345 : Kd S_287 q_25 14 := hl_288.kd hm_261 hk_262
      have hn_346 : Ln S_287 q_25 119 := hl_288.ln hm_261 hn_263
      have hm_347 : q_49 ∈ hL S_287 := hl_288.mem hm_264
      have hk_348 : Kd S_287 q_49 14 := hl_288.kd hm_264 hk_265
      have hn_349 : Ln S_287 q_49 4352 := hl_288.ln hm_264 hn_266
      have hm_350 : q_5 ∈ hL S_287 := hl_288.mem hm_268
      have hk_351 : Kd S_287 q_5 14 := hl_288.kd hm_268 hk_269
      have hn_352 : Ln S_287 q_5 16 := hl_288.ln hm_268 hn_270
      have hm_353 : q_77 ∈ hL S_287 := hl_288.mem hm_272
      have hk_354 : Kd S_287 q_77 17 := hl_288.kd hm_272 hk_273
      have hn_355 : Ln S_287 q_77 400 := hl_288.ln hm_272 hn_274
      have hv_356 : hR S_287 200 h = (some q_1) := hl_288.fr hm_246 (fun h9 => h9) hv_276
      have hv_357 : hR S_287 201 h = (some q_25) := hl_288.fr hm_246 (fun h9 => h9) hv_277
      have hv_358 : hR S_287 202 h = (some q_49) := hl_288.fr hm_246 (fun h9 => h9) hv_278
      have hv_359 : hR S_287 203 h = (some q_77) := hl_288.fr hm_246 (fun h9 => h9) hv_279
      have hv_360 : hR S_287 204 h = (some q_110) := hl_288.fr hm_246 (fun h9 => h9) hv_280
      have hv_361 : hR S_287 205 h = (some q_148) := hl_288.fr hm_246 (fun h9 => h9) hv_281
      have hv_362 : hR S_287 207 h = (some q_191) := hl_288.fr hm_246 (fun h9 => h9) hv_282
      have hv_363 : hR S_287 800 q_1 = (some q_5) := hl_288.fr hm_248 (fun h9 => h9) hv_283
      have hf_364 : Fm (fun _ _ => False) (fun f9 b9 => b9 = h) (fun _ => False) S S_287 := hf_284.then hl_288 (fun a9 ha9 => ⟨(fun f9 h9 => h9.elim), (fun f9 h9 => h9.elim), (fun h9 => (fun h9 => h9.elim (fun h8 => absurd (h8 ▸ ha9) hz_51) (fun h9 => h9.elim (fun h8 => absurd (h8 ▸ ha9) hz_112) (fun h8 => absurd (h8 ▸ ha9) hz_150))) h9)⟩)
      have hN_365 : NL S [q_1, q_5, q_25, q_49, q_77, q_110, q_148, q_191] S_287 := NL.mono hN_285 (fun a9 h9 => hl_288.mem h9)
      refine j_iload_n C dX2_init_93 rfl 0 rfl ?_
      refine j_bipush (v := 126) C dX2_init_94 (by decide) ?_
      refine j_ic_gt (tgt := 193) C dX2_init_96 (by decide) (fun c_96 => absurd c_96 (nI_nlt (a := 126) (by omega) (by omega))) (fun c_96 => ?_)
      show J _ _ _ _ _ 99 _
      refine j_sipush (v := 400) C dX2_init_99 (by decide) ?_
      refine j_iload_n C dX2_init_102 rfl 0 rfl ?_
      refine j_iadd (v := nI (400 + (33 + c))) C dX2_init_103 (nI_add 400 (33 + c)) ?_
      refine j_bipush (v := 33) C dX2_init_104 (by decide) ?_
      refine j_isub (v := nI (400 + c)) C dX2_init_106 ((pk_sub (a := 400 + (33 + c)) (b := 33) (by omega)).trans (congrArg nI (by omega))) ?_
      refine j_istore_n (lv' := [(2, .int (nI (400 + c))), (1, .int (nI (33 + c))), (0, .ref h)]) C dX2_init_107 rfl (by rw [hn9]; decide) rfl ?_
      refine j_aload_n C dX2_init_108 rfl 2 rfl ?_
      refine j_getr (f := 202) (v := q_49) C flX2_22 dX2_init_109 hm_331 hk_332 (by decide) rfl hv_358 ?_
      show J _ _ _ _ _ 112 _
      refine j_sipush (v := 4096) C dX2_init_112 (by decide) ?_
      refine j_iload_n C dX2_init_115 rfl 1 rfl ?_
      refine j_iadd (v := nI (4096 + (33 + c))) C dX2_init_116 (nI_add 4096 (33 + c)) ?_
      refine j_iload_n C dX2_init_117 rfl 0 rfl ?_
      refine j_iconst (v := 1) C dX2_init_118 (by decide) ?_
      refine j_iadd (v := nI (400 + c + 1)) C dX2_init_119 (nI_add (400 + c) 1) ?_
      refine j_iast (j := (4096 + (33 + c))) C dX2_init_120 hm_347 hk_348 (inr_of (n := 4352) hn_349 (vp_in_nI (by omega) (by omega))) (nI_clamp (by omega)) ?_
      refine j_aload_n C dX2_init_121 rfl 2 rfl ?_
      show J _ _ _ _ _ 122 _
      refine j_iload_n C dX2_init_122 rfl 0 rfl ?_
      refine j_iconst (v := 0) C dX2_init_123 (by decide) ?_
      refine j_bipush (v := 7) C dX2_init_124 (by decide) ?_
      refine j_bipush (v := 6) C dX2_init_126 (by decide) ?_
      refine j_bipush (v := 8) C dX2_init_128 (by decide) ?_
      refine j_sipush (v := 720) C dX2_init_130 (by decide) ?_
      have hf_366 : Fm (fun _ _ => False) (fun f9 b9 => b9 = h) (fun _ => False) S (tI S_287 q_49 (4096 + (33 + c)) (nI (400 + c + 1))) := (hf_364.tI _ _ (fun h9 => absurd h9 hz_51))
      have hf_367 : Fm (fun _ _ => False) (fun _ _ => False) (fun b9 => b9 = q_49 ∨ b9 = q_110 ∨ b9 = q_148) S_243 (tI S_287 q_49 (4096 + (33 + c)) (nI (400 + c + 1))) := (hl_288.tI _ _ (fun _ => (Or.inl rfl)))
      refine j_callV (ci := 2) C [.int (nI (400 + c)), .int 0, .int 7, .int 6, .int 8, .int 720] [] mlX2_48 mcX2_setHead (c_X2_setHead (tI S_287 q_49 (4096 + (33 + c)) (nI (400 + c + 1))) h hm_331 hk_332 q_110 hv_360 hm_335 hk_336 hn_337 (400 + c) 0 7 6 8 720 (by omega)) hm_331 hk_332 rfl (M.rm (by decide) (by decide) (Nat.le_of_ble_eq_true rfl) (Nat.le_of_ble_eq_true rfl)) rfl rfl (Nat.le_of_ble_eq_true rfl) dX2_init_133 (fun r_368 S_369 hp_370 => ?_)
      obtain ⟨rfl, hf_371⟩ := hp_370
      refine J.eq (st' := []) rfl rfl rfl ?_
      have hz_372 : ∀ j, aI S_369 q_5 j = 0 := fun j9 => (hf_371.ai hm_350 (fun q9 => (ne_of_nin hq_111 hm_95) q9) j9).trans ((fun j9 => rd_tIa (S := S_287) (ne_of_nin hq_50 hm_40) (hz_329 j9)) j9)
      have hz_373 : ∀ j, aI S_369 q_77 j = 0 := fun j9 => (hf_371.ai hm_353 (fun q9 => (fun e9 => absurd ((hk_354).symm.trans ((congrArg (hK _) e9).trans hk_336)) (by decide)) q9) j9).trans ((fun j9 => rd_tIa (S := S_287) (fun e9 => absurd ((hk_354).symm.trans ((congrArg (hK _) e9).trans hk_348)) (by decide)) (hz_330 j9)) j9)
      have hm_374 : h ∈ hL S_369 := hf_371.mem hm_331
      have hk_375 : Kd S_369 h 2 := hf_371.kd hm_331 hk_332
      have hm_376 : q_1 ∈ hL S_369 := hf_371.mem hm_333
      have hk_377 : Kd S_369 q_1 8 := hf_371.kd hm_333 hk_334
      have hm_378 : q_110 ∈ hL S_369 := hf_371.mem hm_335
      have hk_379 : Kd S_369 q_110 14 := hf_371.kd hm_335 hk_336
      have hn_380 : Ln S_369 q_110 2470 := hf_371.ln hm_335 hn_337
      have hm_381 : q_148 ∈ hL S_369 := hf_371.mem hm_338
      have hk_382 : Kd S_369 q_148 14 := hf_371.kd hm_338 hk_339
      have hn_383 : Ln S_369 q_148 15808 := hf_371.ln hm_338 hn_340
      have hm_384 : q_191 ∈ hL S_369 := hf_371.mem hm_341
      have hk_385 : Kd S_369 q_191 14 := hf_371.kd hm_341 hk_342
      have hn_386 : Ln S_369 q_191 8 := hf_371.ln hm_341 hn_343
      have hm_387 : q_25 ∈ hL S_369 := hf_371.mem hm_344
      have hk_388 : Kd S_369 q_25 14 := hf_371.kd hm_344 hk_345
      have hn_389 : Ln S_369 q_25 119 := hf_371.ln hm_344 hn_346
      have hm_390 : q_49 ∈ hL S_369 := hf_371.mem hm_347
      have hk_391 : Kd S_369 q_49 14 := hf_371.kd hm_347 hk_348
      have hn_392 : Ln S_369 q_49 4352 := hf_371.ln hm_347 hn_349
      have hm_393 : q_5 ∈ hL S_369 := hf_371.mem hm_350
      have hk_394 : Kd S_369 q_5 14 := hf_371.kd hm_350 hk_351
      have hn_395 : Ln S_369 q_5 16 := hf_371.ln hm_350 hn_352
      have hm_396 : q_77 ∈ hL S_369 := hf_371.mem hm_353
      have hk_397 : Kd S_369 q_77 17 := hf_371.kd hm_353 hk_354
      have hn_398 : Ln S_369 q_77 400 := hf_371.ln hm_353 hn_355
      have hv_399 : hR S_369 200 h = (some q_1) := hf_371.fr hm_331 (fun h9 => h9) hv_356
      have hv_400 : hR S_369 201 h = (some q_25) := hf_371.fr hm_331 (fun h9 => h9) hv_357
      have hv_401 : hR S_369 202 h = (some q_49) := hf_371.fr hm_331 (fun h9 => h9) hv_358
      have hv_402 : hR S_369 203 h = (some q_77) := hf_371.fr hm_331 (fun h9 => h9) hv_359
      have hv_403 : hR S_369 204 h = (some q_110) := hf_371.fr hm_331 (fun h9 => h9) hv_360
      have hv_404 : hR S_369 205 h = (some q_148) := hf_371.fr hm_331 (fun h9 => h9) hv_361
      have hv_405 : hR S_369 207 h = (some q_191) := hf_371.fr hm_331 (fun h9 => h9) hv_362
      have hv_406 : hR S_369 800 q_1 = (some q_5) := hf_371.fr hm_333 (fun h9 => h9) hv_363
      have hf_407 : Fm (fun _ _ => False) (fun f9 b9 => b9 = h) (fun _ => False) S S_369 := hf_366.then hf_371 (fun a9 ha9 => ⟨(fun f9 h9 => h9.elim), (fun f9 h9 => h9.elim), (fun h9 => (fun h8 => absurd (h8 ▸ ha9) hz_112) h9)⟩)
      have hf_408 : Fm (fun _ _ => False) (fun _ _ => False) (fun b9 => b9 = q_49 ∨ b9 = q_110 ∨ b9 = q_148) S_243 S_369 := hf_367.then hf_371 (fun a9 ha9 => ⟨(fun f9 h9 => h9.elim), (fun f9 h9 => h9.elim), (fun h9 => (fun h8 => (Or.inr (Or.inl h8))) h9)⟩)
      have hN_409 : NL S [q_1, q_5, q_25, q_49, q_77, q_110, q_148, q_191] S_369 := NL.mono (NL.tI (S := S_287) hN_365) (fun a9 h9 => hf_371.mem h9)
      refine j_iconst (v := 0) C dX2_init_136 (by decide) ?_
      show J _ _ _ _ _ 137 _
      refine j_istore_n (lv' := [(3, .int 0), (2, .int (nI (400 + c))), (1, .int (nI (33 + c))), (0, .ref h)]) C dX2_init_137 rfl (by rw [hn9]; decide) rfl ?_
      have loop_414 : ∀ (m9 r1 : Nat) (S_411 : Hp), r1 + m9 = 8 → Fm (fun _ _ => False) (fun _ _ => False) (fun b9 => b9 = q_148) S_369 S_411 → J x (0 + 1 + 1 + 1 + 1 + 1 + 1 + 1 + 1 + 0 + 0) (0 + 1 + 16 + 119 + 4352 + 400 + 2470 + 15808 + 8 + 0 + 0) S_411 [(3, .int (nI r1)), (2, .int (nI (400 + c))), (1, .int (nI (33 + c))), (0, .ref h)] 138 [] := by
        intro m9
        induction m9 with
        | zero =>
          intro r1 S_411  hi_415 hl_412 
          have hz_416 : ∀ j, aI S_411 q_5 j = 0 := fun j9 => (hl_412.ai hm_393 (fun q9 => (ne_of_nin hq_149 hm_132) q9) j9).trans (hz_372 j9)
          have hz_417 : ∀ j, aI S_411 q_77 j = 0 := fun j9 => (hl_412.ai hm_396 (fun q9 => (fun e9 => absurd ((hk_397).symm.trans ((congrArg (hK _) e9).trans hk_382)) (by decide)) q9) j9).trans (hz_373 j9)
          have hm_418 : h ∈ hL S_411 := hl_412.mem hm_374
          have hk_419 : Kd S_411 h 2 := hl_412.kd hm_374 hk_375
          have hm_420 : q_1 ∈ hL S_411 := hl_412.mem hm_376
          have hk_421 : Kd S_411 q_1 8 := hl_412.kd hm_376 hk_377
          have hm_422 : q_110 ∈ hL S_411 := hl_412.mem hm_378
          have hk_423 : Kd S_411 q_110 14 := hl_412.kd hm_378 hk_379
          have hn_424 : Ln S_411 q_110 2470 := hl_412.ln hm_378 hn_380
          have hm_425 : q_148 ∈ hL S_411 := hl_412.mem hm_381
          have hk_426 : Kd S_411 q_148 14 := hl_412.kd hm_381 hk_382
          have hn_427 : Ln S_411 q_148 15808 := hl_412.ln hm_381 hn_383
          have hm_428 : q_191 ∈ hL S_411 := hl_412.mem hm_384
          have hk_429 : Kd S_411 q_191 14 := hl_412.kd hm_384 hk_385
          have hn_430 : Ln S_411 q_191 8 := hl_412.ln hm_384 hn_386
          have hm_431 : q_25 ∈ hL S_411 := hl_412.mem hm_387
          have hk_432 : Kd S_411 q_25 14 := hl_412.kd hm_387 hk_388
          have hn_433 : Ln S_411 q_25 119 := hl_412.ln hm_387 hn_389
          have hm_434 : q_49 ∈ hL S_411 := hl_412.mem hm_390
          have hk_435 : Kd S_411 q_49 14 := hl_412.kd hm_390 hk_391
          have hn_436 : Ln S_411 q_49 4352 := hl_412.ln hm_390 hn_392
          have hm_437 : q_5 ∈ hL S_411 := hl_412.mem hm_393
          have hk_438 : Kd S_411 q_5 14 := hl_412.kd hm_393 hk_394
          have hn_439 : Ln S_411 q_5 16 := hl_412.ln hm_393 hn_395
          have hm_440 : q_77 ∈ hL S_411 := hl_412.mem hm_396
          have hk_441 : Kd S_411 q_77 17 := hl_412.kd hm_396 hk_397
          have hn_442 : Ln S_411 q_77 400 := hl_412.ln hm_396 hn_398
          have hv_443 : hR S_411 200 h = (some q_1) := hl_412.fr hm_374 (fun h9 => h9) hv_399
          have hv_444 : hR S_411 201 h = (some q_25) := hl_412.fr hm_374 (fun h9 => h9) hv_400
          have hv_445 : hR S_411 202 h = (some q_49) := hl_412.fr hm_374 (fun h9 => h9) hv_401
          have hv_446 : hR S_411 203 h = (some q_77) := hl_412.fr hm_374 (fun h9 => h9) hv_402
          have hv_447 : hR S_411 204 h = (some q_110) := hl_412.fr hm_374 (fun h9 => h9) hv_403
          have hv_448 : hR S_411 205 h = (some q_148) := hl_412.fr hm_374 (fun h9 => h9) hv_404
          have hv_449 : hR S_411 207 h = (some q_191) := hl_412.fr hm_374 (fun h9 => h9) hv_405
          have hv_450 : hR S_411 800 q_1 = (some q_5) := hl_412.fr hm_376 (fun h9 => h9) hv_406
          have hf_451 : Fm (fun _ _ => False) (fun f9 b9 => b9 = h) (fun _ => False) S S_411 := hf_407.then hl_412 (fun a9 ha9 => ⟨(fun f9 h9 => h9.elim), (fun f9 h9 => h9.elim), (fun h9 => (fun h8 => absurd (h8 ▸ ha9) hz_150) h9)⟩)
          have hf_452 : Fm (fun _ _ => False) (fun _ _ => False) (fun b9 => b9 = q_49 ∨ b9 = q_110 ∨ b9 = q_148) S_243 S_411 := hf_408.then hl_412 (fun a9 ha9 => ⟨(fun f9 h9 => h9.elim), (fun f9 h9 => h9.elim), (fun h9 => (fun h8 => (Or.inr (Or.inr h8))) h9)⟩)
          have hN_453 : NL S [q_1, q_5, q_25, q_49, q_77, q_110, q_148, q_191] S_411 := NL.mono hN_409 (fun a9 h9 => hl_412.mem h9)
          refine j_iload_n C dX2_init_138 rfl 0 rfl ?_
          refine j_bipush (v := 8) C dX2_init_139 (by decide) ?_
          refine j_ic_ge (tgt := 187) C dX2_init_141 (by decide) (fun c_141 => ?_) (fun c_141 => absurd (nI_le (a := 8) (by omega) (by omega)) c_141)
          refine j_iinc (q := 2) (v := nI (33 + (c + 1))) (lv' := [(1, .int (nI (33 + (c + 1)))), (3, .int (nI r1)), (2, .int (nI (400 + c))), (0, .ref h)]) C dX2_init_187 rfl (by rw [show Int32.ofInt 1 = 1 by decide]; exact nI_add (33 + c) 1) (by rw [hn9]; decide) rfl ?_
          refine j_goto (tgt := 93) C dX2_init_190 (by decide) ?_
          refine J.sub [0, 3] (lv' := [(1, .int (nI (33 + (c + 1)))), (0, .ref h)]) (by rfl) ?_
          exact ih_289 (c + 1) _  (by omega) hf_452 
        | succ m9 ih_413 =>
          intro r1 S_411  hi_415 hl_412 
          have hz_454 : ∀ j, aI S_411 q_5 j = 0 := fun j9 => (hl_412.ai hm_393 (fun q9 => (ne_of_nin hq_149 hm_132) q9) j9).trans (hz_372 j9)
          have hz_455 : ∀ j, aI S_411 q_77 j = 0 := fun j9 => (hl_412.ai hm_396 (fun q9 => (fun e9 => absurd ((hk_397).symm.trans ((congrArg (hK _) e9).trans hk_382)) (by decide)) q9) j9).trans (hz_373 j9)
          have hm_456 : h ∈ hL S_411 := hl_412.mem hm_374
          have hk_457 : Kd S_411 h 2 := hl_412.kd hm_374 hk_375
          have hm_458 : q_1 ∈ hL S_411 := hl_412.mem hm_376
          have hk_459 : Kd S_411 q_1 8 := hl_412.kd hm_376 hk_377
          have hm_460 : q_110 ∈ hL S_411 := hl_412.mem hm_378
          have hk_461 : Kd S_411 q_110 14 := hl_412.kd hm_378 hk_379
          have hn_462 : Ln S_411 q_110 2470 := hl_412.ln hm_378 hn_380
          have hm_463 : q_148 ∈ hL S_411 := hl_412.mem hm_381
          have hk_464 : Kd S_411 q_148 14 := hl_412.kd hm_381 hk_382
          have hn_465 : Ln S_411 q_148 15808 := hl_412.ln hm_381 hn_383
          have hm_466 : q_191 ∈ hL S_411 := hl_412.mem hm_384
          have hk_467 : Kd S_411 q_191 14 := hl_412.kd hm_384 hk_385
          have hn_468 : Ln S_411 q_191 8 := hl_412.ln hm_384 hn_386
          have hm_469 : q_25 ∈ hL S_411 := hl_412.mem hm_387
          have hk_470 : Kd S_411 q_25 14 := hl_412.kd hm_387 hk_388
          have hn_471 : Ln S_411 q_25 119 := hl_412.ln hm_387 hn_389
          have hm_472 : q_49 ∈ hL S_411 := hl_412.mem hm_390
          have hk_473 : Kd S_411 q_49 14 := hl_412.kd hm_390 hk_391
          have hn_474 : Ln S_411 q_49 4352 := hl_412.ln hm_390 hn_392
          have hm_475 : q_5 ∈ hL S_411 := hl_412.mem hm_393
          have hk_476 : Kd S_411 q_5 14 := hl_412.kd hm_393 hk_394
          have hn_477 : Ln S_411 q_5 16 := hl_412.ln hm_393 hn_395
          have hm_478 : q_77 ∈ hL S_411 := hl_412.mem hm_396
          have hk_479 : Kd S_411 q_77 17 := hl_412.kd hm_396 hk_397
          have hn_480 : Ln S_411 q_77 400 := hl_412.ln hm_396 hn_398
          have hv_481 : hR S_411 200 h = (some q_1) := hl_412.fr hm_374 (fun h9 => h9) hv_399
          have hv_482 : hR S_411 201 h = (some q_25) := hl_412.fr hm_374 (fun h9 => h9) hv_400
          have hv_483 : hR S_411 202 h = (some q_49) := hl_412.fr hm_374 (fun h9 => h9) hv_401
          have hv_484 : hR S_411 203 h = (some q_77) := hl_412.fr hm_374 (fun h9 => h9) hv_402
          have hv_485 : hR S_411 204 h = (some q_110) := hl_412.fr hm_374 (fun h9 => h9) hv_403
          have hv_486 : hR S_411 205 h = (some q_148) := hl_412.fr hm_374 (fun h9 => h9) hv_404
          have hv_487 : hR S_411 207 h = (some q_191) := hl_412.fr hm_374 (fun h9 => h9) hv_405
          have hv_488 : hR S_411 800 q_1 = (some q_5) := hl_412.fr hm_376 (fun h9 => h9) hv_406
          have hf_489 : Fm (fun _ _ => False) (fun f9 b9 => b9 = h) (fun _ => False) S S_411 := hf_407.then hl_412 (fun a9 ha9 => ⟨(fun f9 h9 => h9.elim), (fun f9 h9 => h9.elim), (fun h9 => (fun h8 => absurd (h8 ▸ ha9) hz_150) h9)⟩)
          have hf_490 : Fm (fun _ _ => False) (fun _ _ => False) (fun b9 => b9 = q_49 ∨ b9 = q_110 ∨ b9 = q_148) S_243 S_411 := hf_408.then hl_412 (fun a9 ha9 => ⟨(fun f9 h9 => h9.elim), (fun f9 h9 => h9.elim), (fun h9 => (fun h8 => (Or.inr (Or.inr h8))) h9)⟩)
          have hN_491 : NL S [q_1, q_5, q_25, q_49, q_77, q_110, q_148, q_191] S_411 := NL.mono hN_409 (fun a9 h9 => hl_412.mem h9)
          refine j_iload_n C dX2_init_138 rfl 0 rfl ?_
          refine j_bipush (v := 8) C dX2_init_139 (by decide) ?_
          refine j_ic_ge (tgt := 187) C dX2_init_141 (by decide) (fun c_141 => absurd c_141 (nI_ge (b := 8) (by omega) (by omega))) (fun c_141 => ?_)
          refine j_iload_n C dX2_init_144 rfl 2 rfl ?_
          show J _ _ _ _ _ 145 _
          refine j_iload_n C dX2_init_145 rfl 2 rfl ?_
          refine j_imul (v := nI ((33 + c) * (33 + c))) C dX2_init_146 (pk_mul (33 + c) (33 + c)) ?_
          refine j_bipush (v := 7) C dX2_init_147 (by decide) ?_
          refine j_iload_n C dX2_init_149 rfl 2 rfl ?_
          refine j_imul (v := nI (7 * (33 + c))) C dX2_init_150 (pk_mul 7 (33 + c)) ?_
          refine j_iload_n C dX2_init_151 rfl 0 rfl ?_
          refine j_imul (v := nI ((7 * (33 + c)) * r1)) C dX2_init_152 (pk_mul (7 * (33 + c)) r1) ?_
          refine j_iadd (v := nI (((33 + c) * (33 + c)) + ((7 * (33 + c)) * r1))) C dX2_init_153 (nI_add ((33 + c) * (33 + c)) ((7 * (33 + c)) * r1)) ?_
          show J _ _ _ _ _ 154 _
          refine j_bipush (v := 13) C dX2_init_154 (by decide) ?_
          refine j_iload_n C dX2_init_156 rfl 0 rfl ?_
          refine j_imul (v := nI (13 * r1)) C dX2_init_157 (pk_mul 13 r1) ?_
          refine j_iload_n C dX2_init_158 rfl 0 rfl ?_
          refine j_imul (v := nI ((13 * r1) * r1)) C dX2_init_159 (pk_mul (13 * r1) r1) ?_
          refine j_iadd (v := nI ((((33 + c) * (33 + c)) + ((7 * (33 + c)) * r1)) + ((13 * r1) * r1))) C dX2_init_160 (nI_add (((33 + c) * (33 + c)) + ((7 * (33 + c)) * r1)) ((13 * r1) * r1)) ?_
          refine j_iconst (v := 4) C dX2_init_161 (by decide) ?_
          refine j_idiv (v := ((nI ((((33 + c) * (33 + c)) + ((7 * (33 + c)) * r1)) + ((13 * r1) * r1))) / 4)) C dX2_init_162 (by decide) rfl ?_
          show J _ _ _ _ _ 163 _
          refine j_istore (lv' := [(4, .int ((nI ((((33 + c) * (33 + c)) + ((7 * (33 + c)) * r1)) + ((13 * r1) * r1))) / 4)), (3, .int (nI r1)), (2, .int (nI (400 + c))), (1, .int (nI (33 + c))), (0, .ref h)]) C dX2_init_163 (by rw [hn9]; decide) rfl ?_
          refine j_aload_n C dX2_init_165 rfl 4 rfl ?_
          refine j_getr (f := 205) (v := q_148) C flX2_32 dX2_init_166 hm_456 hk_457 (by decide) rfl hv_486 ?_
          refine j_iload_n C dX2_init_169 rfl 2 rfl ?_
          refine j_bipush (v := 32) C dX2_init_170 (by decide) ?_
          refine j_imul (v := nI ((400 + c) * 32)) C dX2_init_172 (pk_mul (400 + c) 32) ?_
          refine j_iload_n C dX2_init_173 rfl 1 rfl ?_
          refine j_iadd (v := nI ((400 + c) * 32 + r1)) C dX2_init_174 (nI_add ((400 + c) * 32) r1) ?_
          show J _ _ _ _ _ 175 _
          refine j_iload C dX2_init_175 0 rfl ?_
          refine j_bipush (v := 26) C dX2_init_177 (by decide) ?_
          refine j_ishl C dX2_init_179 rfl ?_
          refine j_iast (j := ((400 + c) * 32 + r1)) C dX2_init_180 hm_463 hk_464 (inr_of (n := 15808) hn_465 (vp_in_nI (by omega) (by omega))) (nI_clamp (by omega)) ?_
          refine j_iinc (q := 1) (v := nI (r1 + 1)) (lv' := [(3, .int (nI (r1 + 1))), (4, .int ((nI ((((33 + c) * (33 + c)) + ((7 * (33 + c)) * r1)) + ((13 * r1) * r1))) / 4)), (2, .int (nI (400 + c))), (1, .int (nI (33 + c))), (0, .ref h)]) C dX2_init_181 rfl (nI_add r1 1) (by rw [hn9]; decide) rfl ?_
          refine j_goto (tgt := 138) C dX2_init_184 (by decide) ?_
          refine J.sub [0, 2, 3, 4] (lv' := [(3, .int (nI (r1 + 1))), (2, .int (nI (400 + c))), (1, .int (nI (33 + c))), (0, .ref h)]) (by rfl) ?_
          exact ih_413 (r1 + 1) _  (by omega) (hl_412.tI _ _ (fun _ => rfl)) 
      refine J.sub [0, 1, 2, 3] (lv' := [(3, .int (nI 0)), (2, .int (nI (400 + c))), (1, .int (nI (33 + c))), (0, .ref h)]) (by rfl) ?_
      exact loop_414 8 0 _  (by omega) Fm.refl 
  refine J.sub [0, 1] (lv' := [(1, .int (nI (33 + 0))), (0, .ref h)]) (by rfl) ?_
  exact loop_290 94 0 _  (by omega) Fm.refl 

def rt_o (i : Nat) : Nat := 13 - (st_RUN_BITS.getD i 0).toNatClampNeg
def rt_s (i : Nat) : Nat := 2 ^ rt_o i
def rt_f (i : Nat) : Nat := i / 74 * 8192 + (st_RUN_CODES.getD i 0).toNatClampNeg * rt_s i
set_option maxRecDepth 100000 in
theorem rt_all : ∀ i, i < 148 → ((13 : Int32) - st_RUN_BITS.getD i 0 = nI (rt_o i) ∧ (1 : Int32) <<< (nI (rt_o i) &&& 31) = nI (rt_s i) ∧ (nI (i / 74) <<< ((13 : Int32) &&& 31)) + (st_RUN_CODES.getD i 0 <<< (nI (rt_o i) &&& 31)) = nI (rt_f i) ∧ rt_f i + rt_s i ≤ 16384 ∧ i / 74 < 2) := by decide +kernel

theorem dX3_init_0 : decode cX3_init 0 = .ok (.aload_n 0, 1) := by decide +kernel
theorem dX3_init_1 : decode cX3_init 1 = .ok (.invokespecial 3, 3) := by decide +kernel
theorem dX3_init_4 : decode cX3_init 4 = .ok (.aload_n 0, 1) := by decide +kernel
theorem dX3_init_5 : decode cX3_init 5 = .ok (.iconst 0, 1) := by decide +kernel
theorem dX3_init_6 : decode cX3_init 6 = .ok (.newarray .byte, 2) := by decide +kernel
theorem dX3_init_8 : decode cX3_init 8 = .ok (.putfield 9, 3) := by decide +kernel
theorem dX3_init_11 : decode cX3_init 11 = .ok (.aload_n 0, 1) := by decide +kernel
theorem dX3_init_12 : decode cX3_init 12 = .ok (.bipush 12, 2) := by decide +kernel
theorem dX3_init_14 : decode cX3_init 14 = .ok (.newarray .long, 2) := by decide +kernel
theorem dX3_init_16 : decode cX3_init 16 = .ok (.putfield 15, 3) := by decide +kernel
theorem dX3_init_19 : decode cX3_init 19 = .ok (.aload_n 0, 1) := by decide +kernel
theorem dX3_init_20 : decode cX3_init 20 = .ok (.sipush 12000, 3) := by decide +kernel
theorem dX3_init_23 : decode cX3_init 23 = .ok (.newarray .byte, 2) := by decide +kernel
theorem dX3_init_25 : decode cX3_init 25 = .ok (.putfield 19, 3) := by decide +kernel
theorem dX3_init_28 : decode cX3_init 28 = .ok (.aload_n 0, 1) := by decide +kernel
theorem dX3_init_29 : decode cX3_init 29 = .ok (.sipush 16384, 3) := by decide +kernel
theorem dX3_init_32 : decode cX3_init 32 = .ok (.newarray .short, 2) := by decide +kernel
theorem dX3_init_34 : decode cX3_init 34 = .ok (.putfield 22, 3) := by decide +kernel
theorem dX3_init_37 : decode cX3_init 37 = .ok (.aload_n 0, 1) := by decide +kernel
theorem dX3_init_38 : decode cX3_init 38 = .ok (.aload_n 1, 1) := by decide +kernel
theorem dX3_init_39 : decode cX3_init 39 = .ok (.putfield 26, 3) := by decide +kernel
theorem dX3_init_42 : decode cX3_init 42 = .ok (.iconst 0, 1) := by decide +kernel
theorem dX3_init_43 : decode cX3_init 43 = .ok (.istore_n 2, 1) := by decide +kernel
theorem dX3_init_44 : decode cX3_init 44 = .ok (.iload_n 2, 1) := by decide +kernel
theorem dX3_init_45 : decode cX3_init 45 = .ok (.getstatic 30, 3) := by decide +kernel
theorem dX3_init_48 : decode cX3_init 48 = .ok (.arraylength, 1) := by decide +kernel
theorem dX3_init_49 : decode cX3_init 49 = .ok (.if_icmp .ge 90, 3) := by decide +kernel
theorem dX3_init_52 : decode cX3_init 52 = .ok (.iload_n 2, 1) := by decide +kernel
theorem dX3_init_53 : decode cX3_init 53 = .ok (.getstatic 34, 3) := by decide +kernel
theorem dX3_init_56 : decode cX3_init 56 = .ok (.arraylength, 1) := by decide +kernel
theorem dX3_init_57 : decode cX3_init 57 = .ok (.if_icmp .ge 82, 3) := by decide +kernel
theorem dX3_init_60 : decode cX3_init 60 = .ok (.iload_n 2, 1) := by decide +kernel
theorem dX3_init_61 : decode cX3_init 61 = .ok (.bipush 74, 2) := by decide +kernel
theorem dX3_init_63 : decode cX3_init 63 = .ok (.idiv, 1) := by decide +kernel
theorem dX3_init_64 : decode cX3_init 64 = .ok (.istore_n 3, 1) := by decide +kernel
theorem dX3_init_65 : decode cX3_init 65 = .ok (.bipush 13, 2) := by decide +kernel
theorem dX3_init_67 : decode cX3_init 67 = .ok (.getstatic 34, 3) := by decide +kernel
theorem dX3_init_70 : decode cX3_init 70 = .ok (.iload_n 2, 1) := by decide +kernel
theorem dX3_init_71 : decode cX3_init 71 = .ok (.iaload, 1) := by decide +kernel
theorem dX3_init_72 : decode cX3_init 72 = .ok (.isub, 1) := by decide +kernel
theorem dX3_init_73 : decode cX3_init 73 = .ok (.istore 4, 2) := by decide +kernel
theorem dX3_init_75 : decode cX3_init 75 = .ok (.iload_n 3, 1) := by decide +kernel
theorem dX3_init_76 : decode cX3_init 76 = .ok (.bipush 13, 2) := by decide +kernel
theorem dX3_init_78 : decode cX3_init 78 = .ok (.ishl, 1) := by decide +kernel
theorem dX3_init_79 : decode cX3_init 79 = .ok (.getstatic 30, 3) := by decide +kernel
theorem dX3_init_82 : decode cX3_init 82 = .ok (.iload_n 2, 1) := by decide +kernel
theorem dX3_init_83 : decode cX3_init 83 = .ok (.iaload, 1) := by decide +kernel
theorem dX3_init_84 : decode cX3_init 84 = .ok (.iload 4, 2) := by decide +kernel
theorem dX3_init_86 : decode cX3_init 86 = .ok (.ishl, 1) := by decide +kernel
theorem dX3_init_87 : decode cX3_init 87 = .ok (.iadd, 1) := by decide +kernel
theorem dX3_init_88 : decode cX3_init 88 = .ok (.istore 5, 2) := by decide +kernel
theorem dX3_init_90 : decode cX3_init 90 = .ok (.iload 5, 2) := by decide +kernel
theorem dX3_init_92 : decode cX3_init 92 = .ok (.istore 6, 2) := by decide +kernel
theorem dX3_init_94 : decode cX3_init 94 = .ok (.iload 6, 2) := by decide +kernel
theorem dX3_init_96 : decode cX3_init 96 = .ok (.iload 5, 2) := by decide +kernel
theorem dX3_init_98 : decode cX3_init 98 = .ok (.iconst 1, 1) := by decide +kernel
theorem dX3_init_99 : decode cX3_init 99 = .ok (.iload 4, 2) := by decide +kernel
theorem dX3_init_101 : decode cX3_init 101 = .ok (.ishl, 1) := by decide +kernel
theorem dX3_init_102 : decode cX3_init 102 = .ok (.iadd, 1) := by decide +kernel
theorem dX3_init_103 : decode cX3_init 103 = .ok (.if_icmp .ge 30, 3) := by decide +kernel
theorem dX3_init_106 : decode cX3_init 106 = .ok (.iload 6, 2) := by decide +kernel
theorem dX3_init_108 : decode cX3_init 108 = .ok (.aload_n 0, 1) := by decide +kernel
theorem dX3_init_109 : decode cX3_init 109 = .ok (.getfield 22, 3) := by decide +kernel
theorem dX3_init_112 : decode cX3_init 112 = .ok (.arraylength, 1) := by decide +kernel
theorem dX3_init_113 : decode cX3_init 113 = .ok (.if_icmp .ge 20, 3) := by decide +kernel
theorem dX3_init_116 : decode cX3_init 116 = .ok (.aload_n 0, 1) := by decide +kernel
theorem dX3_init_117 : decode cX3_init 117 = .ok (.getfield 22, 3) := by decide +kernel
theorem dX3_init_120 : decode cX3_init 120 = .ok (.iload 6, 2) := by decide +kernel
theorem dX3_init_122 : decode cX3_init 122 = .ok (.iload_n 2, 1) := by decide +kernel
theorem dX3_init_123 : decode cX3_init 123 = .ok (.iconst 1, 1) := by decide +kernel
theorem dX3_init_124 : decode cX3_init 124 = .ok (.iadd, 1) := by decide +kernel
theorem dX3_init_125 : decode cX3_init 125 = .ok (.i2s, 1) := by decide +kernel
theorem dX3_init_126 : decode cX3_init 126 = .ok (.sastore, 1) := by decide +kernel
theorem dX3_init_127 : decode cX3_init 127 = .ok (.iinc 6 1, 3) := by decide +kernel
theorem dX3_init_130 : decode cX3_init 130 = .ok (.goto (-36), 3) := by decide +kernel
theorem dX3_init_133 : decode cX3_init 133 = .ok (.iinc 2 1, 3) := by decide +kernel
theorem dX3_init_136 : decode cX3_init 136 = .ok (.goto (-92), 3) := by decide +kernel
theorem dX3_init_139 : decode cX3_init 139 = .ok (.return_, 1) := by decide +kernel

set_option maxRecDepth 100000 in
set_option maxHeartbeats 4000000 in
theorem c_X3_init (S : Hp) (h : Nat) (hm : h ∈ hL S) (hk : hK S h = 3) (s0 : Nat) : Ct 1 yX3_init cX3_init 7 none 4 28396 [.ref h, .ref s0] S (fun r S' => r = none ∧ Fm (fun _ _ => False) (fun f9 b9 => b9 = h) (fun _ => False) S S' ∧ hR S' 300 h = some s0 ∧ ∃ q0 q1 q2 : Nat, q0 ∉ hL S ∧ q0 ∈ hL S' ∧ Kd S' q0 15 ∧ Ln S' q0 12 ∧ hR S' 307 h = some q0 ∧ q1 ∉ hL S ∧ q1 ∈ hL S' ∧ Kd S' q1 13 ∧ Ln S' q1 12000 ∧ hR S' 317 h = some q1 ∧ q2 ∉ hL S ∧ q2 ∈ hL S' ∧ Kd S' q2 16 ∧ Ln S' q2 16384 ∧ hR S' 320 h = some q2 ∧ NL S [q0, q1, q2] S') := by
  refine ct_of (by decide) (Nat.le_of_ble_eq_true rfl) fun x hn9 C M hm9 => ?_
  have C : CB x RX3 cX3_init := C
  refine J.eq (lv' := [(0, .ref h), (1, .ref s0)]) rfl rfl rfl ?_
  refine j_aload_n C dX3_init_0 rfl 0 rfl ?_
  refine j_objInit C mlX3_3 nst_oi (M.fl (by decide)) dX3_init_1 ?_
  refine j_aload_n C dX3_init_4 rfl 0 rfl ?_
  refine j_iconst (v := 0) C dX3_init_5 (by decide) ?_
  refine j_newB (N := 0) C ka_byte (by decide) (by decide) (Nat.le_of_ble_eq_true rfl) (M.cells (by decide)) (M.slots (Nat.le_of_ble_eq_true rfl)) dX3_init_6 (fun q_1 hq_2 => ?_)
  have hz_3 : q_1 ∉ hL S := hq_2
  refine j_putr (f := 301) C flX3_9 (by decide) rfl rfl dX3_init_8 (mem_old hm) (kd_nA (k := 13) (n := 0) hq_2 hm hk) rfl ?_
  refine j_aload_n C dX3_init_11 rfl 0 rfl ?_
  refine j_bipush (v := 12) C dX3_init_12 (by decide) ?_
  show J _ _ _ _ _ 14 _
  have hf_6 : Fm (fun _ _ => False) (fun f9 b9 => b9 = h) (fun _ => False) S (sR (nA S q_1 13 0) 301 h (some q_1)) := (((Fm.refl (WI := (fun _ _ => False)) (WR := (fun f9 b9 => b9 = h)) (WA := (fun _ => False))).nA _ _ hq_2).sR _ (fun _ => rfl))
  obtain ⟨S_4, eS_5⟩ : ∃ S9 : Hp, S9 = (sR (nA S q_1 13 0) 301 h (some q_1)) := ⟨_, rfl⟩
  refine J.eq (S' := S_4) eS_5.symm rfl rfl ?_
  have hm_7 : h ∈ hL S_4 := by rw [eS_5]; exact (mem_old hm)
  have hk_8 : Kd S_4 h 3 := by rw [eS_5]; exact (kd_nA (k := 13) (n := 0) hq_2 hm hk)
  have hm_9 : q_1 ∈ hL S_4 := by rw [eS_5]; exact mem_new
  have hk_10 : Kd S_4 q_1 13 := by rw [eS_5]; exact (kd_nA' (k := 13) (n := 0))
  have hn_11 : Ln S_4 q_1 0 := by rw [eS_5]; exact (ln_nA' (k := 13))
  have hz_12 : ∀ j, aI S_4 q_1 j = 0 := by rw [eS_5]; exact (fun j9 => rd_nAI' (k := 13) (n := 0))
  have hv_13 : hR S_4 301 h = (some q_1) := by rw [eS_5]; exact (rd_sR (S := (nA S q_1 13 0)) (g := 301) (a := h) (v := (some q_1)))
  have hf_14 : Fm (fun _ _ => False) (fun f9 b9 => b9 = h) (fun _ => False) S S_4 := by rw [eS_5]; exact hf_6
  have hN_15 : NL S [] S_4 := by rw [eS_5]; exact (NL.sR (S := (nA S q_1 13 0)) (show NL S [] (nA S q_1 13 0) from NL.oldA (NL.nil : NL S [] S)))
  refine j_newJ (N := 12) C ka_long (by decide) (by decide) (Nat.le_of_ble_eq_true rfl) (M.cells (by decide)) (M.slots (Nat.le_of_ble_eq_true rfl)) dX3_init_14 (fun q_16 hq_17 => ?_)
  have hz_18 : q_16 ∉ hL S := fun h9 => hq_17 (hf_14.mem h9)
  refine j_putrF (f := 307) C hm9 flX3_15o (by decide) rfl rfl dX3_init_16 (mem_old hm_7) (kd_nA (k := 15) (n := 12) hq_17 hm_7 hk_8) rfl ?_
  refine j_aload_n C dX3_init_19 rfl 0 rfl ?_
  refine j_sipush (v := 12000) C dX3_init_20 (by decide) ?_
  have hf_21 : Fm (fun _ _ => False) (fun f9 b9 => b9 = h) (fun _ => False) S (sR (nA S_4 q_16 15 12) 307 h (some q_16)) := ((hf_14.nA _ _ hq_17).sR _ (fun _ => rfl))
  obtain ⟨S_19, eS_20⟩ : ∃ S9 : Hp, S9 = (sR (nA S_4 q_16 15 12) 307 h (some q_16)) := ⟨_, rfl⟩
  refine J.eq (S' := S_19) eS_20.symm rfl rfl ?_
  have hm_22 : h ∈ hL S_19 := by rw [eS_20]; exact (mem_old hm_7)
  have hk_23 : Kd S_19 h 3 := by rw [eS_20]; exact (kd_nA (k := 15) (n := 12) hq_17 hm_7 hk_8)
  have hm_24 : q_1 ∈ hL S_19 := by rw [eS_20]; exact (mem_old hm_9)
  have hk_25 : Kd S_19 q_1 13 := by rw [eS_20]; exact (kd_nA (k := 15) (n := 12) hq_17 hm_9 hk_10)
  have hn_26 : Ln S_19 q_1 0 := by rw [eS_20]; exact (ln_nA (k := 15) hq_17 hm_9 hn_11)
  have hz_27 : ∀ j, aI S_19 q_1 j = 0 := by rw [eS_20]; exact (fun j9 => rd_nAI (k := 15) (n := 12) hq_17 hm_9 (hz_12 j9))
  have hm_28 : q_16 ∈ hL S_19 := by rw [eS_20]; exact mem_new
  have hk_29 : Kd S_19 q_16 15 := by rw [eS_20]; exact (kd_nA' (k := 15) (n := 12))
  have hn_30 : Ln S_19 q_16 12 := by rw [eS_20]; exact (ln_nA' (k := 15))
  have hz_31 : ∀ j, aI S_19 q_16 j = 0 := by rw [eS_20]; exact (fun j9 => rd_nAI' (k := 15) (n := 12))
  have hv_32 : hR S_19 301 h = (some q_1) := by rw [eS_20]; exact (rd_sRf (S := (nA S_4 q_16 15 12)) (g := 307) (a := h) (v := (some q_16)) (by decide) hv_13)
  have hv_33 : hR S_19 307 h = (some q_16) := by rw [eS_20]; exact (rd_sR (S := (nA S_4 q_16 15 12)) (g := 307) (a := h) (v := (some q_16)))
  have hf_34 : Fm (fun _ _ => False) (fun f9 b9 => b9 = h) (fun _ => False) S S_19 := by rw [eS_20]; exact hf_21
  have hN_35 : NL S [q_16] S_19 := by rw [eS_20]; exact (NL.sR (S := (nA S_4 q_16 15 12)) (show NL S [q_16] (nA S_4 q_16 15 12) from NL.nA hN_15 hq_17 hz_18))
  refine j_newB (N := 12000) C ka_byte (by decide) (by decide) (Nat.le_of_ble_eq_true rfl) (M.cells (by decide)) (M.slots (Nat.le_of_ble_eq_true rfl)) dX3_init_23 (fun q_36 hq_37 => ?_)
  have hz_38 : q_36 ∉ hL S := fun h9 => hq_37 (hf_34.mem h9)
  refine j_putrF (f := 317) C hm9 flX3_19o (by decide) rfl rfl dX3_init_25 (mem_old hm_22) (kd_nA (k := 13) (n := 12000) hq_37 hm_22 hk_23) rfl ?_
  refine j_aload_n C dX3_init_28 rfl 0 rfl ?_
  refine j_sipush (v := 16384) C dX3_init_29 (by decide) ?_
  show J _ _ _ _ _ 32 _
  have hf_41 : Fm (fun _ _ => False) (fun f9 b9 => b9 = h) (fun _ => False) S (sR (nA S_19 q_36 13 12000) 317 h (some q_36)) := ((hf_34.nA _ _ hq_37).sR _ (fun _ => rfl))
  obtain ⟨S_39, eS_40⟩ : ∃ S9 : Hp, S9 = (sR (nA S_19 q_36 13 12000) 317 h (some q_36)) := ⟨_, rfl⟩
  refine J.eq (S' := S_39) eS_40.symm rfl rfl ?_
  have hm_42 : h ∈ hL S_39 := by rw [eS_40]; exact (mem_old hm_22)
  have hk_43 : Kd S_39 h 3 := by rw [eS_40]; exact (kd_nA (k := 13) (n := 12000) hq_37 hm_22 hk_23)
  have hm_44 : q_1 ∈ hL S_39 := by rw [eS_40]; exact (mem_old hm_24)
  have hk_45 : Kd S_39 q_1 13 := by rw [eS_40]; exact (kd_nA (k := 13) (n := 12000) hq_37 hm_24 hk_25)
  have hn_46 : Ln S_39 q_1 0 := by rw [eS_40]; exact (ln_nA (k := 13) hq_37 hm_24 hn_26)
  have hz_47 : ∀ j, aI S_39 q_1 j = 0 := by rw [eS_40]; exact (fun j9 => rd_nAI (k := 13) (n := 12000) hq_37 hm_24 (hz_27 j9))
  have hm_48 : q_16 ∈ hL S_39 := by rw [eS_40]; exact (mem_old hm_28)
  have hk_49 : Kd S_39 q_16 15 := by rw [eS_40]; exact (kd_nA (k := 13) (n := 12000) hq_37 hm_28 hk_29)
  have hn_50 : Ln S_39 q_16 12 := by rw [eS_40]; exact (ln_nA (k := 13) hq_37 hm_28 hn_30)
  have hz_51 : ∀ j, aI S_39 q_16 j = 0 := by rw [eS_40]; exact (fun j9 => rd_nAI (k := 13) (n := 12000) hq_37 hm_28 (hz_31 j9))
  have hm_52 : q_36 ∈ hL S_39 := by rw [eS_40]; exact mem_new
  have hk_53 : Kd S_39 q_36 13 := by rw [eS_40]; exact (kd_nA' (k := 13) (n := 12000))
  have hn_54 : Ln S_39 q_36 12000 := by rw [eS_40]; exact (ln_nA' (k := 13))
  have hz_55 : ∀ j, aI S_39 q_36 j = 0 := by rw [eS_40]; exact (fun j9 => rd_nAI' (k := 13) (n := 12000))
  have hv_56 : hR S_39 301 h = (some q_1) := by rw [eS_40]; exact (rd_sRf (S := (nA S_19 q_36 13 12000)) (g := 317) (a := h) (v := (some q_36)) (by decide) hv_32)
  have hv_57 : hR S_39 307 h = (some q_16) := by rw [eS_40]; exact (rd_sRf (S := (nA S_19 q_36 13 12000)) (g := 317) (a := h) (v := (some q_36)) (by decide) hv_33)
  have hv_58 : hR S_39 317 h = (some q_36) := by rw [eS_40]; exact (rd_sR (S := (nA S_19 q_36 13 12000)) (g := 317) (a := h) (v := (some q_36)))
  have hf_59 : Fm (fun _ _ => False) (fun f9 b9 => b9 = h) (fun _ => False) S S_39 := by rw [eS_40]; exact hf_41
  have hN_60 : NL S [q_16, q_36] S_39 := by rw [eS_40]; exact (NL.sR (S := (nA S_19 q_36 13 12000)) (show NL S [q_16, q_36] (nA S_19 q_36 13 12000) from NL.nA hN_35 hq_37 hz_38))
  refine j_newS (N := 16384) C ka_short (by decide) (by decide) (Nat.le_of_ble_eq_true rfl) (M.cells (by decide)) (M.slots (Nat.le_of_ble_eq_true rfl)) dX3_init_32 (fun q_61 hq_62 => ?_)
  have hz_63 : q_61 ∉ hL S := fun h9 => hq_62 (hf_59.mem h9)
  refine j_putrF (f := 320) C hm9 flX3_22o (by decide) rfl rfl dX3_init_34 (mem_old hm_42) (kd_nA (k := 16) (n := 16384) hq_62 hm_42 hk_43) rfl ?_
  refine j_aload_n C dX3_init_37 rfl 0 rfl ?_
  refine j_aload_n C dX3_init_38 rfl 1 rfl ?_
  refine j_putrF (f := 300) C hm9 flX3_26o (by decide) rfl rfl dX3_init_39 (mem_old hm_42) (kd_nA (k := 16) (n := 16384) hq_62 hm_42 hk_43) rfl ?_
  refine j_iconst (v := 0) C dX3_init_42 (by decide) ?_
  refine j_istore_n (lv' := [(2, .int 0), (0, .ref h), (1, .ref s0)]) C dX3_init_43 rfl (by rw [hn9]; decide) rfl ?_
  have hf_66 : Fm (fun _ _ => False) (fun f9 b9 => b9 = h) (fun _ => False) S (sR (sR (nA S_39 q_61 16 16384) 320 h (some q_61)) 300 h (some s0)) := (((hf_59.nA _ _ hq_62).sR _ (fun _ => rfl)).sR _ (fun _ => rfl))
  obtain ⟨S_64, eS_65⟩ : ∃ S9 : Hp, S9 = (sR (sR (nA S_39 q_61 16 16384) 320 h (some q_61)) 300 h (some s0)) := ⟨_, rfl⟩
  refine J.eq (S' := S_64) eS_65.symm rfl rfl ?_
  have hm_67 : h ∈ hL S_64 := by rw [eS_65]; exact (mem_old hm_42)
  have hk_68 : Kd S_64 h 3 := by rw [eS_65]; exact (kd_nA (k := 16) (n := 16384) hq_62 hm_42 hk_43)
  have hm_69 : q_1 ∈ hL S_64 := by rw [eS_65]; exact (mem_old hm_44)
  have hk_70 : Kd S_64 q_1 13 := by rw [eS_65]; exact (kd_nA (k := 16) (n := 16384) hq_62 hm_44 hk_45)
  have hn_71 : Ln S_64 q_1 0 := by rw [eS_65]; exact (ln_nA (k := 16) hq_62 hm_44 hn_46)
  have hz_72 : ∀ j, aI S_64 q_1 j = 0 := by rw [eS_65]; exact (fun j9 => rd_nAI (k := 16) (n := 16384) hq_62 hm_44 (hz_47 j9))
  have hm_73 : q_16 ∈ hL S_64 := by rw [eS_65]; exact (mem_old hm_48)
  have hk_74 : Kd S_64 q_16 15 := by rw [eS_65]; exact (kd_nA (k := 16) (n := 16384) hq_62 hm_48 hk_49)
  have hn_75 : Ln S_64 q_16 12 := by rw [eS_65]; exact (ln_nA (k := 16) hq_62 hm_48 hn_50)
  have hz_76 : ∀ j, aI S_64 q_16 j = 0 := by rw [eS_65]; exact (fun j9 => rd_nAI (k := 16) (n := 16384) hq_62 hm_48 (hz_51 j9))
  have hm_77 : q_36 ∈ hL S_64 := by rw [eS_65]; exact (mem_old hm_52)
  have hk_78 : Kd S_64 q_36 13 := by rw [eS_65]; exact (kd_nA (k := 16) (n := 16384) hq_62 hm_52 hk_53)
  have hn_79 : Ln S_64 q_36 12000 := by rw [eS_65]; exact (ln_nA (k := 16) hq_62 hm_52 hn_54)
  have hz_80 : ∀ j, aI S_64 q_36 j = 0 := by rw [eS_65]; exact (fun j9 => rd_nAI (k := 16) (n := 16384) hq_62 hm_52 (hz_55 j9))
  have hm_81 : q_61 ∈ hL S_64 := by rw [eS_65]; exact mem_new
  have hk_82 : Kd S_64 q_61 16 := by rw [eS_65]; exact (kd_nA' (k := 16) (n := 16384))
  have hn_83 : Ln S_64 q_61 16384 := by rw [eS_65]; exact (ln_nA' (k := 16))
  have hz_84 : ∀ j, aI S_64 q_61 j = 0 := by rw [eS_65]; exact (fun j9 => rd_nAI' (k := 16) (n := 16384))
  have hv_85 : hR S_64 300 h = (some s0) := by rw [eS_65]; exact (rd_sR (S := (sR (nA S_39 q_61 16 16384) 320 h (some q_61))) (g := 300) (a := h) (v := (some s0)))
  have hv_86 : hR S_64 301 h = (some q_1) := by rw [eS_65]; exact (rd_sRf (S := (sR (nA S_39 q_61 16 16384) 320 h (some q_61))) (g := 300) (a := h) (v := (some s0)) (by decide) (rd_sRf (S := (nA S_39 q_61 16 16384)) (g := 320) (a := h) (v := (some q_61)) (by decide) hv_56))
  have hv_87 : hR S_64 307 h = (some q_16) := by rw [eS_65]; exact (rd_sRf (S := (sR (nA S_39 q_61 16 16384) 320 h (some q_61))) (g := 300) (a := h) (v := (some s0)) (by decide) (rd_sRf (S := (nA S_39 q_61 16 16384)) (g := 320) (a := h) (v := (some q_61)) (by decide) hv_57))
  have hv_88 : hR S_64 317 h = (some q_36) := by rw [eS_65]; exact (rd_sRf (S := (sR (nA S_39 q_61 16 16384) 320 h (some q_61))) (g := 300) (a := h) (v := (some s0)) (by decide) (rd_sRf (S := (nA S_39 q_61 16 16384)) (g := 320) (a := h) (v := (some q_61)) (by decide) hv_58))
  have hv_89 : hR S_64 320 h = (some q_61) := by rw [eS_65]; exact (rd_sRf (S := (sR (nA S_39 q_61 16 16384) 320 h (some q_61))) (g := 300) (a := h) (v := (some s0)) (by decide) (rd_sR (S := (nA S_39 q_61 16 16384)) (g := 320) (a := h) (v := (some q_61))))
  have hf_90 : Fm (fun _ _ => False) (fun f9 b9 => b9 = h) (fun _ => False) S S_64 := by rw [eS_65]; exact hf_66
  have hN_91 : NL S [q_16, q_36, q_61] S_64 := by rw [eS_65]; exact (NL.sR (S := (sR (nA S_39 q_61 16 16384) 320 h (some q_61))) (NL.sR (S := (nA S_39 q_61 16 16384)) (show NL S [q_16, q_36, q_61] (nA S_39 q_61 16 16384) from NL.nA hN_60 hq_62 hz_63)))
  have loop_96 : ∀ (m9 i : Nat) (S_93 : Hp), i + m9 = 148 → Fm (fun _ _ => False) (fun _ _ => False) (fun b9 => b9 = q_61) S_64 S_93 → J x (0 + 1 + 1 + 1 + 1) (0 + 0 + 12 + 12000 + 16384) S_93 [(2, .int (nI i)), (0, .ref h), (1, .ref s0)] 44 [] := by
    intro m9
    induction m9 with
    | zero =>
      intro i S_93  hi_97 hl_94 
      have hz_98 : ∀ j, aI S_93 q_1 j = 0 := fun j9 => (hl_94.ai hm_69 (fun q9 => (fun e9 => absurd ((hk_70).symm.trans ((congrArg (hK _) e9).trans hk_82)) (by decide)) q9) j9).trans (hz_72 j9)
      have hz_99 : ∀ j, aI S_93 q_16 j = 0 := fun j9 => (hl_94.ai hm_73 (fun q9 => (fun e9 => absurd ((hk_74).symm.trans ((congrArg (hK _) e9).trans hk_82)) (by decide)) q9) j9).trans (hz_76 j9)
      have hz_100 : ∀ j, aI S_93 q_36 j = 0 := fun j9 => (hl_94.ai hm_77 (fun q9 => (fun e9 => absurd ((hk_78).symm.trans ((congrArg (hK _) e9).trans hk_82)) (by decide)) q9) j9).trans (hz_80 j9)
      have hm_101 : h ∈ hL S_93 := hl_94.mem hm_67
      have hk_102 : Kd S_93 h 3 := hl_94.kd hm_67 hk_68
      have hm_103 : q_1 ∈ hL S_93 := hl_94.mem hm_69
      have hk_104 : Kd S_93 q_1 13 := hl_94.kd hm_69 hk_70
      have hn_105 : Ln S_93 q_1 0 := hl_94.ln hm_69 hn_71
      have hm_106 : q_16 ∈ hL S_93 := hl_94.mem hm_73
      have hk_107 : Kd S_93 q_16 15 := hl_94.kd hm_73 hk_74
      have hn_108 : Ln S_93 q_16 12 := hl_94.ln hm_73 hn_75
      have hm_109 : q_36 ∈ hL S_93 := hl_94.mem hm_77
      have hk_110 : Kd S_93 q_36 13 := hl_94.kd hm_77 hk_78
      have hn_111 : Ln S_93 q_36 12000 := hl_94.ln hm_77 hn_79
      have hm_112 : q_61 ∈ hL S_93 := hl_94.mem hm_81
      have hk_113 : Kd S_93 q_61 16 := hl_94.kd hm_81 hk_82
      have hn_114 : Ln S_93 q_61 16384 := hl_94.ln hm_81 hn_83
      have hv_115 : hR S_93 300 h = (some s0) := hl_94.fr hm_67 (fun h9 => h9) hv_85
      have hv_116 : hR S_93 301 h = (some q_1) := hl_94.fr hm_67 (fun h9 => h9) hv_86
      have hv_117 : hR S_93 307 h = (some q_16) := hl_94.fr hm_67 (fun h9 => h9) hv_87
      have hv_118 : hR S_93 317 h = (some q_36) := hl_94.fr hm_67 (fun h9 => h9) hv_88
      have hv_119 : hR S_93 320 h = (some q_61) := hl_94.fr hm_67 (fun h9 => h9) hv_89
      have hf_120 : Fm (fun _ _ => False) (fun f9 b9 => b9 = h) (fun _ => False) S S_93 := hf_90.then hl_94 (fun a9 ha9 => ⟨(fun f9 h9 => h9.elim), (fun f9 h9 => h9.elim), (fun h9 => (fun h8 => absurd (h8 ▸ ha9) hz_63) h9)⟩)
      have hN_121 : NL S [q_16, q_36, q_61] S_93 := NL.mono hN_91 (fun a9 h9 => hl_94.mem h9)
      refine j_iload_n C dX3_init_44 rfl 0 rfl ?_
      refine j_gets C 3 rfl (Or.inr ⟨_, gsX3_30⟩) dX3_init_45 ?_
      show J _ _ _ _ _ 48 _
      refine j_stlen (v := 148) C 3 rfl dX3_init_48 (by decide) ?_
      refine j_ic_ge (tgt := 139) C dX3_init_49 (by decide) (fun c_49 => ?_) (fun c_49 => absurd (nI_le (a := 148) (by omega) (by omega)) c_49)
      exact j_vret C M dX3_init_139 (Nat.le_of_ble_eq_true rfl) (Nat.le_of_ble_eq_true rfl) ⟨rfl, hf_120, hv_115, q_16, q_36, q_61, hz_18, hm_106, hk_107, hn_108, hv_117, hz_38, hm_109, hk_110, hn_111, hv_118, hz_63, hm_112, hk_113, hn_114, hv_119, hN_121⟩
    | succ m9 ih_95 =>
      intro i S_93  hi_97 hl_94 
      have hz_122 : ∀ j, aI S_93 q_1 j = 0 := fun j9 => (hl_94.ai hm_69 (fun q9 => (fun e9 => absurd ((hk_70).symm.trans ((congrArg (hK _) e9).trans hk_82)) (by decide)) q9) j9).trans (hz_72 j9)
      have hz_123 : ∀ j, aI S_93 q_16 j = 0 := fun j9 => (hl_94.ai hm_73 (fun q9 => (fun e9 => absurd ((hk_74).symm.trans ((congrArg (hK _) e9).trans hk_82)) (by decide)) q9) j9).trans (hz_76 j9)
      have hz_124 : ∀ j, aI S_93 q_36 j = 0 := fun j9 => (hl_94.ai hm_77 (fun q9 => (fun e9 => absurd ((hk_78).symm.trans ((congrArg (hK _) e9).trans hk_82)) (by decide)) q9) j9).trans (hz_80 j9)
      have hm_125 : h ∈ hL S_93 := hl_94.mem hm_67
      have hk_126 : Kd S_93 h 3 := hl_94.kd hm_67 hk_68
      have hm_127 : q_1 ∈ hL S_93 := hl_94.mem hm_69
      have hk_128 : Kd S_93 q_1 13 := hl_94.kd hm_69 hk_70
      have hn_129 : Ln S_93 q_1 0 := hl_94.ln hm_69 hn_71
      have hm_130 : q_16 ∈ hL S_93 := hl_94.mem hm_73
      have hk_131 : Kd S_93 q_16 15 := hl_94.kd hm_73 hk_74
      have hn_132 : Ln S_93 q_16 12 := hl_94.ln hm_73 hn_75
      have hm_133 : q_36 ∈ hL S_93 := hl_94.mem hm_77
      have hk_134 : Kd S_93 q_36 13 := hl_94.kd hm_77 hk_78
      have hn_135 : Ln S_93 q_36 12000 := hl_94.ln hm_77 hn_79
      have hm_136 : q_61 ∈ hL S_93 := hl_94.mem hm_81
      have hk_137 : Kd S_93 q_61 16 := hl_94.kd hm_81 hk_82
      have hn_138 : Ln S_93 q_61 16384 := hl_94.ln hm_81 hn_83
      have hv_139 : hR S_93 300 h = (some s0) := hl_94.fr hm_67 (fun h9 => h9) hv_85
      have hv_140 : hR S_93 301 h = (some q_1) := hl_94.fr hm_67 (fun h9 => h9) hv_86
      have hv_141 : hR S_93 307 h = (some q_16) := hl_94.fr hm_67 (fun h9 => h9) hv_87
      have hv_142 : hR S_93 317 h = (some q_36) := hl_94.fr hm_67 (fun h9 => h9) hv_88
      have hv_143 : hR S_93 320 h = (some q_61) := hl_94.fr hm_67 (fun h9 => h9) hv_89
      have hf_144 : Fm (fun _ _ => False) (fun f9 b9 => b9 = h) (fun _ => False) S S_93 := hf_90.then hl_94 (fun a9 ha9 => ⟨(fun f9 h9 => h9.elim), (fun f9 h9 => h9.elim), (fun h9 => (fun h8 => absurd (h8 ▸ ha9) hz_63) h9)⟩)
      have hN_145 : NL S [q_16, q_36, q_61] S_93 := NL.mono hN_91 (fun a9 h9 => hl_94.mem h9)
      have hrt := rt_all i (by omega)
      have hle9 := hrt.2.2.2.1
      have hle8 := hrt.2.2.2.2
      refine j_iload_n C dX3_init_44 rfl 0 rfl ?_
      refine j_gets C 3 rfl (Or.inr ⟨_, gsX3_30⟩) dX3_init_45 ?_
      refine j_stlen (v := 148) C 3 rfl dX3_init_48 (by decide) ?_
      refine j_ic_ge (tgt := 139) C dX3_init_49 (by decide) (fun c_49 => absurd c_49 (nI_ge (b := 148) (by omega) (by omega))) (fun c_49 => ?_)
      refine j_iload_n C dX3_init_52 rfl 0 rfl ?_
      refine j_gets C 2 rfl (Or.inr ⟨_, gsX3_34⟩) dX3_init_53 ?_
      refine j_stlen (v := 148) C 2 rfl dX3_init_56 (by decide) ?_
      show J _ _ _ _ _ 57 _
      refine j_ic_ge (tgt := 139) C dX3_init_57 (by decide) (fun c_57 => absurd c_57 (nI_ge (b := 148) (by omega) (by omega))) (fun c_57 => ?_)
      refine j_iload_n C dX3_init_60 rfl 0 rfl ?_
      refine j_bipush (v := 74) C dX3_init_61 (by decide) ?_
      refine j_idiv (v := nI (i / 74)) C dX3_init_63 (by decide) (pk_div (d := 74) (by omega) (by omega) (by omega)) ?_
      refine j_istore_n (lv' := [(3, .int (nI (i / 74))), (2, .int (nI i)), (0, .ref h), (1, .ref s0)]) C dX3_init_64 rfl (by rw [hn9]; decide) rfl ?_
      refine j_bipush (v := 13) C dX3_init_65 (by decide) ?_
      refine j_gets C 2 rfl (Or.inr ⟨_, gsX3_34⟩) dX3_init_67 ?_
      refine j_iload_n C dX3_init_70 rfl 1 rfl ?_
      show J _ _ _ _ _ 71 _
      refine j_stld (v := st_RUN_BITS.getD i 0) C 2 rfl dX3_init_71 (show vp_in (nI i) 148 from vp_in_nI (by omega) (by omega)) (congrArg (fun z9 => st_RUN_BITS.getD z9 0) (nI_clamp (by omega))) ?_
      refine j_isub (v := nI (rt_o i)) C dX3_init_72 hrt.1 ?_
      refine j_istore (lv' := [(4, .int (nI (rt_o i))), (3, .int (nI (i / 74))), (2, .int (nI i)), (0, .ref h), (1, .ref s0)]) C dX3_init_73 (by rw [hn9]; decide) rfl ?_
      refine j_iload_n C dX3_init_75 rfl 1 rfl ?_
      refine j_bipush (v := 13) C dX3_init_76 (by decide) ?_
      refine j_ishl (v := (nI (i / 74) <<< ((13 : Int32) &&& 31))) C dX3_init_78 rfl ?_
      refine j_gets C 3 rfl (Or.inr ⟨_, gsX3_30⟩) dX3_init_79 ?_
      refine j_iload_n C dX3_init_82 rfl 2 rfl ?_
      show J _ _ _ _ _ 83 _
      refine j_stld (v := st_RUN_CODES.getD i 0) C 3 rfl dX3_init_83 (show vp_in (nI i) 148 from vp_in_nI (by omega) (by omega)) (congrArg (fun z9 => st_RUN_CODES.getD z9 0) (nI_clamp (by omega))) ?_
      refine j_iload C dX3_init_84 0 rfl ?_
      refine j_ishl (v := (st_RUN_CODES.getD i 0 <<< (nI (rt_o i) &&& 31))) C dX3_init_86 rfl ?_
      refine j_iadd (v := nI (rt_f i)) C dX3_init_87 hrt.2.2.1 ?_
      refine j_istore (lv' := [(5, .int (nI (rt_f i))), (4, .int (nI (rt_o i))), (3, .int (nI (i / 74))), (2, .int (nI i)), (0, .ref h), (1, .ref s0)]) C dX3_init_88 (by rw [hn9]; decide) rfl ?_
      refine j_iload C dX3_init_90 0 rfl ?_
      refine j_istore (lv' := [(6, .int (nI (rt_f i))), (5, .int (nI (rt_f i))), (4, .int (nI (rt_o i))), (3, .int (nI (i / 74))), (2, .int (nI i)), (0, .ref h), (1, .ref s0)]) C dX3_init_92 (by rw [hn9]; decide) rfl ?_
      have loop_150 : ∀ (m9 j : Nat) (S_147 : Hp), j + m9 = (rt_s i) → Fm (fun _ _ => False) (fun _ _ => False) (fun b9 => b9 = q_61) S_93 S_147 → J x (0 + 1 + 1 + 1 + 1) (0 + 0 + 12 + 12000 + 16384) S_147 [(6, .int (nI (rt_f i + j))), (5, .int (nI (rt_f i))), (4, .int (nI (rt_o i))), (3, .int (nI (i / 74))), (2, .int (nI i)), (0, .ref h), (1, .ref s0)] 94 [] := by
        intro m9
        induction m9 with
        | zero =>
          intro j S_147  hi_151 hl_148 
          have hz_152 : ∀ j, aI S_147 q_1 j = 0 := fun j9 => (hl_148.ai hm_127 (fun q9 => (fun e9 => absurd ((hk_128).symm.trans ((congrArg (hK _) e9).trans hk_137)) (by decide)) q9) j9).trans (hz_122 j9)
          have hz_153 : ∀ j, aI S_147 q_16 j = 0 := fun j9 => (hl_148.ai hm_130 (fun q9 => (fun e9 => absurd ((hk_131).symm.trans ((congrArg (hK _) e9).trans hk_137)) (by decide)) q9) j9).trans (hz_123 j9)
          have hz_154 : ∀ j, aI S_147 q_36 j = 0 := fun j9 => (hl_148.ai hm_133 (fun q9 => (fun e9 => absurd ((hk_134).symm.trans ((congrArg (hK _) e9).trans hk_137)) (by decide)) q9) j9).trans (hz_124 j9)
          have hm_155 : h ∈ hL S_147 := hl_148.mem hm_125
          have hk_156 : Kd S_147 h 3 := hl_148.kd hm_125 hk_126
          have hm_157 : q_1 ∈ hL S_147 := hl_148.mem hm_127
          have hk_158 : Kd S_147 q_1 13 := hl_148.kd hm_127 hk_128
          have hn_159 : Ln S_147 q_1 0 := hl_148.ln hm_127 hn_129
          have hm_160 : q_16 ∈ hL S_147 := hl_148.mem hm_130
          have hk_161 : Kd S_147 q_16 15 := hl_148.kd hm_130 hk_131
          have hn_162 : Ln S_147 q_16 12 := hl_148.ln hm_130 hn_132
          have hm_163 : q_36 ∈ hL S_147 := hl_148.mem hm_133
          have hk_164 : Kd S_147 q_36 13 := hl_148.kd hm_133 hk_134
          have hn_165 : Ln S_147 q_36 12000 := hl_148.ln hm_133 hn_135
          have hm_166 : q_61 ∈ hL S_147 := hl_148.mem hm_136
          have hk_167 : Kd S_147 q_61 16 := hl_148.kd hm_136 hk_137
          have hn_168 : Ln S_147 q_61 16384 := hl_148.ln hm_136 hn_138
          have hv_169 : hR S_147 300 h = (some s0) := hl_148.fr hm_125 (fun h9 => h9) hv_139
          have hv_170 : hR S_147 301 h = (some q_1) := hl_148.fr hm_125 (fun h9 => h9) hv_140
          have hv_171 : hR S_147 307 h = (some q_16) := hl_148.fr hm_125 (fun h9 => h9) hv_141
          have hv_172 : hR S_147 317 h = (some q_36) := hl_148.fr hm_125 (fun h9 => h9) hv_142
          have hv_173 : hR S_147 320 h = (some q_61) := hl_148.fr hm_125 (fun h9 => h9) hv_143
          have hf_174 : Fm (fun _ _ => False) (fun f9 b9 => b9 = h) (fun _ => False) S S_147 := hf_144.then hl_148 (fun a9 ha9 => ⟨(fun f9 h9 => h9.elim), (fun f9 h9 => h9.elim), (fun h9 => (fun h8 => absurd (h8 ▸ ha9) hz_63) h9)⟩)
          have hf_175 : Fm (fun _ _ => False) (fun _ _ => False) (fun b9 => b9 = q_61) S_64 S_147 := hl_94.then hl_148 (fun a9 ha9 => ⟨(fun f9 h9 => h9.elim), (fun f9 h9 => h9.elim), (fun h9 => (fun h8 => h8) h9)⟩)
          have hN_176 : NL S [q_16, q_36, q_61] S_147 := NL.mono hN_145 (fun a9 h9 => hl_148.mem h9)
          refine j_iload C dX3_init_94 0 rfl ?_
          refine j_iload C dX3_init_96 1 rfl ?_
          show J _ _ _ _ _ 98 _
          refine j_iconst (v := 1) C dX3_init_98 (by decide) ?_
          refine j_iload C dX3_init_99 2 rfl ?_
          refine j_ishl (v := nI (rt_s i)) C dX3_init_101 hrt.2.1 ?_
          refine j_iadd (v := nI (rt_f i + rt_s i)) C dX3_init_102 (nI_add _ _) ?_
          refine j_ic_ge (tgt := 133) C dX3_init_103 (by decide) (fun c_103 => ?_) (fun c_103 => absurd (nI_le (by omega) (by omega)) c_103)
          refine j_iinc (q := 4) (v := nI (i + 1)) (lv' := [(2, .int (nI (i + 1))), (6, .int (nI (rt_f i + j))), (5, .int (nI (rt_f i))), (4, .int (nI (rt_o i))), (3, .int (nI (i / 74))), (0, .ref h), (1, .ref s0)]) C dX3_init_133 rfl (nI_add i 1) (by rw [hn9]; decide) rfl ?_
          refine j_goto (tgt := 44) C dX3_init_136 (by decide) ?_
          refine J.sub [0, 5, 6] (lv' := [(2, .int (nI (i + 1))), (0, .ref h), (1, .ref s0)]) (by rfl) ?_
          exact ih_95 (i + 1) _  (by omega) hf_175 
        | succ m9 ih_149 =>
          intro j S_147  hi_151 hl_148 
          have hz_177 : ∀ j, aI S_147 q_1 j = 0 := fun j9 => (hl_148.ai hm_127 (fun q9 => (fun e9 => absurd ((hk_128).symm.trans ((congrArg (hK _) e9).trans hk_137)) (by decide)) q9) j9).trans (hz_122 j9)
          have hz_178 : ∀ j, aI S_147 q_16 j = 0 := fun j9 => (hl_148.ai hm_130 (fun q9 => (fun e9 => absurd ((hk_131).symm.trans ((congrArg (hK _) e9).trans hk_137)) (by decide)) q9) j9).trans (hz_123 j9)
          have hz_179 : ∀ j, aI S_147 q_36 j = 0 := fun j9 => (hl_148.ai hm_133 (fun q9 => (fun e9 => absurd ((hk_134).symm.trans ((congrArg (hK _) e9).trans hk_137)) (by decide)) q9) j9).trans (hz_124 j9)
          have hm_180 : h ∈ hL S_147 := hl_148.mem hm_125
          have hk_181 : Kd S_147 h 3 := hl_148.kd hm_125 hk_126
          have hm_182 : q_1 ∈ hL S_147 := hl_148.mem hm_127
          have hk_183 : Kd S_147 q_1 13 := hl_148.kd hm_127 hk_128
          have hn_184 : Ln S_147 q_1 0 := hl_148.ln hm_127 hn_129
          have hm_185 : q_16 ∈ hL S_147 := hl_148.mem hm_130
          have hk_186 : Kd S_147 q_16 15 := hl_148.kd hm_130 hk_131
          have hn_187 : Ln S_147 q_16 12 := hl_148.ln hm_130 hn_132
          have hm_188 : q_36 ∈ hL S_147 := hl_148.mem hm_133
          have hk_189 : Kd S_147 q_36 13 := hl_148.kd hm_133 hk_134
          have hn_190 : Ln S_147 q_36 12000 := hl_148.ln hm_133 hn_135
          have hm_191 : q_61 ∈ hL S_147 := hl_148.mem hm_136
          have hk_192 : Kd S_147 q_61 16 := hl_148.kd hm_136 hk_137
          have hn_193 : Ln S_147 q_61 16384 := hl_148.ln hm_136 hn_138
          have hv_194 : hR S_147 300 h = (some s0) := hl_148.fr hm_125 (fun h9 => h9) hv_139
          have hv_195 : hR S_147 301 h = (some q_1) := hl_148.fr hm_125 (fun h9 => h9) hv_140
          have hv_196 : hR S_147 307 h = (some q_16) := hl_148.fr hm_125 (fun h9 => h9) hv_141
          have hv_197 : hR S_147 317 h = (some q_36) := hl_148.fr hm_125 (fun h9 => h9) hv_142
          have hv_198 : hR S_147 320 h = (some q_61) := hl_148.fr hm_125 (fun h9 => h9) hv_143
          have hf_199 : Fm (fun _ _ => False) (fun f9 b9 => b9 = h) (fun _ => False) S S_147 := hf_144.then hl_148 (fun a9 ha9 => ⟨(fun f9 h9 => h9.elim), (fun f9 h9 => h9.elim), (fun h9 => (fun h8 => absurd (h8 ▸ ha9) hz_63) h9)⟩)
          have hf_200 : Fm (fun _ _ => False) (fun _ _ => False) (fun b9 => b9 = q_61) S_64 S_147 := hl_94.then hl_148 (fun a9 ha9 => ⟨(fun f9 h9 => h9.elim), (fun f9 h9 => h9.elim), (fun h9 => (fun h8 => h8) h9)⟩)
          have hN_201 : NL S [q_16, q_36, q_61] S_147 := NL.mono hN_145 (fun a9 h9 => hl_148.mem h9)
          refine j_iload C dX3_init_94 0 rfl ?_
          refine j_iload C dX3_init_96 1 rfl ?_
          show J _ _ _ _ _ 98 _
          refine j_iconst (v := 1) C dX3_init_98 (by decide) ?_
          refine j_iload C dX3_init_99 2 rfl ?_
          refine j_ishl (v := nI (rt_s i)) C dX3_init_101 hrt.2.1 ?_
          refine j_iadd (v := nI (rt_f i + rt_s i)) C dX3_init_102 (nI_add _ _) ?_
          refine j_ic_ge (tgt := 133) C dX3_init_103 (by decide) (fun c_103 => absurd c_103 (nI_ge (by omega) (by omega))) (fun c_103 => ?_)
          refine j_iload C dX3_init_106 0 rfl ?_
          refine j_aload_n C dX3_init_108 rfl 5 rfl ?_
          refine j_getr (f := 320) (v := q_61) C flX3_22 dX3_init_109 hm_180 hk_181 (by decide) rfl hv_198 ?_
          show J _ _ _ _ _ 112 _
          refine j_alen (v := 16384) C dX3_init_112 hm_191 hk_192 (by decide) (by decide) (len_of (n := 16384) hn_193 (by decide)) ?_
          refine j_ic_ge (tgt := 133) C dX3_init_113 (by decide) (fun c_113 => absurd c_113 (nI_ge (b := 16384) (by omega) (by omega))) (fun c_113 => ?_)
          refine j_aload_n C dX3_init_116 rfl 5 rfl ?_
          refine j_getr (f := 320) (v := q_61) C flX3_22 dX3_init_117 hm_180 hk_181 (by decide) rfl hv_198 ?_
          refine j_iload C dX3_init_120 0 rfl ?_
          refine j_iload_n C dX3_init_122 rfl 4 rfl ?_
          refine j_iconst (v := 1) C dX3_init_123 (by decide) ?_
          refine j_iadd (v := nI (i + 1)) C dX3_init_124 (nI_add i 1) ?_
          show J _ _ _ _ _ 125 _
          refine j_i2s C dX3_init_125 rfl ?_
          refine j_sast (j := (rt_f i + j)) C dX3_init_126 hm_191 hk_192 (inr_of (n := 16384) hn_193 (vp_in_nI (by omega) (by omega))) (nI_clamp (by omega)) ?_
          refine j_iinc (q := 0) (v := nI (rt_f i + (j + 1))) (lv' := [(6, .int (nI (rt_f i + (j + 1)))), (5, .int (nI (rt_f i))), (4, .int (nI (rt_o i))), (3, .int (nI (i / 74))), (2, .int (nI i)), (0, .ref h), (1, .ref s0)]) C dX3_init_127 rfl (by rw [show Int32.ofInt 1 = 1 by decide]; exact nI_add (rt_f i + j) 1) (by rw [hn9]; decide) rfl ?_
          refine j_goto (tgt := 94) C dX3_init_130 (by decide) ?_
          refine J.sub [0, 1, 2, 3, 4, 5, 6] (lv' := [(6, .int (nI (rt_f i + (j + 1)))), (5, .int (nI (rt_f i))), (4, .int (nI (rt_o i))), (3, .int (nI (i / 74))), (2, .int (nI i)), (0, .ref h), (1, .ref s0)]) (by rfl) ?_
          exact ih_149 (j + 1) _  (by omega) (hl_148.tI _ _ (fun _ => rfl)) 
      refine J.sub [0, 1, 2, 3, 4, 5, 6] (lv' := [(6, .int (nI (rt_f i + 0))), (5, .int (nI (rt_f i))), (4, .int (nI (rt_o i))), (3, .int (nI (i / 74))), (2, .int (nI i)), (0, .ref h), (1, .ref s0)]) (by rfl) ?_
      exact loop_150 (rt_s i) 0 _  (by omega) Fm.refl 
  refine J.sub [0, 1, 2] (lv' := [(2, .int (nI 0)), (0, .ref h), (1, .ref s0)]) (by rfl) ?_
  exact loop_96 148 0 _  (by omega) Fm.refl 
