set_option maxRecDepth 100000 in
set_option maxHeartbeats 4000000 in
theorem house4 {S0 S1 : Hp} {h : Nat} (hm0 : h ∈ hL S0) (hm : h ∈ hL S1) (hk : Kd S1 h 11) (hp : ∃ (o_tp o_jb o_so o_sa o_g o_gb o_gw o_gh o_gd : Nat) (l6 : List Nat) (o_w : Nat) (l9 : List Nat) (o_pi o_pse o_pst o_pru : Nat), (o_tp ∈ hL S1 ∧ Kd S1 o_tp 13) ∧ (o_jb ∈ hL S1 ∧ Kd S1 o_jb 13) ∧ (o_so ∈ hL S1 ∧ Kd S1 o_so 14) ∧ (o_sa ∈ hL S1 ∧ Kd S1 o_sa 14) ∧ (o_g ∈ hL S1 ∧ Kd S1 o_g 6) ∧ (o_gb ∈ hL S1 ∧ Kd S1 o_gb 13) ∧ (o_gw ∈ hL S1 ∧ Kd S1 o_gw 14) ∧ (o_gh ∈ hL S1 ∧ Kd S1 o_gh 14) ∧ (o_gd ∈ hL S1 ∧ Kd S1 o_gd 21) ∧ (o_pi ∈ hL S1 ∧ Kd S1 o_pi 3) ∧ (o_pse ∈ hL S1 ∧ Kd S1 o_pse 15) ∧ (o_pst ∈ hL S1 ∧ Kd S1 o_pst 13) ∧ (o_pru ∈ hL S1 ∧ Kd S1 o_pru 16) ∧ Ln S1 o_tp 8000 ∧ Ln S1 o_jb 12000 ∧ Ln S1 o_so 6 ∧ Ln S1 o_sa 7 ∧ Ln S1 o_gb 60000 ∧ Ln S1 o_gw 12 ∧ Ln S1 o_gh 12 ∧ Ln S1 o_gd 13 ∧ Ln S1 o_pse 12 ∧ Ln S1 o_pst 12000 ∧ Ln S1 o_pru 16384 ∧ hR S1 1100 h = some o_tp ∧ hR S1 1102 h = some o_jb ∧ hR S1 1103 h = some o_so ∧ hR S1 1104 h = some o_sa ∧ hR S1 1106 h = some o_g ∧ hR S1 1107 h = some o_w ∧ hR S1 1108 h = some o_pi ∧ hR S1 600 o_g = some o_gb ∧ hR S1 604 o_g = some o_gw ∧ hR S1 605 o_g = some o_gh ∧ hR S1 606 o_g = some o_gd ∧ hR S1 900 o_w = some o_g ∧ hR S1 300 o_pi = some o_g ∧ hR S1 307 o_pi = some o_pse ∧ hR S1 317 o_pi = some o_pst ∧ hR S1 320 o_pi = some o_pru ∧ RWs S1 o_gd l6 ∧ Wt s9K s9N s9P s9Q (fun i => (o_w :: l9).getD i 0) S1 ∧ (o_w :: l9).length = 106 ∧ NL S0 (((((((((([] ++ [o_tp]) ++ [o_jb]) ++ [o_so]) ++ [o_sa]) ++ [o_g]) ++ ([o_gb, o_gw, o_gh] ++ (o_gd :: l6))) ++ [o_w]) ++ l9) ++ [o_pi]) ++ [o_pse, o_pst, o_pru]) S1 ∧ (∀ j, aI S1 o_sa j = 0) ∧ (∀ j, aI S1 ((o_w :: l9).getD 6 0) j = 0) ∧ (∀ j, aI S1 ((o_w :: l9).getD 9 0) j = 0) ∧ (∀ j, aI S1 ((o_w :: l9).getD 14 0) j = 0) ∧ (∀ j, aI S1 ((o_w :: l9).getD 19 0) j = 0)) : ∃ A B C D : List Nat, A.length = 10 ∧ C.length = 106 ∧ D.length = 4 ∧ A.getD 0 0 = h ∧ Wt sAK sAN sAP [] (fun i => A.getD i 0) S1 ∧ RWs S1 (A.getD 9 0) B ∧ Wt s9K s9N s9P s9Q (fun i => C.getD i 0) S1 ∧ Wt sDK sDN sDP [] (fun i => D.getD i 0) S1 ∧ hR S1 1107 (A.getD 0 0) = some (C.getD 0 0) ∧ hR S1 1108 (A.getD 0 0) = some (D.getD 0 0) ∧ hR S1 900 (C.getD 0 0) = some (A.getD 5 0) ∧ hR S1 300 (D.getD 0 0) = some (A.getD 5 0) ∧ (A ++ (B ++ (C ++ D))).Nodup ∧ (∀ a ∈ A ++ (B ++ (C ++ D)), a ∈ hL S1) ∧ (∀ j, aI S1 (A.getD 4 0) j = 0) ∧ (∀ j, aI S1 (C.getD 6 0) j = 0) ∧ (∀ j, aI S1 (C.getD 9 0) j = 0) ∧ (∀ j, aI S1 (C.getD 14 0) j = 0) ∧ (∀ j, aI S1 (C.getD 19 0) j = 0) := by
  obtain ⟨o_tp, o_jb, o_so, o_sa, o_g, o_gb, o_gw, o_gh, o_gd, l6, o_w, l9, o_pi, o_pse, o_pst, o_pru, hp⟩ := hp
  obtain ⟨⟨m_tp, k_tp⟩, ⟨m_jb, k_jb⟩, ⟨m_so, k_so⟩, ⟨m_sa, k_sa⟩, ⟨m_g, k_g⟩, ⟨m_gb, k_gb⟩, ⟨m_gw, k_gw⟩, ⟨m_gh, k_gh⟩, ⟨m_gd, k_gd⟩, ⟨m_pi, k_pi⟩, ⟨m_pse, k_pse⟩, ⟨m_pst, k_pst⟩, ⟨m_pru, k_pru⟩, hp⟩ := hp
  obtain ⟨l_tp, l_jb, l_so, l_sa, l_gb, l_gw, l_gh, l_gd, l_pse, l_pst, l_pru, hp⟩ := hp
  obtain ⟨r_1100, r_1102, r_1103, r_1104, r_1106, r_1107, r_1108, r_600, r_604, r_605, r_606, r_900, r_300, r_307, r_317, r_320, hp⟩ := hp
  obtain ⟨hB, hC, hl, hN, z_sa, z_6, z_9, z_14, z_19⟩ := hp
  have e9 : (((((((((([] ++ [o_tp]) ++ [o_jb]) ++ [o_so]) ++ [o_sa]) ++ [o_g]) ++ ([o_gb, o_gw, o_gh] ++ (o_gd :: l6))) ++ [o_w]) ++ l9) ++ [o_pi]) ++ [o_pse, o_pst, o_pru]) = [o_tp, o_jb, o_so, o_sa, o_g, o_gb, o_gw, o_gh, o_gd] ++ (l6 ++ ((o_w :: l9) ++ [o_pi, o_pse, o_pst, o_pru])) := by
    simp only [List.append_assoc, List.nil_append, List.cons_append]
  rw [e9] at hN
  refine ⟨[h, o_tp, o_jb, o_so, o_sa, o_g, o_gb, o_gw, o_gh, o_gd], l6, o_w :: l9, [o_pi, o_pse, o_pst, o_pru], rfl, hl, rfl, rfl, ⟨(show WK S1 [h, o_tp, o_jb, o_so, o_sa, o_g, o_gb, o_gw, o_gh, o_gd] sAK from (WK.cons ⟨hm, hk⟩ (WK.cons ⟨m_tp, k_tp⟩ (WK.cons ⟨m_jb, k_jb⟩ (WK.cons ⟨m_so, k_so⟩ (WK.cons ⟨m_sa, k_sa⟩ (WK.cons ⟨m_g, k_g⟩ (WK.cons ⟨m_gb, k_gb⟩ (WK.cons ⟨m_gw, k_gw⟩ (WK.cons ⟨m_gh, k_gh⟩ (WK.cons ⟨m_gd, k_gd⟩ WK.nil))))))))))).get, (List.forall_mem_cons.mpr ⟨l_tp, (List.forall_mem_cons.mpr ⟨l_jb, (List.forall_mem_cons.mpr ⟨l_so, (List.forall_mem_cons.mpr ⟨l_sa, (List.forall_mem_cons.mpr ⟨l_gb, (List.forall_mem_cons.mpr ⟨l_gw, (List.forall_mem_cons.mpr ⟨l_gh, (List.forall_mem_cons.mpr ⟨l_gd, (fun _ h9 => absurd h9 List.not_mem_nil)⟩)⟩)⟩)⟩)⟩)⟩)⟩)⟩), (List.forall_mem_cons.mpr ⟨r_1100, (List.forall_mem_cons.mpr ⟨r_1102, (List.forall_mem_cons.mpr ⟨r_1103, (List.forall_mem_cons.mpr ⟨r_1104, (List.forall_mem_cons.mpr ⟨r_1106, (List.forall_mem_cons.mpr ⟨r_600, (List.forall_mem_cons.mpr ⟨r_604, (List.forall_mem_cons.mpr ⟨r_605, (List.forall_mem_cons.mpr ⟨r_606, (fun _ h9 => absurd h9 List.not_mem_nil)⟩)⟩)⟩)⟩)⟩)⟩)⟩)⟩)⟩), (fun _ h9 => absurd h9 List.not_mem_nil)⟩, hB, hC, ⟨(show WK S1 [o_pi, o_pse, o_pst, o_pru] sDK from (WK.cons ⟨m_pi, k_pi⟩ (WK.cons ⟨m_pse, k_pse⟩ (WK.cons ⟨m_pst, k_pst⟩ (WK.cons ⟨m_pru, k_pru⟩ WK.nil))))).get, (List.forall_mem_cons.mpr ⟨l_pse, (List.forall_mem_cons.mpr ⟨l_pst, (List.forall_mem_cons.mpr ⟨l_pru, (fun _ h9 => absurd h9 List.not_mem_nil)⟩)⟩)⟩), (List.forall_mem_cons.mpr ⟨r_307, (List.forall_mem_cons.mpr ⟨r_317, (List.forall_mem_cons.mpr ⟨r_320, (fun _ h9 => absurd h9 List.not_mem_nil)⟩)⟩)⟩), (fun _ h9 => absurd h9 List.not_mem_nil)⟩, r_1107, r_1108, r_900, r_300, ?_, ?_, z_sa, z_6, z_9, z_14, z_19⟩
  · show (h :: ([o_tp, o_jb, o_so, o_sa, o_g, o_gb, o_gw, o_gh, o_gd] ++ (l6 ++ ((o_w :: l9) ++ [o_pi, o_pse, o_pst, o_pru])))).Nodup
    exact List.nodup_cons.mpr ⟨fun q => (hN.2 h q).1 hm0, hN.1⟩
  · intro a ha
    have ha : a ∈ h :: ([o_tp, o_jb, o_so, o_sa, o_g, o_gb, o_gw, o_gh, o_gd] ++ (l6 ++ ((o_w :: l9) ++ [o_pi, o_pse, o_pst, o_pru]))) := ha
    rcases List.mem_cons.mp ha with q | q
    · exact q ▸ hm
    · exact (hN.2 a q).2

/-- what the start tells besides the world -/
def Ini0 (ad : Nat → Nat) (S : Hp) : Prop := (∀ f, f ≠ 1110 → f ≠ 1111 → hI S f (ad 0) = 0) ∧ hI S 1110 (ad 0) = -1 ∧ hI S 1111 (ad 0) = -1 ∧ (∀ f, f ≠ 1244 → f ≠ 1245 → hI S f (ad 133) = 0) ∧ hI S 1244 (ad 133) = -1 ∧ hI S 1245 (ad 133) = -1 ∧ (∀ j, aI S (ad 4) j = 0) ∧ (∀ j, aI S (ad 29) j = 0) ∧ (∀ j, aI S (ad 32) j = 0) ∧ (∀ j, aI S (ad 37) j = 0) ∧ (∀ j, aI S (ad 42) j = 0) ∧ (∀ j, aI S (ad 153) j = 0) ∧ (∀ j, aI S (ad 143) j = 0) ∧ (∀ j, aI S (ad 148) j = 0)
theorem sA_l : sAK.length = 10 := rfl
theorem sA_p : ∀ p ∈ sAP, p.2.1 < sAK.length := by decide +kernel
theorem sA_n : ∀ p ∈ sAN, p.1 < sAK.length := by decide +kernel
theorem sD_p : ∀ p ∈ sDP, p.2.1 < sDK.length := by decide +kernel
theorem sD_n : ∀ p ∈ sDN, p.1 < sDK.length := by decide +kernel
theorem mem_in {A B C D : List Nat} {S : Hp} (h : ∀ a ∈ A ++ (B ++ (C ++ D)), a ∈ hL S) : (∀ i, i < A.length → A.getD i 0 ∈ hL S) ∧ (∀ i, i < B.length → B.getD i 0 ∈ hL S) ∧ (∀ i, i < C.length → C.getD i 0 ∈ hL S) ∧ ∀ i, i < D.length → D.getD i 0 ∈ hL S :=
  ⟨fun i hi => h _ (List.mem_append_left _ (getD_in hi)), fun i hi => h _ (List.mem_append_right _ (List.mem_append_left _ (getD_in hi))), fun i hi => h _ (List.mem_append_right _ (List.mem_append_right _ (List.mem_append_left _ (getD_in hi)))), fun i hi => h _ (List.mem_append_right _ (List.mem_append_right _ (List.mem_append_right _ (getD_in hi))))⟩
set_option maxRecDepth 100000 in
set_option maxHeartbeats 8000000 in
theorem both4 {S1 S2 S3 : Hp} {h m : Nat} {l : List Nat} (e2 : S2 = nO S1 m 12) (hq : m ∉ hL S1) (hp : ∃ A B C D : List Nat, A.length = 10 ∧ C.length = 106 ∧ D.length = 4 ∧ A.getD 0 0 = h ∧ Wt sAK sAN sAP [] (fun i => A.getD i 0) S1 ∧ RWs S1 (A.getD 9 0) B ∧ Wt s9K s9N s9P s9Q (fun i => C.getD i 0) S1 ∧ Wt sDK sDN sDP [] (fun i => D.getD i 0) S1 ∧ hR S1 1107 (A.getD 0 0) = some (C.getD 0 0) ∧ hR S1 1108 (A.getD 0 0) = some (D.getD 0 0) ∧ hR S1 900 (C.getD 0 0) = some (A.getD 5 0) ∧ hR S1 300 (D.getD 0 0) = some (A.getD 5 0) ∧ (A ++ (B ++ (C ++ D))).Nodup ∧ (∀ a ∈ A ++ (B ++ (C ++ D)), a ∈ hL S1) ∧ (∀ j, aI S1 (A.getD 4 0) j = 0) ∧ (∀ j, aI S1 (C.getD 6 0) j = 0) ∧ (∀ j, aI S1 (C.getD 9 0) j = 0) ∧ (∀ j, aI S1 (C.getD 14 0) j = 0) ∧ (∀ j, aI S1 (C.getD 19 0) j = 0)) (hi : ∀ f, f ≠ 1110 → f ≠ 1111 → hI S1 f h = 0) (hi1 : hI S1 1110 h = -1) (hi2 : hI S1 1111 h = -1)
    (hF : Fm (fun f9 b9 => (f9 = 1244 ∧ b9 = m) ∨ (f9 = 1245 ∧ b9 = m)) (fun f9 b9 => b9 = m) (fun _ => False) S2 S3) (j1 : hI S3 1244 m = -1) (j2 : hI S3 1245 m = -1) (wE : Wt sMK sMN sMP [] (fun i => (m :: l).getD i 0) S3) (hl : l.length = 40) (hN : NL S2 l S3)
    (y_20 : ∀ j, aI S3 ((m :: l).getD 20 0) j = 0) (y_10 : ∀ j, aI S3 ((m :: l).getD 10 0) j = 0) (y_15 : ∀ j, aI S3 ((m :: l).getD 15 0) j = 0) : ∃ ad : Nat → Nat, ad 0 = h ∧ ad 133 = m ∧ Wd ad S3 ∧ Ini0 ad S3 := by
  obtain ⟨A, B, C, D, hA, hC, hD, e0, wA, wB, wC, wD, h1, h2, h3, h4, hn, hm, z_sa, z_6, z_9, z_14, z_19⟩ := hp
  have hE : (m :: l).length = 41 := congrArg (· + 1) hl
  obtain ⟨mA, mB, mC, mD⟩ := mem_in hm
  have hF1 : Fm (fun f9 b9 => (f9 = 1244 ∧ b9 = m) ∨ (f9 = 1245 ∧ b9 = m)) (fun _ b9 => b9 = m) (fun _ => False) S1 S2 := by rw [e2]; exact Fm.refl.nO _ hq
  have hG : Fm (fun f9 b9 => (f9 = 1244 ∧ b9 = m) ∨ (f9 = 1245 ∧ b9 = m)) (fun _ b9 => b9 = m) (fun _ => False) S1 S3 := hF1.then hF (fun a9 ha9 => ⟨fun f9 h9 => h9, fun f9 h9 => h9, fun h9 => h9⟩)
  have ne : ∀ a, a ∈ hL S1 → a ≠ m := fun a ha e => hq (e ▸ ha)
  have wA' := wA.fm sA_p sA_n (fun _ h9 => absurd h9 List.not_mem_nil) hG (fun p hp => ne _ (mA _ (by rw [hA]; exact sA_p p hp))) (fun _ h9 => absurd h9 List.not_mem_nil)
  have wC' := wC.fm s9_p s9_n s9_q hG (fun p hp => ne _ (mC _ (by rw [hC, ← s9_l]; exact s9_p p hp))) (fun _ _ h9 => h9)
  have wD' := wD.fm sD_p sD_n (fun _ h9 => absurd h9 List.not_mem_nil) hG (fun p hp => ne _ (mD _ (by rw [hD]; exact sD_p p hp))) (fun _ h9 => absurd h9 List.not_mem_nil)
  have iA : ∀ i, i < 10 → A.getD i 0 ∈ hL S1 := fun i hi => mA i (by omega)
  have iC : ∀ i, i < 106 → C.getD i 0 ∈ hL S1 := fun i hi => mC i (by omega)
  have iD : ∀ i, i < 4 → D.getD i 0 ∈ hL S1 := fun i hi => mD i (by omega)
  have wB' : RWs S3 (A.getD 9 0) B := wB.fm hG (iA 9 (by decide)) (fun h9 => h9)
  have hnn : (A ++ (B ++ (C ++ (D ++ (m :: l))))).Nodup := by
    have e : A ++ (B ++ (C ++ (D ++ (m :: l)))) = (A ++ (B ++ (C ++ D))) ++ (m :: l) := by simp only [List.append_assoc]
    rw [e]
    refine List.nodup_append.mpr ⟨hn, List.nodup_cons.mpr ⟨fun q => (hN.2 m q).1 (by rw [e2]; exact mem_new), hN.1⟩, fun a ha b hb e => ?_⟩
    rcases List.mem_cons.mp hb with q | q
    · exact hq (by rw [← q, ← e]; exact hm a ha)
    · exact (hN.2 b q).1 (by rw [← e]; exact hF1.mem (hm a ha))
  have hW : Wd (adA A B C D (m :: l)) S3 := wd4_mk hA hC hD hE hnn wA' wB' wC' wD' wE (hG.fr (iA 0 (by decide)) (ne _ (iA 0 (by decide))) h1) (hG.fr (iA 0 (by decide)) (ne _ (iA 0 (by decide))) h2) (hG.fr (iC 0 (by decide)) (ne _ (iC 0 (by decide))) h3) (hG.fr (iD 0 (by decide)) (ne _ (iD 0 (by decide))) h4)
  have hB : B.length = 13 := wB.1
  have a0 : adA A B C D (m :: l) 0 = h := (ad_A hA (by decide)).trans e0
  have a4 : adA A B C D (m :: l) 4 = A.getD 4 0 := ad_A hA (by decide)
  have aC : ∀ i, i < 106 → adA A B C D (m :: l) (23 + i) = C.getD i 0 := fun i hi => ad_C hA hB hC hi
  have aE : ∀ i, adA A B C D (m :: l) (133 + i) = (m :: l).getD i 0 := fun i => ad_E hA hB hC hD
  have aM : adA A B C D (m :: l) 133 = m := aE 0
  have hh : h ∈ hL S1 := e0 ▸ iA 0 (by decide)
  have hnm : h ≠ m := ne h hh
  have ki : ∀ f, hI S3 f h = hI S1 f h := fun f => hG.fi hh (fun h9 => h9.elim (fun q => hnm q.2) (fun q => hnm q.2)) rfl
  refine ⟨adA A B C D (m :: l), a0, aM, hW, fun f f1 f2 => ?_, ?_, ?_, fun f f1 f2 => ?_, ?_, ?_, ?_, ?_, ?_, ?_, ?_, ?_, ?_, ?_⟩
  · rw [a0, ki]; exact hi f f1 f2
  · rw [a0, ki]; exact hi1
  · rw [a0, ki]; exact hi2
  · rw [aM]
    have n9 : m ∈ hL S2 := by rw [e2]; exact mem_new
    refine hF.fi n9 (fun h9 => h9.elim (fun q => f1 q.1) (fun q => f2 q.1)) ?_
    rw [e2]; exact rd_nOI'
  · rw [aM]; exact j1
  · rw [aM]; exact j2
  · rw [a4]; exact fun j => (hG.ai (iA 4 (by decide)) (fun h9 => h9) j).trans (z_sa j)
  · rw [show adA A B C D (m :: l) 29 = C.getD 6 0 from aC 6 (by decide)]; exact fun j => (hG.ai (iC 6 (by decide)) (fun h9 => h9) j).trans (z_6 j)
  · rw [show adA A B C D (m :: l) 32 = C.getD 9 0 from aC 9 (by decide)]; exact fun j => (hG.ai (iC 9 (by decide)) (fun h9 => h9) j).trans (z_9 j)
  · rw [show adA A B C D (m :: l) 37 = C.getD 14 0 from aC 14 (by decide)]; exact fun j => (hG.ai (iC 14 (by decide)) (fun h9 => h9) j).trans (z_14 j)
  · rw [show adA A B C D (m :: l) 42 = C.getD 19 0 from aC 19 (by decide)]; exact fun j => (hG.ai (iC 19 (by decide)) (fun h9 => h9) j).trans (z_19 j)
  · rw [show adA A B C D (m :: l) 153 = (m :: l).getD 20 0 from aE 20]; exact y_20
  · rw [show adA A B C D (m :: l) 143 = (m :: l).getD 10 0 from aE 10]; exact y_10
  · rw [show adA A B C D (m :: l) 148 = (m :: l).getD 15 0 from aE 15]; exact y_15

set_option maxRecDepth 100000 in
set_option maxHeartbeats 4000000 in
theorem law_start {x : JX} {b L : Nat} {xs : Nat → Int32} (C : CB x RL cL_law) (M : LM x b) (X : LX x b L xs) (hn9 : x_n x = 4) (K : ∀ (ad : Nat → Nat) (S : Hp), Wd ad S → Ini0 ad S → J x 183 1350543 S [(2, .ref (ad 133)), (1, .ref (ad 0)), (0, .ref b)] 16 []) : J x 0 0 hp0 [(0, .ref b)] 0 [] := by
  refine j_new (N := 12) C (ci := 11) rfl rfl klL_7 knX11 kiX11 (M.cells (by decide)) (M.slots (by decide)) dL_law_0 (fun q hq => ?_)
  refine j_dup C dL_law_3 rfl ?_
  refine j_callI C [] [.ref q] mlL_9 mcX11_init (c_X11_init (nO hp0 q 11) q mem_new (kd_nO' (k := 11))) (M.rm (by decide) (by decide) (Nat.le_of_ble_eq_true rfl) (Nat.le_of_ble_eq_true rfl)) rfl rfl (Nat.le_of_ble_eq_true rfl) dL_law_4 (fun r S1 hp => ?_)
  obtain ⟨rfl, hF, i1, i2, hp⟩ := hp
  have hm0 : q ∈ hL (nO hp0 q 11) := mem_new
  have hm1 : q ∈ hL S1 := hF.mem hm0
  have hk1 : Kd S1 q 11 := hF.kd hm0 (kd_nO' (k := 11))
  have i3 : ∀ f, f ≠ 1110 → f ≠ 1111 → hI S1 f q = 0 := fun f f1 f2 => hF.fi hm0 (fun h9 => h9.elim (fun q9 => f1 q9.1) (fun q9 => f2 q9.1)) (rd_nOI' (k := 11))
  have h4 := house4 hm0 hm1 hk1 hp
  refine J.eq (st' := [.ref q]) rfl rfl rfl ?_
  refine j_astore_n (lv' := [(1, .ref q), (0, .ref b)]) C dL_law_7 rfl (by rw [hn9]; decide) rfl ?_
  refine j_new (N := 80) C (ci := 12) rfl rfl klL_10 knX12 kiX12 (M.cells (by decide)) (M.slots (by decide)) dL_law_8 (fun m hm => ?_)
  refine j_dup C dL_law_11 rfl ?_
  refine j_callI C [] [.ref m] mlL_12 mcX12_init (c_X12_init (nO S1 m 12) m mem_new (kd_nO' (k := 12))) (M.rm (by decide) (by decide) (Nat.le_of_ble_eq_true rfl) (Nat.le_of_ble_eq_true rfl)) rfl rfl (Nat.le_of_ble_eq_true rfl) dL_law_12 (fun r S3 hp3 => ?_)
  obtain ⟨rfl, hF3, j1, j2, l, wE, hl, hN, y0, y1, y2⟩ := hp3
  obtain ⟨ad, a0, aM, hW, hI9⟩ := both4 rfl hm h4 i3 i1 i2 hF3 j1 j2 wE hl hN y0 y1 y2
  refine J.eq (st' := [.ref m]) rfl rfl rfl ?_
  refine j_astore_n (lv' := [(2, .ref m), (1, .ref q), (0, .ref b)]) C dL_law_15 rfl (by rw [hn9]; decide) rfl ?_
  have K9 := K ad S3 hW hI9
  rw [a0, aM] at K9
  exact J.widen (Nat.le_of_ble_eq_true rfl) (Nat.le_of_ble_eq_true rfl) K9
