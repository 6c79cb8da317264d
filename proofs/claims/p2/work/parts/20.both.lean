def sAK : List Nat := [11, 13, 13, 14, 14, 6, 13, 14, 14, 21]
def sAN : List (Nat × Nat) := [(1, 8000), (2, 12000), (3, 6), (4, 7), (6, 60000), (7, 12), (8, 12), (9, 13)]
def sAP : List (Nat × Nat × Nat) := [(1100, 0, 1), (1102, 0, 2), (1103, 0, 3), (1104, 0, 4), (1106, 0, 5), (600, 5, 6), (604, 5, 7), (605, 5, 8), (606, 5, 9)]
def sDK : List Nat := [3, 15, 13, 16]
def sDN : List (Nat × Nat) := [(1, 12), (2, 12000), (3, 16384)]
def sDP : List (Nat × Nat × Nat) := [(307, 0, 1), (317, 0, 2), (320, 0, 3)]
theorem nd_inj {l : List Nat} (h : l.Nodup) {a b : Nat} (ha : a < l.length) (hb : b < l.length) (e : l.getD a 0 = l.getD b 0) : a = b := by
  have e1 : l[a] = l[b] := by
    rw [List.getD_eq_getElem?_getD, List.getD_eq_getElem?_getD, List.getElem?_eq_getElem ha, List.getElem?_eq_getElem hb] at e
    exact e
  have hp := List.pairwise_iff_getElem.mp h
  rcases Nat.lt_trichotomy a b with q | q | q
  · exact absurd e1 (hp a b ha hb q)
  · exact q
  · exact absurd e1.symm (hp b a hb ha q)
theorem gd_l {a b : List Nat} {i : Nat} (h : i < a.length) : (a ++ b).getD i 0 = a.getD i 0 := by
  rw [List.getD_eq_getElem?_getD, List.getD_eq_getElem?_getD, List.getElem?_append_left h]
theorem gd_r {a b : List Nat} {n i : Nat} (h : a.length = n) : (a ++ b).getD (n + i) 0 = b.getD i 0 := by
  rw [List.getD_eq_getElem?_getD, List.getD_eq_getElem?_getD, List.getElem?_append_right (by omega), show n + i - a.length = i by omega]
/-- all addresses in the world's order -/
def adA (A B C D E : List Nat) : Nat → Nat := fun i => (A ++ (B ++ (C ++ (D ++ E)))).getD i 0
section ADA
variable {A B C D E : List Nat}
theorem ad_A (hA : A.length = 10) {i : Nat} (h : i < 10) : adA A B C D E i = A.getD i 0 := gd_l (by omega)
theorem ad_B (hA : A.length = 10) (hB : B.length = 13) {i : Nat} (h : i < 13) : adA A B C D E (10 + i) = B.getD i 0 := (gd_r hA).trans (gd_l (by omega))
theorem ad_C (hA : A.length = 10) (hB : B.length = 13) (hC : C.length = 106) {i : Nat} (h : i < 106) : adA A B C D E (23 + i) = C.getD i 0 := by
  rw [show 23 + i = 10 + (13 + i) by omega]
  exact (gd_r hA).trans ((gd_r hB).trans (gd_l (by omega)))
theorem ad_D (hA : A.length = 10) (hB : B.length = 13) (hC : C.length = 106) (hD : D.length = 4) {i : Nat} (h : i < 4) : adA A B C D E (129 + i) = D.getD i 0 := by
  rw [show 129 + i = 10 + (13 + (106 + i)) by omega]
  exact (gd_r hA).trans ((gd_r hB).trans ((gd_r hC).trans (gd_l (by omega))))
theorem ad_E (hA : A.length = 10) (hB : B.length = 13) (hC : C.length = 106) (hD : D.length = 4) {i : Nat} : adA A B C D E (133 + i) = E.getD i 0 := by
  rw [show 133 + i = 10 + (13 + (106 + (4 + i))) by omega]
  exact (gd_r hA).trans ((gd_r hB).trans ((gd_r hC).trans (gd_r hD)))
end ADA
theorem blkK : ∀ i, i < 174 → (i < 10 ∧ wkL[i]? = sAK[i]?) ∨ (10 ≤ i ∧ i < 23 ∧ wkL[i]? = some 14) ∨ (23 ≤ i ∧ i < 129 ∧ wkL[i]? = s9K[i - 23]?) ∨ (129 ≤ i ∧ i < 133 ∧ wkL[i]? = sDK[i - 129]?) ∨ (133 ≤ i ∧ wkL[i]? = sMK[i - 133]?) := by decide +kernel
theorem blkN : ∀ p ∈ wnL, (p.1 < 10 ∧ p ∈ sAN) ∨ (10 ≤ p.1 ∧ p.1 < 23 ∧ p.2 = 16000) ∨ (23 ≤ p.1 ∧ p.1 < 129 ∧ (p.1 - 23, p.2) ∈ s9N) ∨ (129 ≤ p.1 ∧ p.1 < 133 ∧ (p.1 - 129, p.2) ∈ sDN) ∨ (133 ≤ p.1 ∧ (p.1 - 133, p.2) ∈ sMN) := by decide +kernel
theorem blkP : ∀ p ∈ wpL, (p.2.1 < 10 ∧ p.2.2 < 10 ∧ p ∈ sAP) ∨ (23 ≤ p.2.1 ∧ p.2.1 < 129 ∧ 23 ≤ p.2.2 ∧ p.2.2 < 129 ∧ (p.1, p.2.1 - 23, p.2.2 - 23) ∈ s9P) ∨ (129 ≤ p.2.1 ∧ p.2.1 < 133 ∧ 129 ≤ p.2.2 ∧ p.2.2 < 133 ∧ (p.1, p.2.1 - 129, p.2.2 - 129) ∈ sDP) ∨ (133 ≤ p.2.1 ∧ 133 ≤ p.2.2 ∧ (p.1, p.2.1 - 133, p.2.2 - 133) ∈ sMP) ∨ p = (1107, 0, 23) ∨ p = (1108, 0, 129) ∨ p = (900, 23, 5) ∨ p = (300, 129, 5) := by decide +kernel
theorem blkQ : ∀ p ∈ wqL, (p.1 = 9 ∧ p.2.1 < 13 ∧ p.2.2 = 10 + p.2.1) ∨ (23 ≤ p.1 ∧ p.1 < 129 ∧ 23 ≤ p.2.2 ∧ p.2.2 < 129 ∧ (p.1 - 23, p.2.1, p.2.2 - 23) ∈ s9Q) := by decide +kernel
theorem sM_l : sMK.length = 41 := by decide +kernel
set_option maxRecDepth 100000 in
theorem wd4_mk {S : Hp} {A B C D E : List Nat} (hA : A.length = 10) (hC : C.length = 106) (hD : D.length = 4) (hE : E.length = 41) (hn : (A ++ (B ++ (C ++ (D ++ E)))).Nodup) (wA : Wt sAK sAN sAP [] (fun i => A.getD i 0) S) (wB : RWs S (A.getD 9 0) B) (wC : Wt s9K s9N s9P s9Q (fun i => C.getD i 0) S) (wD : Wt sDK sDN sDP [] (fun i => D.getD i 0) S) (wE : Wt sMK sMN sMP [] (fun i => E.getD i 0) S)
    (h1 : hR S 1107 (A.getD 0 0) = some (C.getD 0 0)) (h2 : hR S 1108 (A.getD 0 0) = some (D.getD 0 0)) (h3 : hR S 900 (C.getD 0 0) = some (A.getD 5 0)) (h4 : hR S 300 (D.getD 0 0) = some (A.getD 5 0)) : Wd (adA A B C D E) S := by
  have hB : B.length = 13 := wB.1
  refine ⟨fun i k hk => ?_, fun p hp => ?_, fun p hp => ?_, fun p hp => ?_, fun i j hi hj e => nd_inj hn (by simp [hA, hB, hC, hD, hE]; omega) (by simp [hA, hB, hC, hD, hE]; omega) e⟩
  · have hi : i < 174 := by
      have := (List.getElem?_eq_some_iff.1 hk).1
      simpa [wkL] using this
    rcases blkK i hi with ⟨q1, q2⟩ | ⟨q0, q1, q2⟩ | ⟨q0, q1, q2⟩ | ⟨q0, q1, q2⟩ | ⟨q0, q2⟩
    · rw [ad_A hA q1]; exact wA.1 i k (q2 ▸ hk)
    · rw [hk] at q2
      have e : k = 14 := Option.some.inj q2
      obtain ⟨n, rfl⟩ : ∃ n, i = 10 + n := ⟨i - 10, by omega⟩
      rw [ad_B hA hB (by omega), e]
      have hg : B[n]? = some (B.getD n 0) := by rw [List.getD_eq_getElem?_getD, List.getElem?_eq_getElem (by omega)]; rfl
      obtain ⟨r1, r2, r3, r4⟩ := wB.2 n _ hg
      exact ⟨r2, r3⟩
    · obtain ⟨n, rfl⟩ : ∃ n, i = 23 + n := ⟨i - 23, by omega⟩
      rw [ad_C hA hB hC (by omega)]
      rw [hk, Nat.add_sub_cancel_left] at q2
      exact wC.1 n k q2.symm
    · obtain ⟨n, rfl⟩ : ∃ n, i = 129 + n := ⟨i - 129, by omega⟩
      rw [ad_D hA hB hC hD (by omega)]
      rw [hk, Nat.add_sub_cancel_left] at q2
      exact wD.1 n k q2.symm
    · obtain ⟨n, rfl⟩ : ∃ n, i = 133 + n := ⟨i - 133, by omega⟩
      rw [ad_E hA hB hC hD]
      rw [hk, Nat.add_sub_cancel_left] at q2
      exact wE.1 n k q2.symm
  · obtain ⟨i, v⟩ := p
    rcases blkN _ hp with ⟨q1, q2⟩ | ⟨q0, q1, q2⟩ | ⟨q0, q1, q2⟩ | ⟨q0, q1, q2⟩ | ⟨q0, q2⟩
    · show Ln S (adA A B C D E i) v
      rw [ad_A hA q1]; exact wA.2.1 _ q2
    · show Ln S (adA A B C D E i) v
      have e : v = 16000 := q2
      obtain ⟨n, rfl⟩ : ∃ n, i = 10 + n := ⟨i - 10, by have : 10 ≤ i := q0; omega⟩
      have q1' : 10 + n < 23 := q1
      rw [ad_B hA hB (by omega), e]
      have hg : B[n]? = some (B.getD n 0) := by rw [List.getD_eq_getElem?_getD, List.getElem?_eq_getElem (by omega)]; rfl
      obtain ⟨r1, r2, r3, r4⟩ := wB.2 n _ hg
      exact r4
    · show Ln S (adA A B C D E i) v
      obtain ⟨n, rfl⟩ : ∃ n, i = 23 + n := ⟨i - 23, by have : 23 ≤ i := q0; omega⟩
      have q1' : 23 + n < 129 := q1
      have q2' : (23 + n - 23, v) ∈ s9N := q2
      rw [Nat.add_sub_cancel_left] at q2'
      rw [ad_C hA hB hC (by omega)]
      exact wC.2.1 _ q2'
    · show Ln S (adA A B C D E i) v
      obtain ⟨n, rfl⟩ : ∃ n, i = 129 + n := ⟨i - 129, by have : 129 ≤ i := q0; omega⟩
      have q1' : 129 + n < 133 := q1
      have q2' : (129 + n - 129, v) ∈ sDN := q2
      rw [Nat.add_sub_cancel_left] at q2'
      rw [ad_D hA hB hC hD (by omega)]
      exact wD.2.1 _ q2'
    · show Ln S (adA A B C D E i) v
      obtain ⟨n, rfl⟩ : ∃ n, i = 133 + n := ⟨i - 133, by have : 133 ≤ i := q0; omega⟩
      have q2' : (133 + n - 133, v) ∈ sMN := q2
      rw [Nat.add_sub_cancel_left] at q2'
      rw [ad_E hA hB hC hD]
      exact wE.2.1 _ q2'
  · obtain ⟨f, i, j⟩ := p
    show hR S f (adA A B C D E i) = some (adA A B C D E j)
    rcases blkP _ hp with ⟨q0, q1, q2⟩ | ⟨q0, q1, q2, q3, q4⟩ | ⟨q0, q1, q2, q3, q4⟩ | ⟨q0, q2, q4⟩ | q | q | q | q
    · have q0' : i < 10 := q0
      have q1' : j < 10 := q1
      rw [ad_A hA q0', ad_A hA q1']; exact wA.2.2.1 _ q2
    · obtain ⟨n, rfl⟩ : ∃ n, i = 23 + n := ⟨i - 23, by have : 23 ≤ i := q0; omega⟩
      obtain ⟨m, rfl⟩ : ∃ m, j = 23 + m := ⟨j - 23, by have : 23 ≤ j := q2; omega⟩
      have q1' : 23 + n < 129 := q1
      have q3' : 23 + m < 129 := q3
      have q4' : (f, 23 + n - 23, 23 + m - 23) ∈ s9P := q4
      rw [Nat.add_sub_cancel_left, Nat.add_sub_cancel_left] at q4'
      rw [ad_C hA hB hC (by omega), ad_C hA hB hC (by omega)]
      exact wC.2.2.1 _ q4'
    · obtain ⟨n, rfl⟩ : ∃ n, i = 129 + n := ⟨i - 129, by have : 129 ≤ i := q0; omega⟩
      obtain ⟨m, rfl⟩ : ∃ m, j = 129 + m := ⟨j - 129, by have : 129 ≤ j := q2; omega⟩
      have q1' : 129 + n < 133 := q1
      have q3' : 129 + m < 133 := q3
      have q4' : (f, 129 + n - 129, 129 + m - 129) ∈ sDP := q4
      rw [Nat.add_sub_cancel_left, Nat.add_sub_cancel_left] at q4'
      rw [ad_D hA hB hC hD (by omega), ad_D hA hB hC hD (by omega)]
      exact wD.2.2.1 _ q4'
    · obtain ⟨n, rfl⟩ : ∃ n, i = 133 + n := ⟨i - 133, by have : 133 ≤ i := q0; omega⟩
      obtain ⟨m, rfl⟩ : ∃ m, j = 133 + m := ⟨j - 133, by have : 133 ≤ j := q2; omega⟩
      have q4' : (f, 133 + n - 133, 133 + m - 133) ∈ sMP := q4
      rw [Nat.add_sub_cancel_left, Nat.add_sub_cancel_left] at q4'
      rw [ad_E hA hB hC hD, ad_E hA hB hC hD]
      exact wE.2.2.1 _ q4'
    · cases q
      rw [ad_A hA (by decide), show (23 : Nat) = 23 + 0 from rfl, ad_C hA hB hC (by decide)]; exact h1
    · cases q
      rw [ad_A hA (by decide), show (129 : Nat) = 129 + 0 from rfl, ad_D hA hB hC hD (by decide)]; exact h2
    · cases q
      rw [show (23 : Nat) = 23 + 0 from rfl, ad_C hA hB hC (by decide), ad_A hA (by decide)]; exact h3
    · cases q
      rw [show (129 : Nat) = 129 + 0 from rfl, ad_D hA hB hC hD (by decide), ad_A hA (by decide)]; exact h4
  · obtain ⟨i, n, j⟩ := p
    show aR S (adA A B C D E i) n = some (adA A B C D E j)
    rcases blkQ _ hp with ⟨q0, q1, q2⟩ | ⟨q0, q1, q2, q3, q4⟩
    · have q0' : i = 9 := q0
      have q1' : n < 13 := q1
      have q2' : j = 10 + n := q2
      rw [q0', q2', ad_A hA (by decide), ad_B hA hB q1']
      have hg : B[n]? = some (B.getD n 0) := by rw [List.getD_eq_getElem?_getD, List.getElem?_eq_getElem (by omega)]; rfl
      exact (wB.2 n _ hg).1
    · obtain ⟨a, rfl⟩ : ∃ a, i = 23 + a := ⟨i - 23, by have : 23 ≤ i := q0; omega⟩
      obtain ⟨m, rfl⟩ : ∃ m, j = 23 + m := ⟨j - 23, by have : 23 ≤ j := q2; omega⟩
      have q1' : 23 + a < 129 := q1
      have q3' : 23 + m < 129 := q3
      have q4' : (23 + a - 23, n, 23 + m - 23) ∈ s9Q := q4
      rw [Nat.add_sub_cancel_left, Nat.add_sub_cancel_left] at q4'
      rw [ad_C hA hB hC (by omega), ad_C hA hB hC (by omega)]
      exact wC.2.2.2 _ q4'
