/-- an array of rows and its rows -/
def nM (S : Hp) (q : Nat) (rs : List Nat) (N K : Nat) : Hp := (q :: (hL S ++ rs), (fun a => if a = q then 21 else if a ∈ rs then 14 else hK S a), hI S, hJ S, hR S, (fun a => if a = q then N else if a ∈ rs then K else hN S a), (fun a => if a ∈ rs then (fun _ => 0) else aI S a), aJ S, (fun a => if a = q then (fun i => rs[i]?) else aR S a))
/-- what is known of a new array of rows -/
def Rows (S S' : Hp) (q N K : Nat) : Prop := (∀ i, i < N → ∃ y, aR S' q i = some y ∧ y ∉ hL S ∧ y ∈ hL S' ∧ Kd S' y 14 ∧ Ln S' y K ∧ ∀ j, aI S' y j = 0) ∧ ∀ i j y, i < N → j < N → aR S' q i = some y → aR S' q j = some y → i = j
theorem nM_q {cy : Nat → ClassId} {S : Hp} {q : Nat} {rs : List Nat} {N K : Nat} : pf cy (nM S q rs N K) q = .inl (cy 21, N, .inr (.inr (.inr (.inr (fun i => rs[i]?))))) := by
  have h : hK (nM S q rs N K) q = 21 := if_pos rfl
  rw [pf_R h (by decide)]
  have h1 : hN (nM S q rs N K) q = N := if_pos rfl
  have h2 : aR (nM S q rs N K) q = fun i => rs[i]? := if_pos rfl
  rw [h1, h2]
theorem nM_r {cy : Nat → ClassId} {S : Hp} {q a : Nat} {rs : List Nat} {N K : Nat} (hq : a ≠ q) (ha : a ∈ rs) : pf cy (nM S q rs N K) a = .inl (cy 14, K, .inl (fun _ => 0)) := by
  have h : hK (nM S q rs N K) a = 14 := (if_neg hq).trans (if_pos ha)
  rw [pf_I h (by decide) (by decide) (by decide)]
  have h1 : hN (nM S q rs N K) a = K := (if_neg hq).trans (if_pos ha)
  have h2 : aI (nM S q rs N K) a = fun _ => 0 := if_pos ha
  rw [h1, h2]
theorem nM_o {cy : Nat → ClassId} {S : Hp} {q a : Nat} {rs : List Nat} {N K : Nat} (hq : a ≠ q) (ha : a ∉ rs) : pf cy S a = pf cy (nM S q rs N K) a :=
  pf_off ((if_neg hq).trans (if_neg ha)) ((if_neg hq).trans (if_neg ha)) (fun _ => rfl) (fun _ => rfl) (fun _ => rfl) (if_neg ha) rfl (if_neg hq)
theorem Fm_nM {WI WR : Nat → Nat → Prop} {WA : Nat → Prop} {S : Hp} {q : Nat} {rs : List Nat} {N K : Nat} (hq : q ∉ hL S) (hr : ∀ a, a ∈ rs → a ∉ hL S) : Fm WI WR WA S (nM S q rs N K) := fun a ha => by
  have e : a ≠ q := fun e => hq (e ▸ ha)
  have e2 : a ∉ rs := fun h => hr a h ha
  refine ⟨List.mem_cons_of_mem _ (List.mem_append_left _ ha), (if_neg e).trans (if_neg e2), (if_neg e).trans (if_neg e2), fun f _ => ⟨rfl, rfl⟩, fun f _ => rfl, fun _ j => ⟨?_, rfl, ?_⟩⟩
  · exact congrFun (if_neg e2 : aI (nM S q rs N K) a = aI S a) j
  · exact congrFun (if_neg e : aR (nM S q rs N K) a = aR S a) j
theorem inner_int (c : ClassId) (K : Nat) : Jvm.Free.Multi.innerC c K (defaultValue .int) = vp_cell c (K, .inl (fun _ => 0)) := by
  show ({ cls := c, slots := Array.replicate K (.int 0), vm := .none } : Cell) = _
  rw [arrV_new]
  rfl
section JRM
variable {x : JX} {own : String} {cc : ByteArray} {k n pc tgt : Nat} {S : Hp} {lv : List (Nat × Value)} {st : List Value}
theorem j_mna (C : CB x own cc) {idx N K : Nat} {u v : Int32} (hkl : Cond.classLink own idx "[[I" ∈ TBL) (hu : ¬ u < 0) (hv : ¬ v < 0) (hN' : u.toNatClampNeg = N) (hK' : v.toNatClampNeg = K) (hb1 : N * 4 ≤ 536870912) (hb2 : K * 4 ≤ 536870912) (hk : k + (1 + N) ≤ (x_R x).cells) (hn : n + (N + N * K) ≤ (x_R x).slots) (dc : decode cc pc = .ok (.multianewarray idx 2, 4)) (ha : Cond.arrayClass .int ∈ TBL)
    (KK : ∀ (q : Nat) (S' : Hp), q ∉ hL S → Fm (fun _ _ => False) (fun _ _ => False) (fun _ => False) S S' → q ∈ hL S' → Kd S' q 21 → Ln S' q N → Rows S S' q N K → J x (k + 1 + N) (n + N + N * K) S' lv (pc + 4) (.ref q :: st)) : J x k n S lv pc (.int v :: .int u :: st) := fun H locs ls hP hD hS hl => by
  have hcy : (x_s x).vm.findClass (FieldType.array .int).toString = some ((x_v x).2.1 14) := by
    have := (C.2.2.2.2.2.2.1.2 1 _ (rfl : (TY (x_v x).2.1)[1]? = some ((x_v x).2.1 14, .int))).2
    exact this
  refine va_mna (X := []) (L := hL S) (f := pf (x_v x).2.1 S) (ty := .int) (z := (K, .inl (fun _ => 0))) C.1 C.2.1 C.2.2.2.1 (C.2.2.2.2.1 _ hkl) (gx_rows C) (C.2.2.2.2.1 _ ha) hcy C.2.2.2.2.2.2.1 hP hD hS C.2.2.2.2.2.1 hu hv hN' hK' hb1 hb2 (by omega) rfl rfl hk hn (fun c => inner_int c K) dc (fun q r cA H1 hinj hfr hK1 hP1 hD1 hS1 => ?_)
  have e := cy_prim (t := 8) (kd := 21) C.2.2.2.2.2.2.1 rfl (fun _ h => by cases h) hK1
  subst e
  have hq : q ∉ hL S ++ (List.range N).map r := fun h => by
    have h2 : ∃ j, (va_pl (hL S ++ (List.range N).map r) (vr_up (pf (x_v x).2.1 S) ((List.range N).map r) (.inl ((x_v x).2.1 14, (K, .inl (fun _ => 0))))))[j]? = some (q, vr_up (pf (x_v x).2.1 S) ((List.range N).map r) (.inl ((x_v x).2.1 14, (K, .inl (fun _ => 0)))) q) := va_pl_get (X := []) h
    obtain ⟨j, hj⟩ := h2
    exact absurd (hD1.1 0 (j + 1) (q, _) (q, _) rfl hj rfl) (by omega)
  have hq1 : q ∉ hL S := fun h => hq (List.mem_append_left _ h)
  have hq2 : q ∉ (List.range N).map r := fun h => hq (List.mem_append_right _ h)
  have hrs : ∀ a, a ∈ (List.range N).map r → a ∉ hL S := fun a h => by
    obtain ⟨i, hi, rfl⟩ := List.mem_map.mp h
    exact hfr i (List.mem_range.mp hi)
  have hget : ∀ i, ((List.range N).map r)[i]? = if i < N then some (r i) else none := fun i => by
    by_cases h : i < N <;> simp [h]
  have hpl : ([] ++ [(q, (.inl ((x_v x).2.1 21, N, .inr (.inr (.inr (.inr (fun i => if i < N then some (r i) else none))))) : va_E))]) ++ va_pl (hL S ++ (List.range N).map r) (vr_up (pf (x_v x).2.1 S) ((List.range N).map r) (.inl ((x_v x).2.1 14, (K, .inl (fun _ => 0))))) = pl (x_v x).2.1 (nM S q ((List.range N).map r) N K) := by
    show (q, _) :: va_pl (hL S ++ (List.range N).map r) _ = (q, pf (x_v x).2.1 (nM S q ((List.range N).map r) N K) q) :: va_pl (hL S ++ (List.range N).map r) (pf (x_v x).2.1 (nM S q ((List.range N).map r) N K))
    rw [nM_q]
    congr 1
    · simp only [hget]
    · unfold va_pl
      refine List.map_congr_left fun a ha => ?_
      have e : a ≠ q := fun e => hq (e ▸ ha)
      by_cases h : a ∈ (List.range N).map r
      · rw [vr_up_in h, nM_r e h]
      · rw [vr_up_ne h, nM_o e h]
  rw [hpl] at hP1 hD1
  refine KK q _ hq1 (Fm_nM hq1 hrs) List.mem_cons_self (if_pos rfl) (if_pos rfl) ⟨fun i hi => ⟨r i, ?_, hfr i hi, ?_, ?_, ?_, ?_⟩, fun i j y hi hj h1 h2 => ?_⟩ H1 locs ls hP1 hD1 hS1 hl
  · show (if q = q then (fun i => ((List.range N).map r)[i]?) else aR S q) i = _
    rw [if_pos rfl]
    exact (hget i).trans (if_pos hi)
  · exact List.mem_cons_of_mem _ (List.mem_append_right _ (List.mem_map.mpr ⟨i, List.mem_range.mpr hi, rfl⟩))
  · have hm : r i ∈ (List.range N).map r := List.mem_map.mpr ⟨i, List.mem_range.mpr hi, rfl⟩
    exact (if_neg (fun e : r i = q => hq2 (e ▸ hm))).trans (if_pos hm)
  · have hm : r i ∈ (List.range N).map r := List.mem_map.mpr ⟨i, List.mem_range.mpr hi, rfl⟩
    exact (if_neg (fun e : r i = q => hq2 (e ▸ hm))).trans (if_pos hm)
  · intro j
    have hm : r i ∈ (List.range N).map r := List.mem_map.mpr ⟨i, List.mem_range.mpr hi, rfl⟩
    exact congrFun (if_pos hm : aI (nM S q ((List.range N).map r) N K) (r i) = fun _ => 0) j
  · have g1 : aR (nM S q ((List.range N).map r) N K) q i = some (r i) := by
      show (if q = q then (fun i => ((List.range N).map r)[i]?) else aR S q) i = _
      rw [if_pos rfl]
      exact (hget i).trans (if_pos hi)
    have g2 : aR (nM S q ((List.range N).map r) N K) q j = some (r j) := by
      show (if q = q then (fun i => ((List.range N).map r)[i]?) else aR S q) j = _
      rw [if_pos rfl]
      exact (hget j).trans (if_pos hj)
    exact hinj i j hi hj (Option.some.inj ((g1.symm.trans h1).trans (h2.symm.trans g2)))
end JRM
