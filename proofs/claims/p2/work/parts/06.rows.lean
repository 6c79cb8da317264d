section JR2
variable {x : JX} {own : String} {cc : ByteArray} {k n pc tgt : Nat} {S : Hp} {lv : List (Nat × Value)} {st : List Value}
/-- a slot of a sort that may be written (not final) -/
def slotW (ci s : Nat) : Bool := match vwCl[ci]? with | some r => !(r.2.1 s).2.2.2 | none => false
theorem slotW_ok {ci s : Nat} (h : slotW ci s = true) (r : vw_C) (hr : vwCl[ci]? = some r) : (r.2.1 s).2.2.2 = false := by
  unfold slotW at h
  rw [hr] at h
  simpa using h
def slotF (ci s : Nat) : Bool := match vwCl[ci]? with | some r => (r.2.1 s).2.2.2 | none => false
theorem slotF_ok {ci s : Nat} (h : slotF ci s = true) (r : vw_C) (hr : vwCl[ci]? = some r) : (r.2.1 s).2.2.2 = true := by
  unfold slotF at h
  rw [hr] at h
  exact h
theorem FL.bd {own : String} {idx ci s : Nat} (F : FL own idx ci s) : ci < 13 ∧ s < fn ci := by
  obtain ⟨r, hr, hs, -⟩ := F
  obtain ⟨e, h13, -⟩ := cl_all ci r hr
  exact ⟨h13, e ▸ hs⟩
theorem FLo.bd {own : String} {idx ci s : Nat} (F : FLo own idx ci s) : ci < 13 ∧ s < fn ci := by
  obtain ⟨r, hr, hs, -⟩ := F
  obtain ⟨e, h13, -⟩ := cl_all ci r hr
  exact ⟨h13, e ▸ hs⟩
theorem j_puti (C : CB x own cc) {f ci s idx a : Nat} {v : Int32} (F : FL own idx ci s) (hw : slotW ci s = true) (ht : fty ci s = .int) (hf : fc ci s = 0) (d : decode cc pc = .ok (.putfield idx, 3)) (hL' : a ∈ hL S) (hK' : hK S a = ci) (hf9 : 100 * ci + s = f) (K : J x k n (sI S f a v) lv (pc + 3) st) : J x k n S lv pc (.int v :: .ref a :: st) := by
  subst hf9
  exact j_putv (S' := sI S (100 * ci + s) a v) C F (slotW_ok hw) d hL' hK' (by rw [ht]; rfl) (by rw [ht]; rfl) rfl (fun cy b => pf_setI hK' F.bd.1 F.bd.2 (by rw [hf]; decide) (by rw [hf]; decide) v b) K
theorem j_putz (C : CB x own cc) {f ci s idx a : Nat} {v : Int32} (F : FL own idx ci s) (hw : slotW ci s = true) (ht : fty ci s = .boolean) (hf : fc ci s = 3) (hv : v = 0 ∨ v = 1) (d : decode cc pc = .ok (.putfield idx, 3)) (hL' : a ∈ hL S) (hK' : hK S a = ci) (hf9 : 100 * ci + s = f) (K : J x k n (sI S f a v) lv (pc + 3) st) : J x k n S lv pc (.int v :: .ref a :: st) := by
  subst hf9
  exact j_putv (S' := sI S (100 * ci + s) a v) C F (slotW_ok hw) d hL' hK' (by rw [ht]; rcases hv with rfl | rfl <;> rfl) (by rw [ht]; rcases hv with rfl | rfl <;> rfl) rfl (fun cy b => pf_setI hK' F.bd.1 F.bd.2 (by rw [hf]; decide) (by rw [hf]; decide) v b) K
theorem j_putl (C : CB x own cc) {f ci s idx a : Nat} {v : Int64} (F : FL own idx ci s) (hw : slotW ci s = true) (ht : fty ci s = .long) (hf : fc ci s = 1) (d : decode cc pc = .ok (.putfield idx, 3)) (hL' : a ∈ hL S) (hK' : hK S a = ci) (hf9 : 100 * ci + s = f) (K : J x k n (sJ S f a v) lv (pc + 3) st) : J x k n S lv pc (.long v :: .ref a :: st) := by
  subst hf9
  exact j_putv (S' := sJ S (100 * ci + s) a v) C F (slotW_ok hw) d hL' hK' (by rw [ht]; rfl) (by rw [ht]; rfl) rfl (fun cy b => pf_setJ hK' F.bd.1 F.bd.2 hf v b) K
def isRf : FieldType → Bool
  | .object _ => true
  | .array _ => true
  | _ => false
theorem nar_ref {t : FieldType} (h : isRf t = true) (v : Nat) : narrow t (.ref v) = .ref v ∧ fits t (.ref v) = true := by
  cases t <;> first | exact ⟨rfl, rfl⟩ | (exact absurd h (by decide))
theorem j_putr (C : CB x own cc) {f ci s idx a v : Nat} (F : FL own idx ci s) (hw : slotW ci s = true) (ht : isRf (fty ci s) = true) (hf : fc ci s = 2) (d : decode cc pc = .ok (.putfield idx, 3)) (hL' : a ∈ hL S) (hK' : hK S a = ci) (hf9 : 100 * ci + s = f) (K : J x k n (sR S f a (some v)) lv (pc + 3) st) : J x k n S lv pc (.ref v :: .ref a :: st) := by
  subst hf9
  exact j_putv (S' := sR S (100 * ci + s) a (some v)) C F (slotW_ok hw) d hL' hK' (nar_ref ht v).1 (nar_ref ht v).2 rfl (fun cy b => pf_setR hK' F.bd.1 F.bd.2 hf (some v) b) K
theorem j_putrF (C : CB x own cc) (hin2 : (x_meth x).name = "<init>") {f ci s idx a v : Nat} (F : FLo own idx ci s) (hw : slotF ci s = true) (ht : isRf (fty ci s) = true) (hf : fc ci s = 2) (d : decode cc pc = .ok (.putfield idx, 3)) (hL' : a ∈ hL S) (hK' : hK S a = ci) (hf9 : 100 * ci + s = f) (K : J x k n (sR S f a (some v)) lv (pc + 3) st) : J x k n S lv pc (.ref v :: .ref a :: st) := by
  subst hf9
  exact j_putvF (S' := sR S (100 * ci + s) a (some v)) C hin2 F (slotF_ok hw) d hL' hK' (nar_ref ht v).1 (nar_ref ht v).2 rfl (fun cy b => pf_setR hK' F.bd.1 F.bd.2 hf (some v) b) K
/-- an array's row in the pool -/
theorem ar_I {cy : Nat → ClassId} {a kd : Nat} (hL' : a ∈ hL S) (hK' : hK S a = kd) (h1 : ¬ kd < 13) (h2 : ¬ kd = 15) (h3 : kd < 18) : ∃ q : Nat, (pl cy S)[q]? = some (a, .inl (cy kd, hN S a, .inl (aI S a))) ∧ (pl cy S)[q]? = some (a, pf cy S a) := by
  obtain ⟨q, hq⟩ := pl_get (cy := cy) hL'
  exact ⟨q, by rw [hq, pf_I hK' h1 h2 h3], hq⟩
theorem ar_J {cy : Nat → ClassId} {a : Nat} (hL' : a ∈ hL S) (hK' : hK S a = 15) : ∃ q : Nat, (pl cy S)[q]? = some (a, .inl (cy 15, hN S a, .inr (.inl (aJ S a)))) ∧ (pl cy S)[q]? = some (a, pf cy S a) := by
  obtain ⟨q, hq⟩ := pl_get (cy := cy) hL'
  exact ⟨q, by rw [hq, pf_J hK'], hq⟩
theorem ar_R {cy : Nat → ClassId} {a kd : Nat} (hL' : a ∈ hL S) (hK' : hK S a = kd) (h3 : ¬ kd < 18) : ∃ q : Nat, (pl cy S)[q]? = some (a, .inl (cy kd, hN S a, .inr (.inr (.inr (.inr (aR S a)))))) ∧ (pl cy S)[q]? = some (a, pf cy S a) := by
  obtain ⟨q, hq⟩ := pl_get (cy := cy) hL'
  exact ⟨q, by rw [hq, pf_R hK' h3], hq⟩

theorem j_iald (C : CB x own cc) {a j : Nat} {i v : Int32} (d : decode cc pc = .ok (.iaload, 1)) (hL' : a ∈ hL S) (hK' : hK S a = 14) (hin : vp_in i (hN S a)) (hj : i.toNatClampNeg = j) (hv : aI S a j = v) (K : J x k n S lv (pc + 1) (.int v :: st)) : J x k n S lv pc (.int i :: .ref a :: st) := fun H locs ls hP hD hS hl => by
  subst hj
  subst hv
  obtain ⟨q, hq, -⟩ := ar_I (cy := (x_v x).2.1) hL' hK' (by decide) (by decide) (by decide)
  exact va_iald C.1 C.2.1 C.2.2.2.2.2.2.1 hP q 1 hq rfl hin d (K H locs ls hP hD hS hl)
theorem j_bald (C : CB x own cc) {a j : Nat} {i v : Int32} (d : decode cc pc = .ok (.baload, 1)) (hL' : a ∈ hL S) (hK' : hK S a = 13) (hin : vp_in i (hN S a)) (hj : i.toNatClampNeg = j) (hv : aI S a j = v) (K : J x k n S lv (pc + 1) (.int v :: st)) : J x k n S lv pc (.int i :: .ref a :: st) := fun H locs ls hP hD hS hl => by
  subst hj
  subst hv
  obtain ⟨q, hq, -⟩ := ar_I (cy := (x_v x).2.1) hL' hK' (by decide) (by decide) (by decide)
  exact va_bald C.1 C.2.1 C.2.2.2.2.2.2.1 hP q 0 hq rfl hin d (K H locs ls hP hD hS hl)
theorem j_zald (C : CB x own cc) {a j : Nat} {i v : Int32} (d : decode cc pc = .ok (.baload, 1)) (hL' : a ∈ hL S) (hK' : hK S a = 17) (hin : vp_in i (hN S a)) (hj : i.toNatClampNeg = j) (hv : aI S a j = v) (K : J x k n S lv (pc + 1) (.int v :: st)) : J x k n S lv pc (.int i :: .ref a :: st) := fun H locs ls hP hD hS hl => by
  subst hj
  subst hv
  obtain ⟨q, hq, -⟩ := ar_I (cy := (x_v x).2.1) hL' hK' (by decide) (by decide) (by decide)
  exact va_zald C.1 C.2.1 C.2.2.2.2.2.2.1 hP q 4 hq rfl hin d (K H locs ls hP hD hS hl)
theorem j_sald (C : CB x own cc) {a j : Nat} {i v : Int32} (d : decode cc pc = .ok (.saload, 1)) (hL' : a ∈ hL S) (hK' : hK S a = 16) (hin : vp_in i (hN S a)) (hj : i.toNatClampNeg = j) (hv : aI S a j = v) (K : J x k n S lv (pc + 1) (.int v :: st)) : J x k n S lv pc (.int i :: .ref a :: st) := fun H locs ls hP hD hS hl => by
  subst hj
  subst hv
  obtain ⟨q, hq, -⟩ := ar_I (cy := (x_v x).2.1) hL' hK' (by decide) (by decide) (by decide)
  exact va_sald C.1 C.2.1 C.2.2.2.2.2.2.1 hP q 3 hq rfl hin d (K H locs ls hP hD hS hl)
theorem j_lald (C : CB x own cc) {a j : Nat} {i : Int32} {v : Int64} (d : decode cc pc = .ok (.laload, 1)) (hL' : a ∈ hL S) (hK' : hK S a = 15) (hin : vp_in i (hN S a)) (hj : i.toNatClampNeg = j) (hv : aJ S a j = v) (K : J x k n S lv (pc + 1) (.long v :: st)) : J x k n S lv pc (.int i :: .ref a :: st) := fun H locs ls hP hD hS hl => by
  subst hj
  subst hv
  obtain ⟨q, hq, -⟩ := ar_J (cy := (x_v x).2.1) hL' hK'
  exact va_lald C.1 C.2.1 C.2.2.2.2.2.2.1 hP q 2 hq rfl hin d (K H locs ls hP hD hS hl)
theorem j_iast (C : CB x own cc) {a j : Nat} {i v : Int32} (d : decode cc pc = .ok (.iastore, 1)) (hL' : a ∈ hL S) (hK' : hK S a = 14) (hin : vp_in i (hN S a)) (hj : i.toNatClampNeg = j) (K : J x k n (tI S a j (v)) lv (pc + 1) st) : J x k n S lv pc (.int v :: .int i :: .ref a :: st) := fun H locs ls hP hD hS hl => by
  subst hj
  obtain ⟨q, hq, hq2⟩ := ar_I (cy := (x_v x).2.1) hL' hK' (by decide) (by decide) (by decide)
  refine va_iast C.1 C.2.1 C.2.2.2.2.2.2.1 hP hD hS q 1 hq rfl hin d (fun H1 locs1 hP1 hD1 hS1 => ?_)
  have hset := fun e' => pl_set (S' := tI S a i.toNatClampNeg (v)) (e := e') hD hL' hq2 rfl
  first
    | (rw [hset _ (pf_tI hK' (by decide) (by decide) (by decide) _ _)] at hP1 hD1; exact K H1 locs1 ls hP1 hD1 hS1 hl)
    | (simp only [vp_nar_byte, vp_nar_short] at hP1 hD1; rw [hset _ (pf_tI hK' (by decide) (by decide) (by decide) _ _)] at hP1 hD1; exact K H1 locs1 ls hP1 hD1 hS1 hl)
theorem j_bast (C : CB x own cc) {a j : Nat} {i v : Int32} (d : decode cc pc = .ok (.bastore, 1)) (hL' : a ∈ hL S) (hK' : hK S a = 13) (hin : vp_in i (hN S a)) (hj : i.toNatClampNeg = j) (K : J x k n (tI S a j (v.toInt8.toInt32)) lv (pc + 1) st) : J x k n S lv pc (.int v :: .int i :: .ref a :: st) := fun H locs ls hP hD hS hl => by
  subst hj
  obtain ⟨q, hq, hq2⟩ := ar_I (cy := (x_v x).2.1) hL' hK' (by decide) (by decide) (by decide)
  refine va_bast C.1 C.2.1 C.2.2.2.2.2.2.1 hP hD hS q 0 hq rfl hin d (fun H1 locs1 hP1 hD1 hS1 => ?_)
  have hset := fun e' => pl_set (S' := tI S a i.toNatClampNeg (v.toInt8.toInt32)) (e := e') hD hL' hq2 rfl
  first
    | (rw [hset _ (pf_tI hK' (by decide) (by decide) (by decide) _ _)] at hP1 hD1; exact K H1 locs1 ls hP1 hD1 hS1 hl)
    | (simp only [vp_nar_byte, vp_nar_short] at hP1 hD1; rw [hset _ (pf_tI hK' (by decide) (by decide) (by decide) _ _)] at hP1 hD1; exact K H1 locs1 ls hP1 hD1 hS1 hl)
theorem j_zast (C : CB x own cc) {a j : Nat} {i v : Int32} (d : decode cc pc = .ok (.bastore, 1)) (hL' : a ∈ hL S) (hK' : hK S a = 17) (hin : vp_in i (hN S a)) (hj : i.toNatClampNeg = j) (K : J x k n (tI S a j ((vp_nar .boolean v))) lv (pc + 1) st) : J x k n S lv pc (.int v :: .int i :: .ref a :: st) := fun H locs ls hP hD hS hl => by
  subst hj
  obtain ⟨q, hq, hq2⟩ := ar_I (cy := (x_v x).2.1) hL' hK' (by decide) (by decide) (by decide)
  refine va_zast C.1 C.2.1 C.2.2.2.2.2.2.1 hP hD hS q 4 hq rfl hin d (fun H1 locs1 hP1 hD1 hS1 => ?_)
  have hset := fun e' => pl_set (S' := tI S a i.toNatClampNeg ((vp_nar .boolean v))) (e := e') hD hL' hq2 rfl
  first
    | (rw [hset _ (pf_tI hK' (by decide) (by decide) (by decide) _ _)] at hP1 hD1; exact K H1 locs1 ls hP1 hD1 hS1 hl)
    | (simp only [vp_nar_byte, vp_nar_short] at hP1 hD1; rw [hset _ (pf_tI hK' (by decide) (by decide) (by decide) _ _)] at hP1 hD1; exact K H1 locs1 ls hP1 hD1 hS1 hl)
theorem j_sast (C : CB x own cc) {a j : Nat} {i v : Int32} (d : decode cc pc = .ok (.sastore, 1)) (hL' : a ∈ hL S) (hK' : hK S a = 16) (hin : vp_in i (hN S a)) (hj : i.toNatClampNeg = j) (K : J x k n (tI S a j (v.toInt16.toInt32)) lv (pc + 1) st) : J x k n S lv pc (.int v :: .int i :: .ref a :: st) := fun H locs ls hP hD hS hl => by
  subst hj
  obtain ⟨q, hq, hq2⟩ := ar_I (cy := (x_v x).2.1) hL' hK' (by decide) (by decide) (by decide)
  refine va_sast C.1 C.2.1 C.2.2.2.2.2.2.1 hP hD hS q 3 hq rfl hin d (fun H1 locs1 hP1 hD1 hS1 => ?_)
  have hset := fun e' => pl_set (S' := tI S a i.toNatClampNeg (v.toInt16.toInt32)) (e := e') hD hL' hq2 rfl
  first
    | (rw [hset _ (pf_tI hK' (by decide) (by decide) (by decide) _ _)] at hP1 hD1; exact K H1 locs1 ls hP1 hD1 hS1 hl)
    | (simp only [vp_nar_byte, vp_nar_short] at hP1 hD1; rw [hset _ (pf_tI hK' (by decide) (by decide) (by decide) _ _)] at hP1 hD1; exact K H1 locs1 ls hP1 hD1 hS1 hl)
theorem j_last (C : CB x own cc) {a j : Nat} {i : Int32} {v : Int64} (d : decode cc pc = .ok (.lastore, 1)) (hL' : a ∈ hL S) (hK' : hK S a = 15) (hin : vp_in i (hN S a)) (hj : i.toNatClampNeg = j) (K : J x k n (tJ S a j v) lv (pc + 1) st) : J x k n S lv pc (.long v :: .int i :: .ref a :: st) := fun H locs ls hP hD hS hl => by
  subst hj
  obtain ⟨q, hq, hq2⟩ := ar_J (cy := (x_v x).2.1) hL' hK'
  refine va_last C.1 C.2.1 C.2.2.2.2.2.2.1 hP hD hS q 2 hq rfl hin d (fun H1 locs1 hP1 hD1 hS1 => ?_)
  rw [pl_set (S' := tJ S a i.toNatClampNeg v) hD hL' hq2 rfl (pf_tJ hK' _ _)] at hP1 hD1
  exact K H1 locs1 ls hP1 hD1 hS1 hl
/-- the row of an array type in TY, by its kind -/
theorem ty_I {cy : Nat → ClassId} {kd : Nat} (h1 : ¬ kd < 13) (h3 : kd < 22) : ∃ t, (TY cy)[kd - 13]? = some (cy kd, t) := by
  have : kd = 13 ∨ kd = 14 ∨ kd = 15 ∨ kd = 16 ∨ kd = 17 ∨ kd = 18 ∨ kd = 19 ∨ kd = 20 ∨ kd = 21 := by omega
  rcases this with rfl | rfl | rfl | rfl | rfl | rfl | rfl | rfl | rfl <;> exact ⟨_, rfl⟩
theorem j_alen (C : CB x own cc) {a kd : Nat} {v : Int32} (d : decode cc pc = .ok (.arraylength, 1)) (hL' : a ∈ hL S) (hK' : hK S a = kd) (h1 : ¬ kd < 13) (h3 : kd < 22) (hv : Int32.ofNat (hN S a) = v) (K : J x k n S lv (pc + 1) (.int v :: st)) : J x k n S lv pc (.ref a :: st) := fun H locs ls hP hD hS hl => by
  obtain ⟨t, ht⟩ := ty_I (cy := (x_v x).2.1) h1 h3
  by_cases q15 : kd = 15
  · subst q15
    obtain ⟨q, hq, -⟩ := ar_J (cy := (x_v x).2.1) hL' hK'
    exact va_alen C.1 C.2.1 C.2.2.2.2.2.2.1 hP q _ hq ht hv d (K H locs ls hP hD hS hl)
  · by_cases q18 : kd < 18
    · obtain ⟨q, hq, -⟩ := ar_I (cy := (x_v x).2.1) hL' hK' h1 q15 q18
      exact va_alen C.1 C.2.1 C.2.2.2.2.2.2.1 hP q _ hq ht hv d (K H locs ls hP hD hS hl)
    · obtain ⟨q, hq, -⟩ := ar_R (cy := (x_v x).2.1) hL' hK' q18
      exact va_alen C.1 C.2.1 C.2.2.2.2.2.2.1 hP q _ hq ht hv d (K H locs ls hP hD hS hl)
/-- a static array's address; its places -/
theorem j_gets (C : CB x own cc) {idx : Nat} {q : String × String × List Int32} (i : Nat) (hi : stL[i]? = some q) (F : Cond.fieldLink own idx q.1 q.2.1 "[I" ∈ TBL ∨ ∃ host, Cond.fieldLinkNest own idx q.1 q.2.1 "[I" host ∈ NST) (d : decode cc pc = .ok (.getstatic idx, 3)) (K : J x k n S lv (pc + 3) (.ref ((x_v x).2.2 i) :: st)) : J x k n S lv pc st := fun H locs ls hP hD hS hl => by
  obtain ⟨h1, -⟩ := C.2.2.2.2.2.2.2.2.1 i q hi
  rcases F with F | ⟨host, F⟩
  · exact va_gets C.1 C.2.1 h1 hS C.2.2.2.1 (C.2.2.2.2.1 _ F) (fun _ h => h) d (K H locs ls hP hD hS hl)
  · exact va_getsN C.1 C.2.1 h1 hS C.2.2.2.1 (va_Nw.use rfl (C.2.2.2.2.2.2.2.1 _ F)) (fun _ h => h) d (K H locs ls hP hD hS hl)
theorem j_stld (C : CB x own cc) {q : String × String × List Int32} (i : Nat) (hi : stL[i]? = some q) {j v : Int32} (d : decode cc pc = .ok (.iaload, 1)) (hin : vp_in j q.2.2.length) (hv : q.2.2.getD j.toNatClampNeg 0 = v) (K : J x k n S lv (pc + 1) (.int v :: st)) : J x k n S lv pc (.int j :: .ref ((x_v x).2.2 i) :: st) := fun H locs ls hP hD hS hl => by
  obtain ⟨-, h2⟩ := C.2.2.2.2.2.2.2.2.1 i q hi
  exact va_ti C.1 C.2.1 h2 hS hin (by rw [hv]) d (K H locs ls hP hD hS hl)
theorem j_stlen (C : CB x own cc) {q : String × String × List Int32} (i : Nat) (hi : stL[i]? = some q) {v : Int32} (d : decode cc pc = .ok (.arraylength, 1)) (hv : Int32.ofNat q.2.2.length = v) (K : J x k n S lv (pc + 1) (.int v :: st)) : J x k n S lv pc (.ref ((x_v x).2.2 i) :: st) := fun H locs ls hP hD hS hl => by
  obtain ⟨-, h2⟩ := C.2.2.2.2.2.2.2.2.1 i q hi
  exact va_tlen C.1 C.2.1 h2 hS hv d (K H locs ls hP hD hS hl)
/-- Object's constructor -/
theorem j_objInit (C : CB x own cc) {idx a : Nat} (F : ML own idx objectInit) (hn : ∀ host, Cond.methodLinkNest own idx objectInit host ∉ NST) (hR : 1 ≤ (x_R x).frames ∧ 20 ≤ (x_R x).locals) (d : decode cc pc = .ok (.invokespecial idx, 3)) (K : J x k n S lv (pc + 3) []) : J x k n S lv pc [.ref a] := fun H locs ls hP hD hS hl => by
  rcases F with F | ⟨host, F⟩
  · refine W.objInit C.1 C.2.1 C.2.2.2.1 (C.2.2.2.2.1 _ F) (C.2.2.2.2.1 _ oi_inst) (C.2.2.2.2.1 _ oi_code) rfl (by rw [C.2.2.1]; exact hl.1) rfl d hR.1 (Nat.le_trans (Nat.le_of_ble_eq_true rfl) hR.2) ?_
    exact W.eq (g2 := F0 (x_m x) (pc + 3) ls []) rfl (K H locs ls hP hD hS hl)
  · exact absurd F (hn host)
/-- a new object -/
theorem dv_ok : ∀ ci, ci < 13 → ∀ s, s < fn ci → defaultValue (fty ci s) = vp_V (dv ci) s := by decide +kernel
theorem j_new (C : CB x own cc) {ci idx N : Nat} {r : vw_C} (hr : vwCl[ci]? = some r) (hN' : r.2.2 = N) (Fl : Cond.classLink own idx r.1 ∈ TBL) (Fn : Cond.instantiable r.1 N ∈ TBL) (Fi : Cond.initialized r.1 ∈ TBL) (hk : k + 1 ≤ (x_R x).cells) (hn : n + N ≤ (x_R x).slots) (d : decode cc pc = .ok (.new idx, 3)) (K : ∀ q : Nat, q ∉ hL S → J x (k + 1) (n + N) (nO S q ci) lv (pc + 3) (.ref q :: st)) : J x k n S lv pc st := fun H locs ls hP hD hS hl => by
  obtain ⟨C', T, N'⟩ := r
  subst hN'
  obtain ⟨e, h13, hin, hnm, hcl⟩ := cl_all ci _ hr
  refine va_new (fs := dv ci) C.1 C.2.1 C.2.2.2.2.1 hin (fty ci) (fun j hj => (hcl j hj).2) C.2.2.2.1 (C.2.2.2.2.1 _ Fl) (C.2.2.2.2.1 _ Fn) (C.2.2.2.2.1 _ Fi) C.2.2.2.2.2.2.1 hP hD hS C.2.2.2.2.2.1 hr (fun j hj => dv_ok ci h13 j (by rw [← e]; exact hj)) hk hn d (fun q H1 hP1 hD1 hS1 => ?_)
  have hq : q ∉ hL S := fun hq => by
    obtain ⟨j, hj⟩ := pl_get (cy := (x_v x).2.1) hq
    have hlt := (List.getElem?_eq_some_iff.mp hj).1
    have g1 : (pl (x_v x).2.1 S ++ [(q, (.inr (ci, dv ci) : va_E))])[j]? = some (q, pf (x_v x).2.1 S q) := by rw [List.getElem?_append_left hlt]; exact hj
    have g2 : (pl (x_v x).2.1 S ++ [(q, (.inr (ci, dv ci) : va_E))])[(pl (x_v x).2.1 S).length]? = some (q, .inr (ci, dv ci)) := by rw [List.getElem?_append_right (Nat.le_refl _)]; simp
    exact absurd (hD1.1 _ _ _ _ g1 g2 rfl) (Nat.ne_of_lt hlt)
  rw [pl_push (S' := nO S q ci) hq rfl (fun b => pf_nO h13 b)] at hP1 hD1
  exact K q hq H1 locs ls hP1 hD1 hS1 hl
end JR2

