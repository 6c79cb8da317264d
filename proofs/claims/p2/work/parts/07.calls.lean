section JR3
variable {x : JX} {own : String} {cc : ByteArray} {k n pc tgt : Nat} {S : Hp} {lv : List (Nat × Value)} {st : List Value}
/-- behind a call: what the callee's contract says -/
theorem j_ran (C : CB x own cc) {K' N' : Nat} {rest : List Value} {Q : Option Value → Hp → Prop} {a : Array Value}
    (hr : ∀ (H : Heap) (locs : List Loc) (ls : Array Slot), va_P (x_v x).1 vwCl (pl (x_v x).2.1 S) H → va_D (x_A x) (pl (x_v x).2.1 S) → va_S (x_A x) (x_s x).heap H locs → lv_has ls (x_n x) lv → va_Run (x_p x) (x_l x) (x_e x) (x_R x) (x_s x) (x_m x) (x_a x) (x_b x) (x_meth x) (x_c x) H locs k n K' N' (F0 (x_m x) pc ls st) rest (QW (x_v x) H.size S Q a) (fun q => q ∈ hL S ∨ H.size ≤ q))
    (K : ∀ (r : Option Value) (S' : Hp), Q r S' → J x (k + K') (n + N') S' lv (pc + 3) (r.toList ++ rest)) : J x k n S lv pc st := fun H locs ls hP hD hS hl => by
  intro T hT X
  obtain ⟨v, st₀, t, T', L, h0, X', hL', e1, e2, ⟨⟨r, S', hv, hq, hP1, hD1⟩, hz, hk⟩, stp⟩ := hr H locs ls hP hD hS hl T hT X
  cases hv
  rw [h0] at hz hk
  have hAA : ∀ q, (q ∈ hL S ∨ H.size ≤ q) → x_A x q := fun q hq => hq.elim (fun h => by
    obtain ⟨j, hj⟩ := pl_get (cy := (x_v x).2.1) h
    exact hD.2 j _ hj) (fun h => C.2.2.2.2.2.1 q (Nat.le_trans hS.1 h))
  have hS1 : va_S (x_A x) (x_s x).heap T'.heap (locs ++ L) := ⟨Nat.le_trans hS.1 (by rw [e1]; exact hz), fun q h1 h2 => by rw [e1, hk q (Nat.lt_of_lt_of_le h1 hS.1) (fun z => h2 (hAA q z))]; exact hS.2.1 q h1 h2, fun q hq => by
    rcases List.mem_append.mp hq with h | h
    · exact hS.2.2 q h
    · exact hAA _ (hL' q h)⟩
  obtain ⟨t2, a1, b1⟩ := K v S' hq T'.heap (locs ++ L) ls (by rw [e1]; exact hP1) (hD1.weaken (fun k q _ h => hAA q.1 h)) hS1 hl T' rfl X'
  exact ⟨t2, stp t2 a1, b1⟩
theorem pw_of (C : CB x own cc) {H : Heap} {locs : List Loc} {U : State} (hP : va_P (x_v x).1 vwCl (pl (x_v x).2.1 S) H) (hD : va_D (x_A x) (pl (x_v x).2.1 S)) (hS : va_S (x_A x) (x_s x).heap H locs) (hU : U.heap = H) (hW : (x_s x).WarmedH U.vm) : PW (x_v x) H.size S U := by
  refine ⟨by rw [hU], by rw [hU]; exact hP, hD.weaken (fun _ _ _ _ => trivial), C.2.2.2.2.2.2.call hS hU hW (fun q hq => hq.elim (fun h => ?_) (fun h => C.2.2.2.2.2.1 q (Nat.le_trans hS.1 h)))⟩
  obtain ⟨j, hj⟩ := pl_get (cy := (x_v x).2.1) h
  exact hD.2 j _ hj
theorem pw_blind {v : EV} {sz : Nat} {As : List Value} : FrameBlind (va_Pc As (PW v sz S)) := fun a U g mk h => ⟨h.1, h.2.1, h.2.2.1, h.2.2.2.1, h.2.2.2.2.blind⟩
/-- the room of a call -/
def rmOk (x : JX) (d maxL k K' n N' : Nat) : Prop := d + 1 ≤ (x_R x).frames ∧ 40 * d + maxL + 19 ≤ (x_R x).locals ∧ k + K' ≤ (x_R x).cells ∧ n + N' ≤ (x_R x).slots
theorem CM.rm {d K0 N0 : Nat} {ret : Option FieldType} {S0 : Hp} {Q : Option Value → Hp → Prop} (M : CM x d K0 N0 ret S0 Q) {d' maxL K' N' : Nat} (h1 : d' < d) (h2 : maxL ≤ 21) (h3 : k + K' ≤ K0) (h4 : n + N' ≤ N0) : rmOk x d' maxL k K' n N' := by
  have e := M.1
  unfold rmOk
  rw [e]
  refine ⟨h1, ?_, h3, h4⟩
  show 40 * d' + maxL + 19 ≤ 40 * d
  omega
theorem j_callVA (C : CB x own cc) {d idx b maxL np K' N' ci : Nat} {y : MethodName} {bytes : ByteArray} {ret : Option FieldType} (As rest : List Value) {Q : Option Value → Hp → Prop} (F : ML own idx y) (M : MCv y bytes maxL ret np) (hC : CtA (x_v x) d y bytes maxL ret K' N' (.ref b :: As) S Q) (hb : b ∈ hL S) (hkd : hK S b = ci) (hcl : (vwCl[ci]?).map (fun r => r.1) = some y.cls) (hR : rmOk x d maxL k K' n N') (hn : As.length = np) (hst : st = As.reverse ++ .ref b :: rest) (hcat : (rest.map fun v => v.category).sum ≤ 8) (dc : decode cc pc = .ok (.invokevirtual idx, 3))
    (K : ∀ (r : Option Value) (S' : Hp), Q r S' → J x (k + K') (n + N') S' lv (pc + 3) (r.toList ++ rest)) : J x k n S lv pc st := by
  obtain ⟨⟨hini, hcode, hd1, hd2⟩, hin, hsel⟩ := M
  refine j_ran C (K' := K') (N' := N') (rest := rest) (Q := Q) (a := (Value.ref b :: As).toArray) (fun H locs ls hP hD hS hl => ?_) K
  obtain ⟨r, hr, hr1⟩ : ∃ r, vwCl[ci]? = some r ∧ r.1 = y.cls := by
    cases hq : vwCl[ci]? with
    | none => rw [hq] at hcl; cases hcl
    | some r => rw [hq] at hcl; exact ⟨r, rfl, Option.some.inj hcl⟩
  obtain ⟨-, h13, -⟩ := cl_all ci r hr
  obtain ⟨q, hq⟩ := pl_get (cy := (x_v x).2.1) hb
  rw [pf_obj hkd h13] at hq
  have hrec := va_recv C.2.2.2.2.2.2.1 hP hr hq
  rw [hr1] at hrec
  have hpre : PreV (x_s x) H y.cls b (va_Pc (.ref b :: As) (PW (x_v x) H.size S)) As := ⟨pw_blind, hrec, fun U hU hW => ⟨rfl, pw_of C hP hD hS hU hW⟩⟩
  have hfix : CallFix (x_p x) (x_m x) (x_c x) cc (x_n x) (x_s x) (x_a x) TBL own := ⟨C.1, C.2.1, C.2.2.1, C.2.2.2.1, C.2.2.2.2.1⟩
  have hroom : (rmD d K' N').frames + 1 ≤ (x_R x).frames ∧ 8 + (maxL + 11) + (rmD d K' N').locals ≤ (x_R x).locals := ⟨hR.1, by have := hR.2.1; show 8 + (maxL + 11) + 40 * d ≤ _; omega⟩
  rcases F with F | ⟨host, F⟩
  · exact va_runV hfix (hC (x_l x) H.size) ⟨callB_of np C.2.2.2.2.1 (goodT hcode) rfl rfl rfl (C.2.2.2.2.1 _ hini) (C.2.2.2.2.1 _ F) ⟨hd1.1, hd1.2, hd2⟩ hroom, C.2.2.2.2.1 _ hin, C.2.2.2.2.1 _ hsel⟩ hpre rfl hn hl.1 hst (lv_room hcat) dc hR.2.2
  · exact va_runVN hfix (hC (x_l x) H.size) ⟨va_cnB np C.2.2.2.2.1 (goodT hcode) rfl rfl rfl (C.2.2.2.2.2.2.2.1 _ F) (C.2.2.2.2.1 _ hini) ⟨hd1.1, hd1.2, hd2⟩ hroom, C.2.2.2.2.1 _ hin, C.2.2.2.2.1 _ hsel⟩ hpre rfl hn hl.1 hst (lv_room hcat) dc hR.2.2
theorem j_callVX (C : CB x own cc) {d idx b maxL np K' N' : Nat} {y : MethodName} {bytes : ByteArray} {ret : Option FieldType} (As rest : List Value) {Q : Option Value → Hp → Prop} (F : ML own idx y) (M : MCv y bytes maxL ret np) (hC : CtA (x_v x) d y bytes maxL ret K' N' (.ref b :: As) S Q) (hrec9 : ∀ (H : Heap) (locs : List Loc), va_S (x_A x) (x_s x).heap H locs → ∃ cell : Cell, H[b]? = some cell ∧ cell.vm.isStatics = false ∧ (x_s x).vm.findClass y.cls = some cell.cls) (hR : rmOk x d maxL k K' n N') (hn : As.length = np) (hst : st = As.reverse ++ .ref b :: rest) (hcat : (rest.map fun v => v.category).sum ≤ 8) (dc : decode cc pc = .ok (.invokevirtual idx, 3))
    (K : ∀ (r : Option Value) (S' : Hp), Q r S' → J x (k + K') (n + N') S' lv (pc + 3) (r.toList ++ rest)) : J x k n S lv pc st := by
  obtain ⟨⟨hini, hcode, hd1, hd2⟩, hin, hsel⟩ := M
  refine j_ran C (K' := K') (N' := N') (rest := rest) (Q := Q) (a := (Value.ref b :: As).toArray) (fun H locs ls hP hD hS hl => ?_) K
  have hrec := hrec9 H locs hS
  have hpre : PreV (x_s x) H y.cls b (va_Pc (.ref b :: As) (PW (x_v x) H.size S)) As := ⟨pw_blind, hrec, fun U hU hW => ⟨rfl, pw_of C hP hD hS hU hW⟩⟩
  have hfix : CallFix (x_p x) (x_m x) (x_c x) cc (x_n x) (x_s x) (x_a x) TBL own := ⟨C.1, C.2.1, C.2.2.1, C.2.2.2.1, C.2.2.2.2.1⟩
  have hroom : (rmD d K' N').frames + 1 ≤ (x_R x).frames ∧ 8 + (maxL + 11) + (rmD d K' N').locals ≤ (x_R x).locals := ⟨hR.1, by have := hR.2.1; show 8 + (maxL + 11) + 40 * d ≤ _; omega⟩
  rcases F with F | ⟨host, F⟩
  · exact va_runV hfix (hC (x_l x) H.size) ⟨callB_of np C.2.2.2.2.1 (goodT hcode) rfl rfl rfl (C.2.2.2.2.1 _ hini) (C.2.2.2.2.1 _ F) ⟨hd1.1, hd1.2, hd2⟩ hroom, C.2.2.2.2.1 _ hin, C.2.2.2.2.1 _ hsel⟩ hpre rfl hn hl.1 hst (lv_room hcat) dc hR.2.2
  · exact va_runVN hfix (hC (x_l x) H.size) ⟨va_cnB np C.2.2.2.2.1 (goodT hcode) rfl rfl rfl (C.2.2.2.2.2.2.2.1 _ F) (C.2.2.2.2.1 _ hini) ⟨hd1.1, hd1.2, hd2⟩ hroom, C.2.2.2.2.1 _ hin, C.2.2.2.2.1 _ hsel⟩ hpre rfl hn hl.1 hst (lv_room hcat) dc hR.2.2
theorem j_callV (C : CB x own cc) {d idx b maxL np K' N' ci : Nat} {y : MethodName} {bytes : ByteArray} {ret : Option FieldType} (As rest : List Value) {Q : Option Value → Hp → Prop} (F : ML own idx y) (M : MCv y bytes maxL ret np) (hC : Ct d y bytes maxL ret K' N' (.ref b :: As) S Q) (hb : b ∈ hL S) (hkd : hK S b = ci) (hcl : (vwCl[ci]?).map (fun r => r.1) = some y.cls) (hR : rmOk x d maxL k K' n N') (hn : As.length = np) (hst : st = As.reverse ++ .ref b :: rest) (hcat : (rest.map fun v => v.category).sum ≤ 8) (dc : decode cc pc = .ok (.invokevirtual idx, 3))
    (K : ∀ (r : Option Value) (S' : Hp), Q r S' → J x (k + K') (n + N') S' lv (pc + 3) (r.toList ++ rest)) : J x k n S lv pc st := j_callVA C As rest F M (hC.at _) hb hkd hcl hR hn hst hcat dc K
theorem j_callIA (C : CB x own cc) {d idx b maxL np K' N' : Nat} {y : MethodName} {bytes : ByteArray} (As rest : List Value) {Q : Option Value → Hp → Prop} (F : ML own idx y) (M : MCi y bytes maxL np) (hC : CtA (x_v x) d y bytes maxL none K' N' (.ref b :: As) S Q) (hR : rmOk x d maxL k K' n N') (hn : As.length = np) (hst : st = As.reverse ++ .ref b :: rest) (hcat : (rest.map fun v => v.category).sum ≤ 8) (dc : decode cc pc = .ok (.invokespecial idx, 3))
    (K : ∀ (r : Option Value) (S' : Hp), Q r S' → J x (k + K') (n + N') S' lv (pc + 3) (r.toList ++ rest)) : J x k n S lv pc st := by
  obtain ⟨⟨hini, hcode, hd1, hd2⟩, hin, hy1⟩ := M
  refine j_ran C (K' := K') (N' := N') (rest := rest) (Q := Q) (a := (Value.ref b :: As).toArray) (fun H locs ls hP hD hS hl => ?_) K
  have hpre : PreS (x_s x) H (va_Pc (.ref b :: As) (PW (x_v x) H.size S)) (.ref b :: As) := ⟨pw_blind, fun U hU hW => ⟨rfl, pw_of C hP hD hS hU hW⟩⟩
  have hfix : CallFix (x_p x) (x_m x) (x_c x) cc (x_n x) (x_s x) (x_a x) TBL own := ⟨C.1, C.2.1, C.2.2.1, C.2.2.2.1, C.2.2.2.2.1⟩
  have hroom : (rmD d K' N').frames + 1 ≤ (x_R x).frames ∧ 8 + (maxL + 11) + (rmD d K' N').locals ≤ (x_R x).locals := ⟨hR.1, by have := hR.2.1; show 8 + (maxL + 11) + 40 * d ≤ _; omega⟩
  rcases F with F | ⟨host, F⟩
  · exact va_runI hfix (hC (x_l x) H.size) ⟨callB_of np C.2.2.2.2.1 (goodT hcode) rfl rfl rfl (C.2.2.2.2.1 _ hini) (C.2.2.2.2.1 _ F) ⟨hd1.1, hd1.2, hd2⟩ hroom, hy1, C.2.2.2.2.1 _ hin⟩ hpre rfl hn hl.1 hst (lv_room hcat) dc hR.2.2
  · exact va_runIN hfix (hC (x_l x) H.size) ⟨va_cnB np C.2.2.2.2.1 (goodT hcode) rfl rfl rfl (C.2.2.2.2.2.2.2.1 _ F) (C.2.2.2.2.1 _ hini) ⟨hd1.1, hd1.2, hd2⟩ hroom, hy1, C.2.2.2.2.1 _ hin⟩ hpre rfl hn hl.1 hst (lv_room hcat) dc hR.2.2
theorem j_callI (C : CB x own cc) {d idx b maxL np K' N' : Nat} {y : MethodName} {bytes : ByteArray} (As rest : List Value) {Q : Option Value → Hp → Prop} (F : ML own idx y) (M : MCi y bytes maxL np) (hC : Ct d y bytes maxL none K' N' (.ref b :: As) S Q) (hR : rmOk x d maxL k K' n N') (hn : As.length = np) (hst : st = As.reverse ++ .ref b :: rest) (hcat : (rest.map fun v => v.category).sum ≤ 8) (dc : decode cc pc = .ok (.invokespecial idx, 3))
    (K : ∀ (r : Option Value) (S' : Hp), Q r S' → J x (k + K') (n + N') S' lv (pc + 3) (r.toList ++ rest)) : J x k n S lv pc st := j_callIA C As rest F M (hC.at _) hR hn hst hcat dc K
theorem j_callSA (C : CB x own cc) {d idx maxL np K' N' : Nat} {y : MethodName} {bytes : ByteArray} {ret : Option FieldType} (As rest : List Value) {Q : Option Value → Hp → Prop} (F : ML own idx y) (M : MCs y bytes maxL ret np) (hC : CtA (x_v x) d y bytes maxL ret K' N' As S Q) (hR : rmOk x d maxL k K' n N') (hn : As.length = np) (hst : st = As.reverse ++ rest) (hcat : (rest.map fun v => v.category).sum ≤ 8) (dc : decode cc pc = .ok (.invokestatic idx, 3))
    (K : ∀ (r : Option Value) (S' : Hp), Q r S' → J x (k + K') (n + N') S' lv (pc + 3) (r.toList ++ rest)) : J x k n S lv pc st := by
  obtain ⟨⟨hini, hcode, hd1, hd2⟩, hsta⟩ := M
  refine j_ran C (K' := K') (N' := N') (rest := rest) (Q := Q) (a := As.toArray) (fun H locs ls hP hD hS hl => ?_) K
  have hpre : PreS (x_s x) H (va_Pc As (PW (x_v x) H.size S)) As := ⟨pw_blind, fun U hU hW => ⟨rfl, pw_of C hP hD hS hU hW⟩⟩
  have hfix : CallFix (x_p x) (x_m x) (x_c x) cc (x_n x) (x_s x) (x_a x) TBL own := ⟨C.1, C.2.1, C.2.2.1, C.2.2.2.1, C.2.2.2.2.1⟩
  have hroom : (rmD d K' N').frames + 1 ≤ (x_R x).frames ∧ 8 + (maxL + 11) + (rmD d K' N').locals ≤ (x_R x).locals := ⟨hR.1, by have := hR.2.1; show 8 + (maxL + 11) + 40 * d ≤ _; omega⟩
  rcases F with F | ⟨host, F⟩
  · exact va_runS hfix (hC (x_l x) H.size) ⟨callB_of np C.2.2.2.2.1 (goodT hcode) rfl rfl rfl (C.2.2.2.2.1 _ hini) (C.2.2.2.2.1 _ F) ⟨hd1.1, hd1.2, hd2⟩ hroom, C.2.2.2.2.1 _ hsta⟩ hpre rfl hn hl.1 hst (lv_room hcat) dc hR.2.2
  · exact va_runSN hfix (hC (x_l x) H.size) ⟨va_cnB np C.2.2.2.2.1 (goodT hcode) rfl rfl rfl (C.2.2.2.2.2.2.2.1 _ F) (C.2.2.2.2.1 _ hini) ⟨hd1.1, hd1.2, hd2⟩ hroom, C.2.2.2.2.1 _ hsta, trivial⟩ hpre rfl hn hl.1 hst (lv_room hcat) dc hR.2.2
theorem j_callS (C : CB x own cc) {d idx maxL np K' N' : Nat} {y : MethodName} {bytes : ByteArray} {ret : Option FieldType} (As rest : List Value) {Q : Option Value → Hp → Prop} (F : ML own idx y) (M : MCs y bytes maxL ret np) (hC : Ct d y bytes maxL ret K' N' As S Q) (hR : rmOk x d maxL k K' n N') (hn : As.length = np) (hst : st = As.reverse ++ rest) (hcat : (rest.map fun v => v.category).sum ≤ 8) (dc : decode cc pc = .ok (.invokestatic idx, 3))
    (K : ∀ (r : Option Value) (S' : Hp), Q r S' → J x (k + K') (n + N') S' lv (pc + 3) (r.toList ++ rest)) : J x k n S lv pc st := j_callSA C As rest F M (hC.at _) hR hn hst hcat dc K
/-- the ends of a method -/
theorem CM.qw {d K0 N0 : Nat} {ret : Option FieldType} {S0 : Hp} {Q : Option Value → Hp → Prop} (M : CM x d K0 N0 ret S0 Q) {H : Heap} {locs : List Loc} {r : Option Value} (hq : Q r S) (hP : va_P (x_v x).1 vwCl (pl (x_v x).2.1 S) H) (hD : va_D (x_A x) (pl (x_v x).2.1 S)) (hS : va_S (x_A x) (x_s x).heap H locs) (t : State) (ht : t.heap = H) : QW (x_v x) (x_s x).heap.size S0 Q (x_a x) (x_s x) (.returned r) t := by
  have e := M.2.1
  rw [e] at hD hS
  exact ⟨⟨r, S, rfl, hq, by rw [ht]; exact hP, hD⟩, hS.F ht⟩
theorem j_vret (C : CB x own cc) {d K0 N0 : Nat} {S0 : Hp} {Q : Option Value → Hp → Prop} (M : CM x d K0 N0 none S0 Q) (dc : decode cc pc = .ok (.return_, 1)) (hk : k ≤ K0) (hn : n ≤ N0) (hq : Q none S) : J x k n S lv pc [] := J.widen hk hn fun H locs ls hP hD hS hl => by
  show W _ _ _ _ _ _ _ _ _ _ _ _ _ _ _ _
  rw [M.2.2.1]
  exact W.vret C.1 C.2.1 M.2.2.2.1 (fun t ht hW => M.qw hq hP hD hS t ht) hS.2.2 dc (hlocks := M.2.2.2.2)
theorem j_iret (C : CB x own cc) {d K0 N0 : Nat} {S0 : Hp} {Q : Option Value → Hp → Prop} {v : Int32} (M : CM x d K0 N0 (some .int) S0 Q) (dc : decode cc pc = .ok (.ireturn, 1)) (hk : k ≤ K0) (hn : n ≤ N0) (hq : Q (some (.int v)) S) : J x k n S lv pc [.int v] := J.widen hk hn fun H locs ls hP hD hS hl => by
  show W _ _ _ _ _ _ _ _ _ _ _ _ _ _ _ _
  rw [M.2.2.1]
  exact W.iret C.1 C.2.1 M.2.2.2.1 (fun t ht hW => M.qw hq hP hD hS t ht) hS.2.2 dc (hlocks := M.2.2.2.2)
theorem j_zret (C : CB x own cc) {d K0 N0 : Nat} {S0 : Hp} {Q : Option Value → Hp → Prop} {v : Int32} {ty : FieldType} (M : CM x d K0 N0 (some ty) S0 Q) (hv : narrow ty (.int v) = .int v) (dc : decode cc pc = .ok (.ireturn, 1)) (hk : k ≤ K0) (hn : n ≤ N0) (hq : Q (some (.int v)) S) : J x k n S lv pc [.int v] := J.widen hk hn fun H locs ls hP hD hS hl => by
  show W _ _ _ _ _ _ _ _ _ _ _ _ _ _ _ _
  rw [M.2.2.1]
  exact W.zret C.1 C.2.1 M.2.2.2.1 hv (fun t ht hW => M.qw hq hP hD hS t ht) hS.2.2 dc (hlocks := M.2.2.2.2)
theorem j_lret (C : CB x own cc) {d K0 N0 : Nat} {S0 : Hp} {Q : Option Value → Hp → Prop} {v : Int64} (M : CM x d K0 N0 (some .long) S0 Q) (dc : decode cc pc = .ok (.lreturn, 1)) (hk : k ≤ K0) (hn : n ≤ N0) (hq : Q (some (.long v)) S) : J x k n S lv pc [.long v] := J.widen hk hn fun H locs ls hP hD hS hl => by
  show W _ _ _ _ _ _ _ _ _ _ _ _ _ _ _ _
  rw [M.2.2.1]
  exact W.lret C.1 C.2.1 M.2.2.2.1 (fun t ht hW => M.qw hq hP hD hS t ht) hS.2.2 dc (hlocks := M.2.2.2.2)
theorem j_aret (C : CB x own cc) {d K0 N0 : Nat} {S0 : Hp} {Q : Option Value → Hp → Prop} {v : Nat} {rt : FieldType} (M : CM x d K0 N0 (some rt) S0 Q) (hrt : (∃ n, rt = .object n) ∨ ∃ t, rt = .array t) (dc : decode cc pc = .ok (.areturn, 1)) (hk : k ≤ K0) (hn : n ≤ N0) (hq : Q (some (.ref v)) S) : J x k n S lv pc [.ref v] := J.widen hk hn fun H locs ls hP hD hS hl => by
  show W _ _ _ _ _ _ _ _ _ _ _ _ _ _ _ _
  rw [M.2.2.1]
  exact W.aret C.1 C.2.1 M.2.2.2.1 hrt (Or.inr ⟨v, rfl⟩) (fun t ht hW => M.qw hq hP hD hS t ht) hS.2.2 dc (hlocks := M.2.2.2.2)
/-- a fresh cell's address is not of the pool -/
theorem fresh_of {A : Nat → Prop} {cy : Nat → ClassId} {q : Nat} {e : va_E} (hD1 : va_D A (pl cy S ++ [(q, e)])) : q ∉ hL S := fun hq => by
  obtain ⟨j, hj⟩ := pl_get (cy := cy) hq
  have hlt := (List.getElem?_eq_some_iff.mp hj).1
  have g1 : (pl cy S ++ [(q, e)])[j]? = some (q, pf cy S q) := by rw [List.getElem?_append_left hlt]; exact hj
  have g2 : (pl cy S ++ [(q, e)])[(pl cy S).length]? = some (q, e) := by rw [List.getElem?_append_right (Nat.le_refl _)]; simp
  exact absurd (hD1.1 _ _ _ _ g1 g2 rfl) (Nat.ne_of_lt hlt)
/-- an array class is the one that the launch has -/
theorem cy_prim {s : State} {D : va_G} {cy : Nat → ClassId} {t kd : Nat} {ty : FieldType} {cA : ClassId} (h1 : va_K D vwCl (TY cy) s) (ht : (TY cy)[t]? = some (cy kd, ty)) (hno : ∀ C, ty ≠ .object C) (h2 : va_K D vwCl (TY cy ++ [(cA, ty)]) s) : cA = cy kd := by
  have a1 := (h1.2 t _ ht).2
  have a2 := (h2.2 (TY cy).length (cA, ty) (by rw [List.getElem?_append_right (Nat.le_refl _)]; simp)).2
  unfold va_RA at a1 a2
  cases ty with
  | object C => exact absurd rfl (hno C)
  | _ => exact Option.some.inj (a2.symm.trans a1)
theorem cy_obj {s : State} {D : va_G} {cy : Nat → ClassId} {t kd : Nat} {E : String} {cA : ClassId} (h1 : va_K D vwCl (TY cy) s) (ht : (TY cy)[t]? = some (cy kd, .object E)) (h2 : va_K D vwCl (TY cy ++ [(cA, .object E)]) s) : cA = cy kd := by
  obtain ⟨_, _, -, -, -, a1⟩ := (h1.2 t _ ht).2
  obtain ⟨_, _, -, -, -, a2⟩ := (h2.2 (TY cy).length (cA, .object E) (by rw [List.getElem?_append_right (Nat.le_refl _)]; simp)).2
  exact Option.some.inj (a2.symm.trans a1)

theorem j_newI (C : CB x own cc) {v : Int32} {N : Nat} (ha : Cond.arrayClass .int ∈ TBL) (hv : ¬ v < 0) (hN' : v.toNatClampNeg = N) (hb : N * componentBytes .int ≤ 536870912) (hk : k + 1 ≤ (x_R x).cells) (hn : n + N ≤ (x_R x).slots) (dc : decode cc pc = .ok (.newarray .int, 2)) (K : ∀ q : Nat, q ∉ hL S → J x (k + 1) (n + N) (nA S q 14 N) lv (pc + 2) (.ref q :: st)) : J x k n S lv pc (.int v :: st) := fun H locs ls hP hD hS hl => by
  refine va_newa (atype := .int) (ty := .int) (a0 := (N, .inl (fun _ => 0))) C.1 C.2.1 (C.2.2.2.2.1 _ ha) rfl C.2.2.2.2.2.2.1 hP hD hS C.2.2.2.2.2.1 (fun cA => by first | rfl | simp [vp_cell, defaultValue]) hv hN' hb hk hn dc (fun q cA H1 hK1 hP1 hD1 hS1 => ?_)
  have hq := fresh_of hD1
  have e := cy_prim (t := 1) (kd := 14) C.2.2.2.2.2.2.1 rfl (fun _ h => by cases h) hK1
  subst e
  rw [pl_push (S' := nA S q 14 N) hq rfl (fun b => pf_nAI (by decide) (by decide) (by decide) b)] at hP1 hD1
  exact K q hq H1 locs ls hP1 hD1 hS1 hl
theorem j_newB (C : CB x own cc) {v : Int32} {N : Nat} (ha : Cond.arrayClass .byte ∈ TBL) (hv : ¬ v < 0) (hN' : v.toNatClampNeg = N) (hb : N * componentBytes .byte ≤ 536870912) (hk : k + 1 ≤ (x_R x).cells) (hn : n + N ≤ (x_R x).slots) (dc : decode cc pc = .ok (.newarray .byte, 2)) (K : ∀ q : Nat, q ∉ hL S → J x (k + 1) (n + N) (nA S q 13 N) lv (pc + 2) (.ref q :: st)) : J x k n S lv pc (.int v :: st) := fun H locs ls hP hD hS hl => by
  refine va_newa (atype := .byte) (ty := .byte) (a0 := (N, .inl (fun _ => 0))) C.1 C.2.1 (C.2.2.2.2.1 _ ha) rfl C.2.2.2.2.2.2.1 hP hD hS C.2.2.2.2.2.1 (fun cA => by first | rfl | simp [vp_cell, defaultValue]) hv hN' hb hk hn dc (fun q cA H1 hK1 hP1 hD1 hS1 => ?_)
  have hq := fresh_of hD1
  have e := cy_prim (t := 0) (kd := 13) C.2.2.2.2.2.2.1 rfl (fun _ h => by cases h) hK1
  subst e
  rw [pl_push (S' := nA S q 13 N) hq rfl (fun b => pf_nAI (by decide) (by decide) (by decide) b)] at hP1 hD1
  exact K q hq H1 locs ls hP1 hD1 hS1 hl
theorem j_newZ (C : CB x own cc) {v : Int32} {N : Nat} (ha : Cond.arrayClass .boolean ∈ TBL) (hv : ¬ v < 0) (hN' : v.toNatClampNeg = N) (hb : N * componentBytes .boolean ≤ 536870912) (hk : k + 1 ≤ (x_R x).cells) (hn : n + N ≤ (x_R x).slots) (dc : decode cc pc = .ok (.newarray .boolean, 2)) (K : ∀ q : Nat, q ∉ hL S → J x (k + 1) (n + N) (nA S q 17 N) lv (pc + 2) (.ref q :: st)) : J x k n S lv pc (.int v :: st) := fun H locs ls hP hD hS hl => by
  refine va_newa (atype := .boolean) (ty := .boolean) (a0 := (N, .inl (fun _ => 0))) C.1 C.2.1 (C.2.2.2.2.1 _ ha) rfl C.2.2.2.2.2.2.1 hP hD hS C.2.2.2.2.2.1 (fun cA => by first | rfl | simp [vp_cell, defaultValue]) hv hN' hb hk hn dc (fun q cA H1 hK1 hP1 hD1 hS1 => ?_)
  have hq := fresh_of hD1
  have e := cy_prim (t := 4) (kd := 17) C.2.2.2.2.2.2.1 rfl (fun _ h => by cases h) hK1
  subst e
  rw [pl_push (S' := nA S q 17 N) hq rfl (fun b => pf_nAI (by decide) (by decide) (by decide) b)] at hP1 hD1
  exact K q hq H1 locs ls hP1 hD1 hS1 hl
theorem j_newS (C : CB x own cc) {v : Int32} {N : Nat} (ha : Cond.arrayClass .short ∈ TBL) (hv : ¬ v < 0) (hN' : v.toNatClampNeg = N) (hb : N * componentBytes .short ≤ 536870912) (hk : k + 1 ≤ (x_R x).cells) (hn : n + N ≤ (x_R x).slots) (dc : decode cc pc = .ok (.newarray .short, 2)) (K : ∀ q : Nat, q ∉ hL S → J x (k + 1) (n + N) (nA S q 16 N) lv (pc + 2) (.ref q :: st)) : J x k n S lv pc (.int v :: st) := fun H locs ls hP hD hS hl => by
  refine va_newa (atype := .short) (ty := .short) (a0 := (N, .inl (fun _ => 0))) C.1 C.2.1 (C.2.2.2.2.1 _ ha) rfl C.2.2.2.2.2.2.1 hP hD hS C.2.2.2.2.2.1 (fun cA => by first | rfl | simp [vp_cell, defaultValue]) hv hN' hb hk hn dc (fun q cA H1 hK1 hP1 hD1 hS1 => ?_)
  have hq := fresh_of hD1
  have e := cy_prim (t := 3) (kd := 16) C.2.2.2.2.2.2.1 rfl (fun _ h => by cases h) hK1
  subst e
  rw [pl_push (S' := nA S q 16 N) hq rfl (fun b => pf_nAI (by decide) (by decide) (by decide) b)] at hP1 hD1
  exact K q hq H1 locs ls hP1 hD1 hS1 hl
theorem j_newJ (C : CB x own cc) {v : Int32} {N : Nat} (ha : Cond.arrayClass .long ∈ TBL) (hv : ¬ v < 0) (hN' : v.toNatClampNeg = N) (hb : N * componentBytes .long ≤ 536870912) (hk : k + 1 ≤ (x_R x).cells) (hn : n + N ≤ (x_R x).slots) (dc : decode cc pc = .ok (.newarray .long, 2)) (K : ∀ q : Nat, q ∉ hL S → J x (k + 1) (n + N) (nA S q 15 N) lv (pc + 2) (.ref q :: st)) : J x k n S lv pc (.int v :: st) := fun H locs ls hP hD hS hl => by
  refine va_newa (atype := .long) (ty := .long) (a0 := (N, .inr (.inl (fun _ => 0)))) C.1 C.2.1 (C.2.2.2.2.1 _ ha) rfl C.2.2.2.2.2.2.1 hP hD hS C.2.2.2.2.2.1 (fun cA => by first | rfl | simp [vp_cell, defaultValue]) hv hN' hb hk hn dc (fun q cA H1 hK1 hP1 hD1 hS1 => ?_)
  have hq := fresh_of hD1
  have e := cy_prim (t := 2) (kd := 15) C.2.2.2.2.2.2.1 rfl (fun _ h => by cases h) hK1
  subst e
  rw [pl_push (S' := nA S q 15 N) hq rfl (fun b => pf_nAJ b)] at hP1 hD1
  exact K q hq H1 locs ls hP1 hD1 hS1 hl
theorem j_newQ (C : CB x own cc) {v : Int32} {N idx : Nat} (kd : Nat) {E : String} (hkd : kd = 18 ∨ kd = 19 ∨ kd = 20) (hE : (TY (fun i => i))[kd - 13]? = some (kd, .object E)) (hkl : Cond.classLink own idx E ∈ TBL) (hov : va_AO E (x_s x)) (hv : ¬ v < 0) (hN' : v.toNatClampNeg = N) (hb : N * 4 ≤ 536870912) (hk : k + 1 ≤ (x_R x).cells) (hn : n + N ≤ (x_R x).slots) (dc : decode cc pc = .ok (.anewarray idx, 3)) (K : ∀ q : Nat, q ∉ hL S → J x (k + 1) (n + N) (nA S q kd N) lv (pc + 3) (.ref q :: st)) : J x k n S lv pc (.int v :: st) := fun H locs ls hP hD hS hl => by
  refine va_newq C.1 C.2.1 C.2.2.2.1 (C.2.2.2.2.1 _ hkl) hov C.2.2.2.2.2.2.1 hP hD hS C.2.2.2.2.2.1 hv hN' hb hk hn dc (fun q cA H1 hK1 hP1 hD1 hS1 => ?_)
  have hq := fresh_of hD1
  have ht : (TY (x_v x).2.1)[kd - 13]? = some ((x_v x).2.1 kd, .object E) := by
    rcases hkd with rfl | rfl | rfl <;> (cases hE; rfl)
  have e := cy_obj (t := kd - 13) (kd := kd) C.2.2.2.2.2.2.1 ht hK1
  subst e
  rw [pl_push (S' := nA S q kd N) hq rfl (fun b => pf_nAR (by omega) b)] at hP1 hD1
  exact K q hq H1 locs ls hP1 hD1 hS1 hl
theorem j_aald (C : CB x own cc) {a v j : Nat} {i : Int32} (kd : Nat) {E : String} (hkd : kd = 18 ∨ kd = 19 ∨ kd = 20) (hE : (TY (fun i => i))[kd - 13]? = some (kd, .object E)) (d : decode cc pc = .ok (.aaload, 1)) (hL' : a ∈ hL S) (hK' : hK S a = kd) (hin : vp_in i (hN S a)) (hj : i.toNatClampNeg = j) (hv : aR S a j = some v) (K : J x k n S lv (pc + 1) (.ref v :: st)) : J x k n S lv pc (.int i :: .ref a :: st) := fun H locs ls hP hD hS hl => by
  subst hj
  obtain ⟨q, hq, -⟩ := ar_R (cy := (x_v x).2.1) hL' hK' (by omega)
  have ht : (TY (x_v x).2.1)[kd - 13]? = some ((x_v x).2.1 kd, .object E) := by
    rcases hkd with rfl | rfl | rfl <;> (cases hE; rfl)
  refine va_aldq C.1 C.2.1 C.2.2.2.2.2.2.1 hP q _ hq ht hin d ?_
  rw [hv]
  exact K H locs ls hP hD hS hl
theorem j_aast (C : CB x own cc) {a v ci j : Nat} {i : Int32} (kd : Nat) {r : vw_C} (hkd : kd = 18 ∨ kd = 19 ∨ kd = 20) (hE : (TY (fun i => i))[kd - 13]? = some (kd, .object r.1)) (d : decode cc pc = .ok (.aastore, 1)) (hL' : a ∈ hL S) (hK' : hK S a = kd) (hin : vp_in i (hN S a)) (hj : i.toNatClampNeg = j) (hLv : v ∈ hL S) (hKv : hK S v = ci) (hr : vwCl[ci]? = some r) (K : J x k n (tR S a j (some v)) lv (pc + 1) st) : J x k n S lv pc (.ref v :: .int i :: .ref a :: st) := fun H locs ls hP hD hS hl => by
  subst hj
  obtain ⟨-, h13, -⟩ := cl_all ci r hr
  obtain ⟨q, hq, hq2⟩ := ar_R (cy := (x_v x).2.1) hL' hK' (by omega)
  obtain ⟨qv, hqv⟩ := pl_get (cy := (x_v x).2.1) hLv
  rw [pf_obj hKv h13] at hqv
  have ht : (TY (x_v x).2.1)[kd - 13]? = some ((x_v x).2.1 kd, .object r.1) := by
    rcases hkd with rfl | rfl | rfl <;> (injection hE with hE; injection hE with _ hE; injection hE with hE; rw [← hE]; rfl)
  refine va_astq C.1 C.2.1 C.2.2.2.2.2.2.1 hP hD hS q _ qv ci hq ht hqv hr hin d (fun H1 locs1 hP1 hD1 hS1 => ?_)
  rw [pl_set (S' := tR S a i.toNatClampNeg (some v)) hD hL' hq2 rfl (pf_tR hK' (by omega) _ _)] at hP1 hD1
  exact K H1 locs1 ls hP1 hD1 hS1 hl
theorem j_copy (C : CB x own cc) {a0 a kd n0 n1 idx p0 p1 m0 : Nat} {ty : FieldType} {sp dp c : Int32} (F : Cond.methodLink own idx arraycopyName ∈ TBL) (hty : (kd = 13 ∧ ty = .byte) ∨ (kd = 14 ∧ ty = .int)) (h0 : a0 ∈ hL S) (hk0 : hK S a0 = kd) (hn0 : hN S a0 = n0) (h1 : a ∈ hL S) (hk1 : hK S a = kd) (hn1 : hN S a = n1) (hsp : ¬ sp < 0) (hdp : ¬ dp < 0) (hc : ¬ c < 0) (e0 : sp.toNatClampNeg = p0) (e1 : dp.toNatClampNeg = p1) (e2 : c.toNatClampNeg = m0) (b0 : p0 + m0 ≤ n0) (b1 : p1 + m0 ≤ n1) (hfit : ∀ i, i < m0 → fits ty (.int (aI S a0 (p0 + i))) = true) (hR : 1 ≤ (x_R x).frames ∧ 20 ≤ (x_R x).locals) (dc : decode cc pc = .ok (.invokestatic idx, 3)) (K : J x k n (rI S a (va_cpy (aI S a0) (aI S a) p0 p1 m0)) lv (pc + 3) []) : J x k n S lv pc [.int c, .int dp, .ref a, .int sp, .ref a0] := fun H locs ls hP hD hS hl => by
  subst e0; subst e1; subst e2; subst hn0; subst hn1
  have hkd : ¬ kd < 13 ∧ ¬ kd = 15 ∧ kd < 18 := by omega
  have ht : (TY (x_v x).2.1)[kd - 13]? = some ((x_v x).2.1 kd, ty) := by rcases hty with ⟨rfl, rfl⟩ | ⟨rfl, rfl⟩ <;> rfl
  obtain ⟨q0, hq0, -⟩ := ar_I (cy := (x_v x).2.1) h0 hk0 hkd.1 hkd.2.1 hkd.2.2
  obtain ⟨q1, hq1, hq2⟩ := ar_I (cy := (x_v x).2.1) h1 hk1 hkd.1 hkd.2.1 hkd.2.2
  refine va_copyi C.1 C.2.1 (by rw [C.2.2.1]; exact hl.1.symm) C.2.2.2.1 (C.2.2.2.2.1 _ F) (C.2.2.2.2.1 _ ac_nat) (C.2.2.2.2.1 _ ac_sta) (C.2.2.2.2.1 _ ac_ini) C.2.2.2.2.2.2.1 hP hD hS q0 q1 (kd - 13) (kd - 13) hq0 hq1 ht ht (by rcases hty with ⟨rfl, rfl⟩ | ⟨rfl, rfl⟩ <;> rfl) hsp hdp hc b0 b1 hfit hR.1 (Nat.le_trans (Nat.le_of_ble_eq_true rfl) hR.2) dc (fun H1 locs1 hP1 hD1 hS1 => ?_)
  rw [pl_set (S' := rI S a (va_cpy (aI S a0) (aI S a) sp.toNatClampNeg dp.toNatClampNeg c.toNatClampNeg)) hD h1 hq2 rfl (pf_rI hk1 hkd.1 hkd.2.1 hkd.2.2 _)] at hP1 hD1
  exact K H1 locs1 ls hP1 hD1 hS1 hl
end JR3

