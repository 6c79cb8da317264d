/-! THE CLAIM OUT OF ONE WALK OF THE LAW'S BODY. Your part is whole_start (and what it stands on); all else here is the same for every law, but numbers. -/
def R_law : String := "PrinterHouseLaw"
def lw_P (b : Addr) (xs : List Int32) (args : Array Value) (s : State) : Prop := args = #[.ref b] ∧ s.IntsAt b xs ∧ xs.length ≤ 260 ∧ (Jvm.Cond.and given_1 narrow_1).before args s = true
def lw_Q (_ : Array Value) (s : State) (o : Outcome) (t : State) : Prop := o = .returned (some (.int 1)) ∧ Framed s o t [] 600000 7302250
def lw_Z (below : List Frame) (a : Array Value) (s : State) : State → Prop := fun t => ∃ o, t.status = .running ∧ Ended t below o ∧ lw_Q a s o t
/-- the law's own end, with 1 on the stack, nothing written that was there before, its room as the claim has it -/
theorem lw_ret {p : Program} {l : Launch} {e : Env} {s : State} {m : MethodId} {below : List Frame} {meth : Method} {c : Code} {b : Nat} (hx : p.tables.exec = Jvm.exec) (hb : c.code = code) (hr : meth.sig.returnType = ret) (hlocks : meth.locks = false) {pc : Nat} {H : Heap} {ls : Array Slot} (hdg : decode code pc = .ok (.ireturn, 1)) : W p l e room_1 s m #[Value.ref b] below meth c H [] 600000 7302250 (lw_Z below #[Value.ref b] s) (F0 m pc ls [.int 1]) := by
  intro T hT X
  obtain ⟨fs, hret, hrun, hended, hW, hframe⟩ := X.leave (v := some (.int 1)) (hlocks := hlocks) (fun h => by rw [hr] at h; cases h)
  have hmeth' : T.vm.method? m = some meth := X.method'
  refine ⟨T.setFrames fs, ?_, .returned (some (.int 1)), hrun, hended, rfl, ⟨_, rfl⟩, hW, hframe⟩
  jvm_step X.here [X.here.top, hx, hb, hdg, hmeth', hr, ret, narrow_b1]
  (try refine ⟨rfl, ?_⟩); (try refine ⟨rfl, ?_⟩)
  first | (intro acts; rw [hret _ acts rfl rfl rfl]) | rw [hret _ _ rfl rfl rfl]
  exact Steps.refl _
/-- what holds at the law's entry: the machine, the code, the tables' words (any of lw_tbl by 'hts w (by decide +kernel)'), the script of L ints xs at the cell b, what the Statement gives of the start (any of its parts by flat_of_before) -/
def lw_At (p : Program) (s : State) (m : MethodId) (meth : Method) (c : Code) (b L : Nat) (xs : Nat → Int32) : Prop :=
  p.tables.exec = Jvm.exec ∧ c.code = code ∧ meth.sig.returnType = ret ∧ c.maxLocals = 21 ∧ s.vm.findClass R_law = some m.cls ∧ (∀ w ∈ lw_tbl, w.before #[Value.ref b] s = true) ∧ va_X b L xs s s.heap ∧ b < s.heap.size ∧ meth.locks = false ∧ (Jvm.Cond.and given_1 narrow_1).before #[Value.ref b] s = true

/-- the law's own room and end -/
def LM (x : JX) (b : Nat) : Prop := x_R x = room_1 ∧ x_A x = (fun q => (x_s x).heap.size ≤ q) ∧ x_a x = #[Value.ref b] ∧ x_Q x = lw_Z (x_b x) #[Value.ref b] (x_s x) ∧ (x_meth x).sig.returnType = ret ∧ (x_meth x).locks = false
/-- the script -/
def LX (x : JX) (b L : Nat) (xs : Nat → Int32) : Prop := va_X b L xs (x_s x) (x_s x).heap ∧ b < (x_s x).heap.size ∧ ¬ x_A x b
theorem LM.rm {x : JX} {b : Nat} (M : LM x b) {d' maxL k K' n N' : Nat} (h1 : d' < 2000) (h2 : maxL ≤ 21) (h3 : k + K' ≤ 600000) (h4 : n + N' ≤ 7302250) : rmOk x d' maxL k K' n N' := by
  have e := M.1
  unfold rmOk
  rw [e]
  refine ⟨?_, ?_, h3, h4⟩
  · show d' + 1 ≤ 2048
    omega
  · show 40 * d' + maxL + 19 ≤ 84000
    omega
theorem LM.cells {x : JX} {b k : Nat} (M : LM x b) (h : k ≤ 600000) : k ≤ (x_R x).cells := by rw [M.1]; exact h
theorem LM.slots {x : JX} {b k : Nat} (M : LM x b) (h : k ≤ 7302250) : k ≤ (x_R x).slots := by rw [M.1]; exact h
section JLAW
variable {x : JX} {b L k n pc : Nat} {S : Hp} {lv : List (Nat × Value)} {st : List Value} {xs : Nat → Int32} {own : String} {cc : ByteArray}
theorem j_sld (C : CB x own cc) (X : LX x b L xs) {i : Int32} {j : Nat} (d : decode cc pc = .ok (.iaload, 1)) (hin : vp_in i L) (hj : i.toNatClampNeg = j) (K : J x k n S lv (pc + 1) (.int (xs j) :: st)) : J x k n S lv pc (.int i :: .ref b :: st) := fun H locs ls hP hD hS hl => by
  subst hj
  exact va_sld C.1 C.2.1 X.1 X.2.1 X.2.2 hS hin d (K H locs ls hP hD hS hl)
theorem j_slen (C : CB x own cc) (X : LX x b L xs) {v : Int32} (d : decode cc pc = .ok (.arraylength, 1)) (hv : nI L = v) (K : J x k n S lv (pc + 1) (.int v :: st)) : J x k n S lv pc (.ref b :: st) := fun H locs ls hP hD hS hl => by
  subst hv
  exact va_slen C.1 C.2.1 X.1 X.2.1 X.2.2 hS d (K H locs ls hP hD hS hl)
theorem j_lawret (C : CB x RL cL_law) (M : LM x b) (hk : k ≤ 600000) (hn : n ≤ 7302250) (d : decode cL_law pc = .ok (.ireturn, 1)) : J x k n S lv pc [.int 1] := J.widen hk hn fun H locs ls hP hD hS hl => by
  have e2 : ∀ q ∈ locs, (x_s x).heap.size ≤ q.base := fun q hq => by
    have h9 := hS.2.2 q hq
    rw [M.2.1] at h9
    exact h9
  refine va_forget e2 ?_
  show W (x_p x) (x_l x) (x_e x) (x_R x) (x_s x) (x_m x) (x_a x) (x_b x) (x_meth x) (x_c x) H [] 600000 7302250 (x_Q x) _
  rw [M.1, M.2.2.1, M.2.2.2.1]
  exact lw_ret C.1 C.2.1 M.2.2.2.2.1 M.2.2.2.2.2 d
/-- a contract of a method that is given the script -/
def CtL (b L : Nat) (xs : Nat → Int32) (d : Nat) (y : MethodName) (cc : ByteArray) (maxL : Nat) (ret : Option FieldType) (k n : Nat) (As : List Value) (S : Hp) (Q : Option Value → Hp → Prop) : Prop :=
  ∀ (l : Launch) (v : EV) (sz : Nat), Met l y (Cond.code y cc maxL ret :: TBL) (rmD d k n) (va_Pc As (fun U => PW v sz S U ∧ va_X b L xs U U.heap ∧ b < sz ∧ b ∉ hL S)) (QW v sz S Q) k n (fun q => q ∈ hL S ∨ sz ≤ q)
theorem ct_ofL {d : Nat} {y : MethodName} {maxL : Nat} {ret : Option FieldType} {As : List Value} {Q : Option Value → Hp → Prop} (hy : plainName y.cls = true) (hlen : (lg_sl As).length ≤ maxL)
    (body : ∀ x : JX, x_n x = maxL → CB x y.cls cc → CM x d k n ret S Q → LX x b L xs → J x 0 0 S (lv_args 0 As) 0 []) : CtL b L xs d y cc maxL ret k n As S Q := by
  intro l v sz
  refine Met.ofW (cc := cc) (maxL := maxL) (ret := ret) hy rfl ?_
  intro p e s m args below meth c s₁ B hml hv
  obtain ⟨rfl, ⟨rfl, hP, hD0, hG⟩, hX1, hX2, hX3⟩ := hv
  have hts := atoms_spec (ws := Cond.code y cc maxL ret :: TBL) B.pre
  have K := body (p, l, e, rmD d k n, s, m, As.toArray, below, meth, c, v, (fun q => q ∈ hL S ∨ s.heap.size ≤ q), maxL, MQ below (QW v s.heap.size S Q) As.toArray s k n (fun q => q ∈ hL S ∨ s.heap.size ≤ q)) rfl ⟨B.exec, B.bytes, hml, findClass_of_methodNamed B.named, fun w h => hts w (List.mem_cons_of_mem _ h), fun q h => Or.inr h, hG⟩ ⟨rfl, rfl, rfl, B.returns, B.notSynchronized⟩ ⟨hX1, hX2, fun h => h.elim hX3 (fun h => absurd hX2 (Nat.not_lt.mpr h))⟩
  have hl := lv_entry As (n := maxL) hlen
  rw [lg_entry_eq]
  refine K s.heap [] _ hP ⟨hD0.1, fun k q hk => ?_⟩ va_S.rf hl
  have := List.mem_of_getElem? hk
  unfold pl va_pl at this
  obtain ⟨a, ha, rfl⟩ := List.mem_map.mp this
  exact Or.inl ha
theorem j_callSL (C : CB x own cc) (X : LX x b L xs) {d idx maxL np K' N' : Nat} {y : MethodName} {bytes : ByteArray} {ret : Option FieldType} (As rest : List Value) {Q : Option Value → Hp → Prop} (F : ML own idx y) (M : MCs y bytes maxL ret np) (hC : CtL b L xs d y bytes maxL ret K' N' As S Q) (hR : rmOk x d maxL k K' n N') (hn : As.length = np) (hst : st = As.reverse ++ rest) (hcat : (rest.map fun v => v.category).sum ≤ 8) (dc : decode cc pc = .ok (.invokestatic idx, 3))
    (K : ∀ (r : Option Value) (S' : Hp), Q r S' → J x (k + K') (n + N') S' lv (pc + 3) (r.toList ++ rest)) : J x k n S lv pc st := by
  obtain ⟨⟨hini, hcode, hd1, hd2⟩, hsta⟩ := M
  refine j_ran C (K' := K') (N' := N') (rest := rest) (Q := Q) (a := As.toArray) (fun H locs ls hP hD hS hl => ?_) K
  have hbS : b ∉ hL S := fun h => by
    obtain ⟨j, hj⟩ := pl_get (cy := (x_v x).2.1) h
    exact X.2.2 (hD.2 j _ hj)
  have hpre : PreS (x_s x) H (va_Pc As (fun U => PW (x_v x) H.size S U ∧ va_X b L xs U U.heap ∧ b < H.size ∧ b ∉ hL S)) As := by
    refine ⟨fun a U g mk h => ⟨h.1, ⟨h.2.1.1, h.2.1.2.1, h.2.1.2.2.1, h.2.1.2.2.2.blind⟩, va_X.moved (Vm.Alike.refl U.vm) h.2.2.1, h.2.2.2⟩, fun U hU hW => ⟨rfl, pw_of C hP hD hS hU hW, ?_, Nat.lt_of_lt_of_le X.2.1 hS.1, hbS⟩⟩
    rw [hU]
    exact (X.1.kept (hS.2.1 b X.2.1 X.2.2)).moved hW.alike
  have hfix : CallFix (x_p x) (x_m x) (x_c x) cc (x_n x) (x_s x) (x_a x) TBL own := ⟨C.1, C.2.1, C.2.2.1, C.2.2.2.1, C.2.2.2.2.1⟩
  have hroom : (rmD d K' N').frames + 1 ≤ (x_R x).frames ∧ 8 + (maxL + 11) + (rmD d K' N').locals ≤ (x_R x).locals := ⟨hR.1, by have := hR.2.1; show 8 + (maxL + 11) + 40 * d ≤ _; omega⟩
  rcases F with F | ⟨host, F⟩
  · exact va_runS hfix (hC (x_l x) (x_v x) H.size) ⟨callB_of np C.2.2.2.2.1 (goodT hcode) rfl rfl rfl (C.2.2.2.2.1 _ hini) (C.2.2.2.2.1 _ F) ⟨hd1.1, hd1.2, hd2⟩ hroom, C.2.2.2.2.1 _ hsta⟩ hpre rfl hn hl.1 hst (lv_room hcat) dc hR.2.2
  · exact va_runSN hfix (hC (x_l x) (x_v x) H.size) ⟨va_cnB np C.2.2.2.2.1 (goodT hcode) rfl rfl rfl (C.2.2.2.2.2.2.2.1 _ F) (C.2.2.2.2.1 _ hini) ⟨hd1.1, hd1.2, hd2⟩ hroom, C.2.2.2.2.1 _ hsta, trivial⟩ hpre rfl hn hl.1 hst (lv_room hcat) dc hR.2.2
end JLAW
def hp0 : Hp := ([], fun _ => 0, fun _ _ => 0, fun _ _ => 0, fun _ _ => none, fun _ => 0, fun _ _ => 0, fun _ _ => 0, fun _ _ => none)
/-- the script's int at a place, 0 behind its end -/
def cellN (xs : Nat → Int32) (L k : Nat) : Int32 := if k < L then xs k else 0

theorem dL_cell_0 : decode cL_cell 0 = .ok (.iload_n 1, 1) := by decide +kernel
theorem dL_cell_1 : decode cL_cell 1 = .ok (.aload_n 0, 1) := by decide +kernel
theorem dL_cell_2 : decode cL_cell 2 = .ok (.arraylength, 1) := by decide +kernel
theorem dL_cell_3 : decode cL_cell 3 = .ok (.if_icmp .ge 9, 3) := by decide +kernel
theorem dL_cell_6 : decode cL_cell 6 = .ok (.aload_n 0, 1) := by decide +kernel
theorem dL_cell_7 : decode cL_cell 7 = .ok (.iload_n 1, 1) := by decide +kernel
theorem dL_cell_8 : decode cL_cell 8 = .ok (.iaload, 1) := by decide +kernel
theorem dL_cell_9 : decode cL_cell 9 = .ok (.goto 4, 3) := by decide +kernel
theorem dL_cell_12 : decode cL_cell 12 = .ok (.iconst 0, 1) := by decide +kernel
theorem dL_cell_13 : decode cL_cell 13 = .ok (.ireturn, 1) := by decide +kernel

theorem c_cell (S : Hp) (b L : Nat) (xs : Nat → Int32) (kk : Nat) (hL : L ≤ 260) (hk : kk ≤ 300) : CtL b L xs 1 yL_cell cL_cell 2 (some .int) 0 0 [.ref b, .int (nI kk)] S (fun r S' => r = some (.int (cellN xs L kk)) ∧ S' = S) := by
  refine ct_ofL (by decide) (Nat.le_of_ble_eq_true rfl) fun x hn9 C M X => ?_
  have C : CB x RL cL_cell := C
  refine J.eq (lv' := [(0, .ref b), (1, .int (nI kk))]) rfl rfl rfl ?_
  refine j_iload_n C dL_cell_0 rfl 1 rfl ?_
  refine j_aload_n C dL_cell_1 rfl 0 rfl ?_
  refine j_slen (v := nI L) C X dL_cell_2 rfl ?_
  refine j_ic_ge (tgt := 12) C dL_cell_3 (by decide) (fun c => ?_) (fun c => ?_)
  · refine j_iconst (v := 0) C dL_cell_12 (by decide) ?_
    have h : ¬ kk < L := fun h => absurd c (nI_ge h (by omega))
    exact j_iret C M dL_cell_13 (by decide) (by decide) ⟨congrArg (fun z9 => some (Value.int z9)) (if_neg h).symm, rfl⟩
  · have h : kk < L := Nat.not_le.mp fun h => c (nI_le h (by omega))
    refine j_aload_n C dL_cell_6 rfl 0 rfl ?_
    refine j_iload_n C dL_cell_7 rfl 1 rfl ?_
    refine j_sld (j := kk) C X dL_cell_8 (vp_in_nI h (by omega)) (nI_clamp (by omega)) ?_
    refine j_goto (tgt := 13) C dL_cell_9 (by decide) ?_
    exact j_iret C M dL_cell_13 (by decide) (by decide) ⟨congrArg (fun z9 => some (Value.int z9)) (if_pos h).symm, rfl⟩

def kN (v : Int32) : Nat := if wN (v >>> ((22 : Int32) &&& 31)) % 4 = 0 then 1 else if wN (v >>> ((22 : Int32) &&& 31)) % 4 = 1 then 0 else 2
def boxAt (xs : Nat → Int32) (L k : Nat) : Bx := (wN (xs k) % 64, wN (xs k >>> ((6 : Int32) &&& 31)) % 64, decide (wN (cellN xs L (k + 1) >>> ((6 : Int32) &&& 31)) % 2 = 1), 1 + wN (xs k >>> ((12 : Int32) &&& 31)) % 32, 1 + wN (xs k >>> ((17 : Int32) &&& 31)) % 32, 1 + wN (cellN xs L (k + 1)) % 64, kN (xs k))
theorem kN_lt (v : Int32) : kN v < 3 := by unfold kN; split <;> (try split) <;> omega
theorem boxAt_ok (xs : Nat → Int32) (L k : Nat) : okB (boxAt xs L k) := by
  refine ⟨Nat.mod_lt _ (by decide), Nat.mod_lt _ (by decide), ⟨?_, ?_⟩, ⟨?_, ?_⟩, ⟨?_, ?_⟩, kN_lt _⟩
  · show 1 ≤ 1 + _ % 32; omega
  · show 1 + _ % 32 ≤ 32; omega
  · show 1 ≤ 1 + _ % 32; omega
  · show 1 + _ % 32 ≤ 32; omega
  · show 1 ≤ 1 + _ % 64; omega
  · show 1 + _ % 64 ≤ 64; omega
def NB (L : Nat) : Nat := if 240 ≤ L then 120 else (L + 1) / 2
def boxes (xs : Nat → Int32) (L : Nat) : List Bx := (List.range (NB L)).map (fun i => boxAt xs L (2 * i))
def jobB (bs : List Bx) (j : Nat) : Nat := (jobL bs).getD j 0
/-- how many bytes the first i boxes are, the page's format ahead -/
def TB (bs : List Bx) (i : Nat) : Nat := 5 + (boxsL (bs.take i)).length

theorem boxes_len (xs : Nat → Int32) (L : Nat) : (boxes xs L).length = NB L := by simp [boxes]
theorem boxes_get (xs : Nat → Int32) (L : Nat) {i : Nat} (h : i < NB L) : (boxes xs L)[i]? = some (boxAt xs L (2 * i)) := by simp [boxes, h]
theorem boxes_ok (xs : Nat → Int32) (L : Nat) : ∀ b ∈ boxes xs L, okB b := fun b hb => by
  obtain ⟨i, -, rfl⟩ := List.mem_map.mp hb
  exact boxAt_ok xs L _
theorem NB_le (L : Nat) : NB L ≤ 120 ∨ 240 < L := by unfold NB; split <;> omega
theorem num_small {v : Nat} (h : v < 100) : ∀ z ∈ num v, z < 128 := fun z hz => by
  by_cases h1 : v < 10
  · rw [num1 h1] at hz; simp at hz; omega
  · rw [num2 h1] at hz; simp at hz; omega
theorem boxL_small {b : Bx} (h : okB b) : ∀ z ∈ boxL b, z < 128 := fun z hz => by
  obtain ⟨h1, h2, h3, h4, h5, h6⟩ := h
  unfold boxL at hz
  simp only [List.mem_append] at hz
  rcases hz with hz | (hz | hz) | (hz | hz) | hz | hz | hz | (hz | hz) | (hz | hz) | (hz | hz) | hz
  · simp at hz; omega
  · exact num_small (by omega) z hz
  · simp at hz; omega
  · exact num_small (by omega) z hz
  · simp at hz; omega
  · simp at hz; omega
  · have : bN b.2.2.1 ≤ 1 := by unfold bN; split <;> omega
    simp at hz; omega
  · simp at hz; omega
  · exact num_small (by omega) z hz
  · simp at hz; omega
  · exact num_small (by omega) z hz
  · simp at hz; omega
  · exact num_small (by omega) z hz
  · simp at hz; omega
  · simp at hz; omega
theorem jobB_small {bs : List Bx} (h : ∀ b ∈ bs, okB b) (j : Nat) : jobB bs j < 128 := by
  unfold jobB
  have key : ∀ z ∈ jobL bs, z < 128 := fun z hz => by
    unfold jobL at hz
    rcases List.mem_append.mp hz with hz | hz
    · simp at hz; omega
    · obtain ⟨b, hb, hz⟩ := List.mem_flatMap.mp hz
      exact boxL_small (h b hb) z hz
  by_cases hj : j < (jobL bs).length
  · rw [List.getD_eq_getElem?_getD, List.getElem?_eq_getElem hj]
    exact key _ (List.getElem_mem hj)
  · rw [List.getD_eq_getElem?_getD, List.getElem?_eq_none (by omega)]
    decide
theorem jobB_has (bs : List Bx) : Has (jobB bs) 0 (jobL bs) := fun i v e => by
  unfold jobB
  rw [Nat.zero_add, List.getD_eq_getElem?_getD, e]; rfl
theorem jobB_end (bs : List Bx) {j : Nat} (h : 5 + (boxsL bs).length ≤ j) : jobB bs j = 0 := by
  unfold jobB
  have e : (jobL bs).length = 5 + (boxsL bs).length := by simp [jobL]; omega
  rw [List.getD_eq_getElem?_getD, List.getElem?_eq_none (by omega)]; rfl
theorem take_succ_get {bs : List Bx} {i : Nat} {b : Bx} (h : bs[i]? = some b) : bs.take (i + 1) = bs.take i ++ [b] := by
  rw [List.take_add_one, h]; rfl
theorem TB_s {bs : List Bx} {i : Nat} {b : Bx} (h : bs[i]? = some b) : TB bs (i + 1) = TB bs i + (boxL b).length := by
  unfold TB
  rw [take_succ_get h]
  simp [boxsL]; omega
theorem TB_all (bs : List Bx) : TB bs bs.length = 5 + (boxsL bs).length := by unfold TB; rw [List.take_length]
theorem has_box {bs : List Bx} {i : Nat} {b : Bx} (h : bs[i]? = some b) : Has (jobB bs) (TB bs i) (boxL b) := by
  have h1 := has_r (show Has (jobB bs) 0 ([27, 38, 108, 48, 65] ++ boxsL bs) from jobB_has bs)
  have hd : bs = bs.take i ++ (b :: bs.drop (i + 1)) := by
    have hi : i < bs.length := (List.getElem?_eq_some_iff.1 h).1
    have e : bs[i] = b := (List.getElem?_eq_some_iff.1 h).2
    rw [← e, List.getElem_cons_drop, List.take_append_drop]
  have h2 : Has (jobB bs) (0 + 5) (boxsL (bs.take i) ++ (boxL b ++ boxsL (bs.drop (i + 1)))) := by
    have e2 : boxsL bs = boxsL (bs.take i) ++ (boxL b ++ boxsL (bs.drop (i + 1))) := by
      conv => lhs; rw [hd]
      simp [boxsL]
    rw [e2] at h1
    exact h1
  have h3 := has_l (has_r h2)
  rw [show 0 + 5 + (boxsL (bs.take i)).length = TB bs i by unfold TB; omega] at h3
  exact h3
theorem boxsO_s {bs : List Bx} {i : Nat} {b : Bx} {P : Nat → Nat → Bool} (h : bs[i]? = some b) : boxsO P (bs.take (i + 1)) = boxO (boxsO P (bs.take i)) b := by
  unfold boxsO
  rw [take_succ_get h, List.foldl_append]; rfl
theorem boxsL_len : ∀ bs : List Bx, (boxsL bs).length ≤ 29 * bs.length
  | [] => Nat.le_refl _
  | b :: bs => by
    have h := boxL_len b
    have h1 := num_len b.1; have h2 := num_len b.2.1; have h3 := num_len b.2.2.2.1; have h4 := num_len b.2.2.2.2.1; have h5 := num_len b.2.2.2.2.2.1
    have h6 := boxsL_len bs
    have e : (boxsL (b :: bs)).length = (boxL b).length + (boxsL bs).length := by simp [boxsL]
    rw [e, List.length_cons]
    omega
theorem TB_le {bs : List Bx} (h : bs.length ≤ 120) (i : Nat) : TB bs i ≤ 3500 := by
  unfold TB
  have h1 := boxsL_len (bs.take i)
  have h2 : (bs.take i).length ≤ bs.length := by rw [List.length_take]; omega
  omega
/-- the law's map -/
def MP (D : Nat → Int32) (P : Nat → Nat → Bool) : Prop := ∀ y x, y < 64 → x < 64 → D (64 * y + x) = cI (P x y)
/-- the map while a box is laid on it: the rows ahead of j, and of row j what is ahead of i -/
def mpF (D : Nat → Int32) (k pn : Nat) (po : Bool) (bx bY bw bh j i : Nat) : Nat → Int32 := fun q => if (bY ≤ q / 64 ∧ q / 64 < bY + bh) ∧ (bx ≤ q % 64 ∧ q % 64 < bx + bw) ∧ (q / 64 < j ∨ (q / 64 = j ∧ q % 64 < i)) then (if inkK k pn (q % 64) (q / 64) = true then 1 else if (po || decide (k = 1)) = true then 0 else D q) else D q
theorem mp_0 (D : Nat → Int32) (k pn : Nat) (po : Bool) (bx bY bw bh : Nat) (q : Nat) : mpF D k pn po bx bY bw bh bY bx q = D q := if_neg (by omega)
theorem mp_s (D : Nat → Int32) (k pn : Nat) (po : Bool) {bx bY bw bh j i : Nat} (h1 : bY ≤ j) (h2 : j < bY + bh) (h3 : bx ≤ i) (h4 : i < bx + bw) (h5 : i < 64) (q : Nat) : (if q = 64 * j + i then (if inkK k pn i j = true then 1 else if (po || decide (k = 1)) = true then 0 else D q) else mpF D k pn po bx bY bw bh j i q) = mpF D k pn po bx bY bw bh j (i + 1) q := by
  by_cases e : q = 64 * j + i
  · subst e
    have hc : (bY ≤ j ∧ j < bY + bh) ∧ (bx ≤ i ∧ i < bx + bw) ∧ (j < j ∨ (j = j ∧ i < i + 1)) := ⟨⟨h1, h2⟩, ⟨h3, h4⟩, Or.inr ⟨rfl, by omega⟩⟩
    unfold mpF
    rw [if_pos rfl, show (64 * j + i) % 64 = i by omega, show (64 * j + i) / 64 = j by omega, if_pos hc]
  · rw [if_neg e]
    unfold mpF
    by_cases h : (bY ≤ q / 64 ∧ q / 64 < bY + bh) ∧ (bx ≤ q % 64 ∧ q % 64 < bx + bw) ∧ (q / 64 < j ∨ (q / 64 = j ∧ q % 64 < i))
    · have hc : (bY ≤ q / 64 ∧ q / 64 < bY + bh) ∧ (bx ≤ q % 64 ∧ q % 64 < bx + bw) ∧ (q / 64 < j ∨ (q / 64 = j ∧ q % 64 < i + 1)) := ⟨h.1, h.2.1, h.2.2.elim Or.inl (fun z => Or.inr ⟨z.1, by omega⟩)⟩
      rw [if_pos h, if_pos hc]
    · rw [if_neg h, if_neg (fun z => h ⟨z.1, z.2.1, z.2.2.elim Or.inl (fun z => Or.inr ⟨z.1, by omega⟩)⟩)]
theorem mp_k (D : Nat → Int32) (k pn : Nat) (po : Bool) {bx bY bw bh j i : Nat} (h1 : bY ≤ j) (h2 : j < bY + bh) (h3 : bx ≤ i) (h4 : i < bx + bw) (h5 : i < 64) (hk : (if inkK k pn i j = true then (1 : Int32) else if (po || decide (k = 1)) = true then 0 else D (64 * j + i)) = D (64 * j + i)) : mpF D k pn po bx bY bw bh j i = mpF D k pn po bx bY bw bh j (i + 1) := funext fun q => by
  rw [← mp_s D k pn po h1 h2 h3 h4 h5 q]
  by_cases e : q = 64 * j + i
  · subst e
    rw [if_pos rfl, hk]
    unfold mpF
    rw [if_neg (by omega)]
  · rw [if_neg e]
theorem mp_row (D : Nat → Int32) (k pn : Nat) (po : Bool) {bx bY bw bh j i : Nat} (h : bx + bw ≤ i ∨ 64 ≤ i) : mpF D k pn po bx bY bw bh j i = mpF D k pn po bx bY bw bh (j + 1) bx := funext fun q => by
  unfold mpF
  have hq := Nat.mod_lt q (show 64 > 0 by decide)
  by_cases h9 : (bY ≤ q / 64 ∧ q / 64 < bY + bh) ∧ (bx ≤ q % 64 ∧ q % 64 < bx + bw) ∧ (q / 64 < j ∨ (q / 64 = j ∧ q % 64 < i))
  · have hc : (bY ≤ q / 64 ∧ q / 64 < bY + bh) ∧ (bx ≤ q % 64 ∧ q % 64 < bx + bw) ∧ (q / 64 < j + 1 ∨ (q / 64 = j + 1 ∧ q % 64 < bx)) := ⟨h9.1, h9.2.1, Or.inl (by omega)⟩
    rw [if_pos h9, if_pos hc]
  · rw [if_neg h9, if_neg (fun z => h9 ⟨z.1, z.2.1, by have := z.2.1; have := z.2.2; omega⟩)]
theorem mp_end {D : Nat → Int32} {P : Nat → Nat → Bool} (hP : MP D P) (k pn : Nat) (po : Bool) {bx bY bw bh j : Nat} (h : bY + bh ≤ j ∨ 64 ≤ j) : MP (mpF D k pn po bx bY bw bh j bx) (boxP k pn po bx bY bw bh P) := fun y x hy hx => by
  unfold mpF boxP
  rw [show (64 * y + x) % 64 = x by omega, show (64 * y + x) / 64 = y by omega]
  by_cases h9 : (bY ≤ y ∧ y < bY + bh) ∧ bx ≤ x ∧ x < bx + bw
  · have hc : (bY ≤ y ∧ y < bY + bh) ∧ (bx ≤ x ∧ x < bx + bw) ∧ (y < j ∨ (y = j ∧ x < bx)) := ⟨h9.1, h9.2, Or.inl (by have := h9.1; omega)⟩
    rw [if_pos hc, if_pos h9, hP y x hy hx]
    cases inkK k pn x y <;> cases (po || decide (k = 1)) <;> rfl
  · rw [if_neg (fun z => h9 ⟨z.1, z.2.1⟩), if_neg h9]
    exact hP y x hy hx
theorem wN_nI {n : Nat} (h : n < 4294967296) : wN (nI n) = n := by
  show (BitVec.ofNat 32 n).toNat = n
  rw [BitVec.toNat_ofNat]; omega
theorem and_z (v : Int32) : v &&& 63 = nI (wN v % 64) := pk_and v 6 (by decide)
theorem and_31 (v : Int32) : v &&& 31 = nI (wN v % 32) := pk_and v 5 (by decide)
theorem and_3 (v : Int32) : v &&& 3 = nI (wN v % 4) := pk_and v 2 (by decide)
theorem and_127 (v : Int32) : v &&& 127 = nI (wN v % 128) := pk_and v 7 (by decide)
theorem and_1 (v : Int32) : v &&& 1 = cI (decide (wN v % 2 = 1)) := by
  rw [pk_and v 1 (by decide)]
  show nI (wN v % 2) = _
  rcases (show wN v % 2 = 0 ∨ wN v % 2 = 1 by omega) with h | h <;> rw [h] <;> rfl
theorem kN_1 {v : Int32} (h : v >>> ((22 : Int32) &&& 31) &&& 3 = 0) : kN v = 1 := by
  rw [and_3] at h
  unfold kN
  rw [if_pos ((nI_eq (b := 0) (by omega) (by decide)).mp h)]
theorem kN_0 {v : Int32} (h0 : ¬ v >>> ((22 : Int32) &&& 31) &&& 3 = 0) (h : v >>> ((22 : Int32) &&& 31) &&& 3 = 1) : kN v = 0 := by
  rw [and_3] at h h0
  unfold kN
  rw [if_neg (fun z => h0 (by rw [z]; rfl)), if_pos ((nI_eq (b := 1) (by omega) (by decide)).mp h)]
theorem kN_2 {v : Int32} (h0 : ¬ v >>> ((22 : Int32) &&& 31) &&& 3 = 0) (h : ¬ v >>> ((22 : Int32) &&& 31) &&& 3 = 1) : kN v = 2 := by
  rw [and_3] at h h0
  unfold kN
  rw [if_neg (fun z => h0 (by rw [z]; rfl)), if_neg (fun z => h (by rw [z]; rfl))]

theorem dL_law_0 : decode cL_law 0 = .ok (.new 8, 3) := by decide +kernel
theorem dL_law_3 : decode cL_law 3 = .ok (.dup, 1) := by decide +kernel
theorem dL_law_4 : decode cL_law 4 = .ok (.invokespecial 28, 3) := by decide +kernel
theorem dL_law_7 : decode cL_law 7 = .ok (.astore_n 1, 1) := by decide +kernel
theorem dL_law_8 : decode cL_law 8 = .ok (.bipush 7, 2) := by decide +kernel
theorem dL_law_10 : decode cL_law 10 = .ok (.newarray .int, 2) := by decide +kernel
theorem dL_law_12 : decode cL_law 12 = .ok (.astore_n 2, 1) := by decide +kernel
theorem dL_law_13 : decode cL_law 13 = .ok (.sipush 4096, 3) := by decide +kernel
theorem dL_law_16 : decode cL_law 16 = .ok (.newarray .int, 2) := by decide +kernel
theorem dL_law_18 : decode cL_law 18 = .ok (.astore_n 3, 1) := by decide +kernel
theorem dL_law_19 : decode cL_law 19 = .ok (.iconst 0, 1) := by decide +kernel
theorem dL_law_20 : decode cL_law 20 = .ok (.istore 4, 2) := by decide +kernel
theorem dL_law_22 : decode cL_law 22 = .ok (.aload_n 1, 1) := by decide +kernel
theorem dL_law_23 : decode cL_law 23 = .ok (.aload_n 2, 1) := by decide +kernel
theorem dL_law_24 : decode cL_law 24 = .ok (.ldc2_w 29, 3) := by decide +kernel
theorem dL_law_27 : decode cL_law 27 = .ok (.invokestatic 31, 3) := by decide +kernel
theorem dL_law_30 : decode cL_law 30 = .ok (.iconst 0, 1) := by decide +kernel
theorem dL_law_31 : decode cL_law 31 = .ok (.istore 5, 2) := by decide +kernel
theorem dL_law_33 : decode cL_law 33 = .ok (.iload 5, 2) := by decide +kernel
theorem dL_law_35 : decode cL_law 35 = .ok (.aload_n 0, 1) := by decide +kernel
theorem dL_law_36 : decode cL_law 36 = .ok (.arraylength, 1) := by decide +kernel
theorem dL_law_37 : decode cL_law 37 = .ok (.if_icmp .ge 425, 3) := by decide +kernel
theorem dL_law_40 : decode cL_law 40 = .ok (.iload 4, 2) := by decide +kernel
theorem dL_law_42 : decode cL_law 42 = .ok (.bipush 120, 2) := by decide +kernel
theorem dL_law_44 : decode cL_law 44 = .ok (.if_icmp .ge 418, 3) := by decide +kernel
theorem dL_law_47 : decode cL_law 47 = .ok (.aload_n 0, 1) := by decide +kernel
theorem dL_law_48 : decode cL_law 48 = .ok (.iload 5, 2) := by decide +kernel
theorem dL_law_50 : decode cL_law 50 = .ok (.iaload, 1) := by decide +kernel
theorem dL_law_51 : decode cL_law 51 = .ok (.istore 6, 2) := by decide +kernel
theorem dL_law_53 : decode cL_law 53 = .ok (.aload_n 0, 1) := by decide +kernel
theorem dL_law_54 : decode cL_law 54 = .ok (.iload 5, 2) := by decide +kernel
theorem dL_law_56 : decode cL_law 56 = .ok (.iconst 1, 1) := by decide +kernel
theorem dL_law_57 : decode cL_law 57 = .ok (.iadd, 1) := by decide +kernel
theorem dL_law_58 : decode cL_law 58 = .ok (.invokestatic 35, 3) := by decide +kernel
theorem dL_law_61 : decode cL_law 61 = .ok (.istore 7, 2) := by decide +kernel
theorem dL_law_63 : decode cL_law 63 = .ok (.iload 6, 2) := by decide +kernel
theorem dL_law_65 : decode cL_law 65 = .ok (.bipush 63, 2) := by decide +kernel
theorem dL_law_67 : decode cL_law 67 = .ok (.iand, 1) := by decide +kernel
theorem dL_law_68 : decode cL_law 68 = .ok (.istore 8, 2) := by decide +kernel
theorem dL_law_70 : decode cL_law 70 = .ok (.iload 6, 2) := by decide +kernel
theorem dL_law_72 : decode cL_law 72 = .ok (.bipush 6, 2) := by decide +kernel
theorem dL_law_74 : decode cL_law 74 = .ok (.ishr, 1) := by decide +kernel
theorem dL_law_75 : decode cL_law 75 = .ok (.bipush 63, 2) := by decide +kernel
theorem dL_law_77 : decode cL_law 77 = .ok (.iand, 1) := by decide +kernel
theorem dL_law_78 : decode cL_law 78 = .ok (.istore 9, 2) := by decide +kernel
theorem dL_law_80 : decode cL_law 80 = .ok (.iconst 1, 1) := by decide +kernel
theorem dL_law_81 : decode cL_law 81 = .ok (.iload 6, 2) := by decide +kernel
theorem dL_law_83 : decode cL_law 83 = .ok (.bipush 12, 2) := by decide +kernel
theorem dL_law_85 : decode cL_law 85 = .ok (.ishr, 1) := by decide +kernel
theorem dL_law_86 : decode cL_law 86 = .ok (.bipush 31, 2) := by decide +kernel
theorem dL_law_88 : decode cL_law 88 = .ok (.iand, 1) := by decide +kernel
theorem dL_law_89 : decode cL_law 89 = .ok (.iadd, 1) := by decide +kernel
theorem dL_law_90 : decode cL_law 90 = .ok (.istore 10, 2) := by decide +kernel
theorem dL_law_92 : decode cL_law 92 = .ok (.iconst 1, 1) := by decide +kernel
theorem dL_law_93 : decode cL_law 93 = .ok (.iload 6, 2) := by decide +kernel
theorem dL_law_95 : decode cL_law 95 = .ok (.bipush 17, 2) := by decide +kernel
theorem dL_law_97 : decode cL_law 97 = .ok (.ishr, 1) := by decide +kernel
theorem dL_law_98 : decode cL_law 98 = .ok (.bipush 31, 2) := by decide +kernel
theorem dL_law_100 : decode cL_law 100 = .ok (.iand, 1) := by decide +kernel
theorem dL_law_101 : decode cL_law 101 = .ok (.iadd, 1) := by decide +kernel
theorem dL_law_102 : decode cL_law 102 = .ok (.istore 11, 2) := by decide +kernel
theorem dL_law_104 : decode cL_law 104 = .ok (.iload 6, 2) := by decide +kernel
theorem dL_law_106 : decode cL_law 106 = .ok (.bipush 22, 2) := by decide +kernel
theorem dL_law_108 : decode cL_law 108 = .ok (.ishr, 1) := by decide +kernel
theorem dL_law_109 : decode cL_law 109 = .ok (.iconst 3, 1) := by decide +kernel
theorem dL_law_110 : decode cL_law 110 = .ok (.iand, 1) := by decide +kernel
theorem dL_law_111 : decode cL_law 111 = .ok (.ifCond .ne 7, 3) := by decide +kernel
theorem dL_law_114 : decode cL_law 114 = .ok (.iconst 1, 1) := by decide +kernel
theorem dL_law_115 : decode cL_law 115 = .ok (.goto 19, 3) := by decide +kernel
theorem dL_law_118 : decode cL_law 118 = .ok (.iload 6, 2) := by decide +kernel
theorem dL_law_120 : decode cL_law 120 = .ok (.bipush 22, 2) := by decide +kernel
theorem dL_law_122 : decode cL_law 122 = .ok (.ishr, 1) := by decide +kernel
theorem dL_law_123 : decode cL_law 123 = .ok (.iconst 3, 1) := by decide +kernel
theorem dL_law_124 : decode cL_law 124 = .ok (.iand, 1) := by decide +kernel
theorem dL_law_125 : decode cL_law 125 = .ok (.iconst 1, 1) := by decide +kernel
theorem dL_law_126 : decode cL_law 126 = .ok (.if_icmp .ne 7, 3) := by decide +kernel
theorem dL_law_129 : decode cL_law 129 = .ok (.iconst 0, 1) := by decide +kernel
theorem dL_law_130 : decode cL_law 130 = .ok (.goto 4, 3) := by decide +kernel
theorem dL_law_133 : decode cL_law 133 = .ok (.iconst 2, 1) := by decide +kernel
theorem dL_law_134 : decode cL_law 134 = .ok (.istore 12, 2) := by decide +kernel
theorem dL_law_136 : decode cL_law 136 = .ok (.iconst 1, 1) := by decide +kernel
theorem dL_law_137 : decode cL_law 137 = .ok (.iload 7, 2) := by decide +kernel
theorem dL_law_139 : decode cL_law 139 = .ok (.bipush 63, 2) := by decide +kernel
theorem dL_law_141 : decode cL_law 141 = .ok (.iand, 1) := by decide +kernel
theorem dL_law_142 : decode cL_law 142 = .ok (.iadd, 1) := by decide +kernel
theorem dL_law_143 : decode cL_law 143 = .ok (.istore 13, 2) := by decide +kernel
theorem dL_law_145 : decode cL_law 145 = .ok (.iload 7, 2) := by decide +kernel
theorem dL_law_147 : decode cL_law 147 = .ok (.bipush 6, 2) := by decide +kernel
theorem dL_law_149 : decode cL_law 149 = .ok (.ishr, 1) := by decide +kernel
theorem dL_law_150 : decode cL_law 150 = .ok (.iconst 1, 1) := by decide +kernel
theorem dL_law_151 : decode cL_law 151 = .ok (.iand, 1) := by decide +kernel
theorem dL_law_152 : decode cL_law 152 = .ok (.istore 14, 2) := by decide +kernel
theorem dL_law_154 : decode cL_law 154 = .ok (.iinc 4 1, 3) := by decide +kernel
theorem dL_law_157 : decode cL_law 157 = .ok (.aload_n 1, 1) := by decide +kernel
theorem dL_law_158 : decode cL_law 158 = .ok (.aload_n 2, 1) := by decide +kernel
theorem dL_law_159 : decode cL_law 159 = .ok (.ldc2_w 39, 3) := by decide +kernel
theorem dL_law_162 : decode cL_law 162 = .ok (.invokestatic 31, 3) := by decide +kernel
theorem dL_law_165 : decode cL_law 165 = .ok (.aload_n 1, 1) := by decide +kernel
theorem dL_law_166 : decode cL_law 166 = .ok (.aload_n 2, 1) := by decide +kernel
theorem dL_law_167 : decode cL_law 167 = .ok (.iload 8, 2) := by decide +kernel
theorem dL_law_169 : decode cL_law 169 = .ok (.invokestatic 41, 3) := by decide +kernel
theorem dL_law_172 : decode cL_law 172 = .ok (.aload_n 1, 1) := by decide +kernel
theorem dL_law_173 : decode cL_law 173 = .ok (.aload_n 2, 1) := by decide +kernel
theorem dL_law_174 : decode cL_law 174 = .ok (.bipush 120, 2) := by decide +kernel
theorem dL_law_176 : decode cL_law 176 = .ok (.invokestatic 15, 3) := by decide +kernel
theorem dL_law_179 : decode cL_law 179 = .ok (.aload_n 1, 1) := by decide +kernel
theorem dL_law_180 : decode cL_law 180 = .ok (.aload_n 2, 1) := by decide +kernel
theorem dL_law_181 : decode cL_law 181 = .ok (.iload 9, 2) := by decide +kernel
theorem dL_law_183 : decode cL_law 183 = .ok (.invokestatic 41, 3) := by decide +kernel
theorem dL_law_186 : decode cL_law 186 = .ok (.aload_n 1, 1) := by decide +kernel
theorem dL_law_187 : decode cL_law 187 = .ok (.aload_n 2, 1) := by decide +kernel
theorem dL_law_188 : decode cL_law 188 = .ok (.bipush 89, 2) := by decide +kernel
theorem dL_law_190 : decode cL_law 190 = .ok (.invokestatic 15, 3) := by decide +kernel
theorem dL_law_193 : decode cL_law 193 = .ok (.aload_n 1, 1) := by decide +kernel
theorem dL_law_194 : decode cL_law 194 = .ok (.aload_n 2, 1) := by decide +kernel
theorem dL_law_195 : decode cL_law 195 = .ok (.ldc2_w 44, 3) := by decide +kernel
theorem dL_law_198 : decode cL_law 198 = .ok (.invokestatic 31, 3) := by decide +kernel
theorem dL_law_201 : decode cL_law 201 = .ok (.aload_n 1, 1) := by decide +kernel
theorem dL_law_202 : decode cL_law 202 = .ok (.aload_n 2, 1) := by decide +kernel
theorem dL_law_203 : decode cL_law 203 = .ok (.iload 14, 2) := by decide +kernel
theorem dL_law_205 : decode cL_law 205 = .ok (.invokestatic 41, 3) := by decide +kernel
theorem dL_law_208 : decode cL_law 208 = .ok (.aload_n 1, 1) := by decide +kernel
theorem dL_law_209 : decode cL_law 209 = .ok (.aload_n 2, 1) := by decide +kernel
theorem dL_law_210 : decode cL_law 210 = .ok (.bipush 79, 2) := by decide +kernel
theorem dL_law_212 : decode cL_law 212 = .ok (.invokestatic 15, 3) := by decide +kernel
theorem dL_law_215 : decode cL_law 215 = .ok (.aload_n 1, 1) := by decide +kernel
theorem dL_law_216 : decode cL_law 216 = .ok (.aload_n 2, 1) := by decide +kernel
theorem dL_law_217 : decode cL_law 217 = .ok (.ldc2_w 46, 3) := by decide +kernel
theorem dL_law_220 : decode cL_law 220 = .ok (.invokestatic 31, 3) := by decide +kernel
theorem dL_law_223 : decode cL_law 223 = .ok (.aload_n 1, 1) := by decide +kernel
theorem dL_law_224 : decode cL_law 224 = .ok (.aload_n 2, 1) := by decide +kernel
theorem dL_law_225 : decode cL_law 225 = .ok (.iload 10, 2) := by decide +kernel
theorem dL_law_227 : decode cL_law 227 = .ok (.invokestatic 41, 3) := by decide +kernel
theorem dL_law_230 : decode cL_law 230 = .ok (.aload_n 1, 1) := by decide +kernel
theorem dL_law_231 : decode cL_law 231 = .ok (.aload_n 2, 1) := by decide +kernel
theorem dL_law_232 : decode cL_law 232 = .ok (.bipush 97, 2) := by decide +kernel
theorem dL_law_234 : decode cL_law 234 = .ok (.invokestatic 15, 3) := by decide +kernel
theorem dL_law_237 : decode cL_law 237 = .ok (.aload_n 1, 1) := by decide +kernel
theorem dL_law_238 : decode cL_law 238 = .ok (.aload_n 2, 1) := by decide +kernel
theorem dL_law_239 : decode cL_law 239 = .ok (.iload 11, 2) := by decide +kernel
theorem dL_law_241 : decode cL_law 241 = .ok (.invokestatic 41, 3) := by decide +kernel
theorem dL_law_244 : decode cL_law 244 = .ok (.aload_n 1, 1) := by decide +kernel
theorem dL_law_245 : decode cL_law 245 = .ok (.aload_n 2, 1) := by decide +kernel
theorem dL_law_246 : decode cL_law 246 = .ok (.bipush 98, 2) := by decide +kernel
theorem dL_law_248 : decode cL_law 248 = .ok (.invokestatic 15, 3) := by decide +kernel
theorem dL_law_251 : decode cL_law 251 = .ok (.aload_n 1, 1) := by decide +kernel
theorem dL_law_252 : decode cL_law 252 = .ok (.aload_n 2, 1) := by decide +kernel
theorem dL_law_253 : decode cL_law 253 = .ok (.iload 13, 2) := by decide +kernel
theorem dL_law_255 : decode cL_law 255 = .ok (.invokestatic 41, 3) := by decide +kernel
theorem dL_law_258 : decode cL_law 258 = .ok (.aload_n 1, 1) := by decide +kernel
theorem dL_law_259 : decode cL_law 259 = .ok (.aload_n 2, 1) := by decide +kernel
theorem dL_law_260 : decode cL_law 260 = .ok (.bipush 103, 2) := by decide +kernel
theorem dL_law_262 : decode cL_law 262 = .ok (.invokestatic 15, 3) := by decide +kernel
theorem dL_law_265 : decode cL_law 265 = .ok (.aload_n 1, 1) := by decide +kernel
theorem dL_law_266 : decode cL_law 266 = .ok (.aload_n 2, 1) := by decide +kernel
theorem dL_law_267 : decode cL_law 267 = .ok (.iload 12, 2) := by decide +kernel
theorem dL_law_269 : decode cL_law 269 = .ok (.invokestatic 41, 3) := by decide +kernel
theorem dL_law_272 : decode cL_law 272 = .ok (.aload_n 1, 1) := by decide +kernel
theorem dL_law_273 : decode cL_law 273 = .ok (.aload_n 2, 1) := by decide +kernel
theorem dL_law_274 : decode cL_law 274 = .ok (.bipush 80, 2) := by decide +kernel
theorem dL_law_276 : decode cL_law 276 = .ok (.invokestatic 15, 3) := by decide +kernel
theorem dL_law_279 : decode cL_law 279 = .ok (.iload 9, 2) := by decide +kernel
theorem dL_law_281 : decode cL_law 281 = .ok (.istore 15, 2) := by decide +kernel
theorem dL_law_283 : decode cL_law 283 = .ok (.iload 15, 2) := by decide +kernel
theorem dL_law_285 : decode cL_law 285 = .ok (.iload 9, 2) := by decide +kernel
theorem dL_law_287 : decode cL_law 287 = .ok (.iload 11, 2) := by decide +kernel
theorem dL_law_289 : decode cL_law 289 = .ok (.iadd, 1) := by decide +kernel
theorem dL_law_290 : decode cL_law 290 = .ok (.if_icmp .ge 166, 3) := by decide +kernel
theorem dL_law_293 : decode cL_law 293 = .ok (.iload 15, 2) := by decide +kernel
theorem dL_law_295 : decode cL_law 295 = .ok (.bipush 64, 2) := by decide +kernel
theorem dL_law_297 : decode cL_law 297 = .ok (.if_icmp .ge 159, 3) := by decide +kernel
theorem dL_law_300 : decode cL_law 300 = .ok (.iload 8, 2) := by decide +kernel
theorem dL_law_302 : decode cL_law 302 = .ok (.istore 16, 2) := by decide +kernel
theorem dL_law_304 : decode cL_law 304 = .ok (.iload 16, 2) := by decide +kernel
theorem dL_law_306 : decode cL_law 306 = .ok (.iload 8, 2) := by decide +kernel
theorem dL_law_308 : decode cL_law 308 = .ok (.iload 10, 2) := by decide +kernel
theorem dL_law_310 : decode cL_law 310 = .ok (.iadd, 1) := by decide +kernel
theorem dL_law_311 : decode cL_law 311 = .ok (.if_icmp .ge 139, 3) := by decide +kernel
theorem dL_law_314 : decode cL_law 314 = .ok (.iload 16, 2) := by decide +kernel
theorem dL_law_316 : decode cL_law 316 = .ok (.bipush 64, 2) := by decide +kernel
theorem dL_law_318 : decode cL_law 318 = .ok (.if_icmp .ge 132, 3) := by decide +kernel
theorem dL_law_321 : decode cL_law 321 = .ok (.iload 16, 2) := by decide +kernel
theorem dL_law_323 : decode cL_law 323 = .ok (.iconst 3, 1) := by decide +kernel
theorem dL_law_324 : decode cL_law 324 = .ok (.iand, 1) := by decide +kernel
theorem dL_law_325 : decode cL_law 325 = .ok (.istore 17, 2) := by decide +kernel
theorem dL_law_327 : decode cL_law 327 = .ok (.iload 15, 2) := by decide +kernel
theorem dL_law_329 : decode cL_law 329 = .ok (.iconst 3, 1) := by decide +kernel
theorem dL_law_330 : decode cL_law 330 = .ok (.iand, 1) := by decide +kernel
theorem dL_law_331 : decode cL_law 331 = .ok (.istore 18, 2) := by decide +kernel
theorem dL_law_333 : decode cL_law 333 = .ok (.iload 17, 2) := by decide +kernel
theorem dL_law_335 : decode cL_law 335 = .ok (.iload 18, 2) := by decide +kernel
theorem dL_law_337 : decode cL_law 337 = .ok (.ixor, 1) := by decide +kernel
theorem dL_law_338 : decode cL_law 338 = .ok (.iconst 1, 1) := by decide +kernel
theorem dL_law_339 : decode cL_law 339 = .ok (.iand, 1) := by decide +kernel
theorem dL_law_340 : decode cL_law 340 = .ok (.bipush 8, 2) := by decide +kernel
theorem dL_law_342 : decode cL_law 342 = .ok (.imul, 1) := by decide +kernel
theorem dL_law_343 : decode cL_law 343 = .ok (.iload 18, 2) := by decide +kernel
theorem dL_law_345 : decode cL_law 345 = .ok (.iconst 1, 1) := by decide +kernel
theorem dL_law_346 : decode cL_law 346 = .ok (.iand, 1) := by decide +kernel
theorem dL_law_347 : decode cL_law 347 = .ok (.iconst 4, 1) := by decide +kernel
theorem dL_law_348 : decode cL_law 348 = .ok (.imul, 1) := by decide +kernel
theorem dL_law_349 : decode cL_law 349 = .ok (.iadd, 1) := by decide +kernel
theorem dL_law_350 : decode cL_law 350 = .ok (.iload 17, 2) := by decide +kernel
theorem dL_law_352 : decode cL_law 352 = .ok (.iload 18, 2) := by decide +kernel
theorem dL_law_354 : decode cL_law 354 = .ok (.ixor, 1) := by decide +kernel
theorem dL_law_355 : decode cL_law 355 = .ok (.iconst 1, 1) := by decide +kernel
theorem dL_law_356 : decode cL_law 356 = .ok (.ishr, 1) := by decide +kernel
theorem dL_law_357 : decode cL_law 357 = .ok (.iconst 1, 1) := by decide +kernel
theorem dL_law_358 : decode cL_law 358 = .ok (.iand, 1) := by decide +kernel
theorem dL_law_359 : decode cL_law 359 = .ok (.iconst 2, 1) := by decide +kernel
theorem dL_law_360 : decode cL_law 360 = .ok (.imul, 1) := by decide +kernel
theorem dL_law_361 : decode cL_law 361 = .ok (.iadd, 1) := by decide +kernel
theorem dL_law_362 : decode cL_law 362 = .ok (.iload 18, 2) := by decide +kernel
theorem dL_law_364 : decode cL_law 364 = .ok (.iconst 1, 1) := by decide +kernel
theorem dL_law_365 : decode cL_law 365 = .ok (.ishr, 1) := by decide +kernel
theorem dL_law_366 : decode cL_law 366 = .ok (.iconst 1, 1) := by decide +kernel
theorem dL_law_367 : decode cL_law 367 = .ok (.iand, 1) := by decide +kernel
theorem dL_law_368 : decode cL_law 368 = .ok (.iadd, 1) := by decide +kernel
theorem dL_law_369 : decode cL_law 369 = .ok (.istore 19, 2) := by decide +kernel
theorem dL_law_371 : decode cL_law 371 = .ok (.iload 12, 2) := by decide +kernel
theorem dL_law_373 : decode cL_law 373 = .ok (.ifCond .eq 22, 3) := by decide +kernel
theorem dL_law_376 : decode cL_law 376 = .ok (.iload 12, 2) := by decide +kernel
theorem dL_law_378 : decode cL_law 378 = .ok (.iconst 2, 1) := by decide +kernel
theorem dL_law_379 : decode cL_law 379 = .ok (.if_icmp .ne 20, 3) := by decide +kernel
theorem dL_law_382 : decode cL_law 382 = .ok (.bipush 100, 2) := by decide +kernel
theorem dL_law_384 : decode cL_law 384 = .ok (.iload 19, 2) := by decide +kernel
theorem dL_law_386 : decode cL_law 386 = .ok (.imul, 1) := by decide +kernel
theorem dL_law_387 : decode cL_law 387 = .ok (.bipush 16, 2) := by decide +kernel
theorem dL_law_389 : decode cL_law 389 = .ok (.iload 13, 2) := by decide +kernel
theorem dL_law_391 : decode cL_law 391 = .ok (.imul, 1) := by decide +kernel
theorem dL_law_392 : decode cL_law 392 = .ok (.if_icmp .ge 7, 3) := by decide +kernel
theorem dL_law_395 : decode cL_law 395 = .ok (.iconst 1, 1) := by decide +kernel
theorem dL_law_396 : decode cL_law 396 = .ok (.goto 4, 3) := by decide +kernel
theorem dL_law_399 : decode cL_law 399 = .ok (.iconst 0, 1) := by decide +kernel
theorem dL_law_400 : decode cL_law 400 = .ok (.istore 20, 2) := by decide +kernel
theorem dL_law_402 : decode cL_law 402 = .ok (.iload 20, 2) := by decide +kernel
theorem dL_law_404 : decode cL_law 404 = .ok (.ifCond .eq 17, 3) := by decide +kernel
theorem dL_law_407 : decode cL_law 407 = .ok (.aload_n 3, 1) := by decide +kernel
theorem dL_law_408 : decode cL_law 408 = .ok (.bipush 64, 2) := by decide +kernel
theorem dL_law_410 : decode cL_law 410 = .ok (.iload 15, 2) := by decide +kernel
theorem dL_law_412 : decode cL_law 412 = .ok (.imul, 1) := by decide +kernel
theorem dL_law_413 : decode cL_law 413 = .ok (.iload 16, 2) := by decide +kernel
theorem dL_law_415 : decode cL_law 415 = .ok (.iadd, 1) := by decide +kernel
theorem dL_law_416 : decode cL_law 416 = .ok (.iconst 1, 1) := by decide +kernel
theorem dL_law_417 : decode cL_law 417 = .ok (.iastore, 1) := by decide +kernel
theorem dL_law_418 : decode cL_law 418 = .ok (.goto 26, 3) := by decide +kernel
theorem dL_law_421 : decode cL_law 421 = .ok (.iload 12, 2) := by decide +kernel
theorem dL_law_423 : decode cL_law 423 = .ok (.iconst 1, 1) := by decide +kernel
theorem dL_law_424 : decode cL_law 424 = .ok (.if_icmp .eq 9, 3) := by decide +kernel
theorem dL_law_427 : decode cL_law 427 = .ok (.iload 14, 2) := by decide +kernel
theorem dL_law_429 : decode cL_law 429 = .ok (.iconst 1, 1) := by decide +kernel
theorem dL_law_430 : decode cL_law 430 = .ok (.if_icmp .ne 14, 3) := by decide +kernel
theorem dL_law_433 : decode cL_law 433 = .ok (.aload_n 3, 1) := by decide +kernel
theorem dL_law_434 : decode cL_law 434 = .ok (.bipush 64, 2) := by decide +kernel
theorem dL_law_436 : decode cL_law 436 = .ok (.iload 15, 2) := by decide +kernel
theorem dL_law_438 : decode cL_law 438 = .ok (.imul, 1) := by decide +kernel
theorem dL_law_439 : decode cL_law 439 = .ok (.iload 16, 2) := by decide +kernel
theorem dL_law_441 : decode cL_law 441 = .ok (.iadd, 1) := by decide +kernel
theorem dL_law_442 : decode cL_law 442 = .ok (.iconst 0, 1) := by decide +kernel
theorem dL_law_443 : decode cL_law 443 = .ok (.iastore, 1) := by decide +kernel
theorem dL_law_444 : decode cL_law 444 = .ok (.iinc 16 1, 3) := by decide +kernel
theorem dL_law_447 : decode cL_law 447 = .ok (.goto (-143), 3) := by decide +kernel
theorem dL_law_450 : decode cL_law 450 = .ok (.iinc 15 1, 3) := by decide +kernel
theorem dL_law_453 : decode cL_law 453 = .ok (.goto (-170), 3) := by decide +kernel
theorem dL_law_456 : decode cL_law 456 = .ok (.iinc 5 2, 3) := by decide +kernel
theorem dL_law_459 : decode cL_law 459 = .ok (.goto (-426), 3) := by decide +kernel
theorem dL_law_462 : decode cL_law 462 = .ok (.aload_n 1, 1) := by decide +kernel
theorem dL_law_463 : decode cL_law 463 = .ok (.aload_n 2, 1) := by decide +kernel
theorem dL_law_464 : decode cL_law 464 = .ok (.iconst 0, 1) := by decide +kernel
theorem dL_law_465 : decode cL_law 465 = .ok (.invokestatic 48, 3) := by decide +kernel
theorem dL_law_468 : decode cL_law 468 = .ok (.pop, 1) := by decide +kernel
theorem dL_law_469 : decode cL_law 469 = .ok (.aload_n 1, 1) := by decide +kernel
theorem dL_law_470 : decode cL_law 470 = .ok (.iconst 1, 1) := by decide +kernel
theorem dL_law_471 : decode cL_law 471 = .ok (.aload_n 0, 1) := by decide +kernel
theorem dL_law_472 : decode cL_law 472 = .ok (.iconst 0, 1) := by decide +kernel
theorem dL_law_473 : decode cL_law 473 = .ok (.invokestatic 35, 3) := by decide +kernel
theorem dL_law_476 : decode cL_law 476 = .ok (.bipush 24, 2) := by decide +kernel
theorem dL_law_478 : decode cL_law 478 = .ok (.ishr, 1) := by decide +kernel
theorem dL_law_479 : decode cL_law 479 = .ok (.bipush 127, 2) := by decide +kernel
theorem dL_law_481 : decode cL_law 481 = .ok (.iand, 1) := by decide +kernel
theorem dL_law_482 : decode cL_law 482 = .ok (.iadd, 1) := by decide +kernel
theorem dL_law_483 : decode cL_law 483 = .ok (.invokevirtual 52, 3) := by decide +kernel
theorem dL_law_486 : decode cL_law 486 = .ok (.istore 5, 2) := by decide +kernel
theorem dL_law_488 : decode cL_law 488 = .ok (.iload 5, 2) := by decide +kernel
theorem dL_law_490 : decode cL_law 490 = .ok (.iload 4, 2) := by decide +kernel
theorem dL_law_492 : decode cL_law 492 = .ok (.ifCond .le 7, 3) := by decide +kernel
theorem dL_law_495 : decode cL_law 495 = .ok (.iconst 1, 1) := by decide +kernel
theorem dL_law_496 : decode cL_law 496 = .ok (.goto 4, 3) := by decide +kernel
theorem dL_law_499 : decode cL_law 499 = .ok (.iconst 0, 1) := by decide +kernel
theorem dL_law_500 : decode cL_law 500 = .ok (.if_icmp .ne 14, 3) := by decide +kernel
theorem dL_law_503 : decode cL_law 503 = .ok (.aload_n 1, 1) := by decide +kernel
theorem dL_law_504 : decode cL_law 504 = .ok (.bipush 6, 2) := by decide +kernel
theorem dL_law_506 : decode cL_law 506 = .ok (.invokevirtual 55, 3) := by decide +kernel
theorem dL_law_509 : decode cL_law 509 = .ok (.iload 4, 2) := by decide +kernel
theorem dL_law_511 : decode cL_law 511 = .ok (.if_icmp .eq 5, 3) := by decide +kernel
theorem dL_law_514 : decode cL_law 514 = .ok (.iconst 0, 1) := by decide +kernel
theorem dL_law_515 : decode cL_law 515 = .ok (.ireturn, 1) := by decide +kernel
theorem dL_law_516 : decode cL_law 516 = .ok (.iconst 0, 1) := by decide +kernel
theorem dL_law_517 : decode cL_law 517 = .ok (.istore 6, 2) := by decide +kernel
theorem dL_law_519 : decode cL_law 519 = .ok (.iload 6, 2) := by decide +kernel
theorem dL_law_521 : decode cL_law 521 = .ok (.bipush 64, 2) := by decide +kernel
theorem dL_law_523 : decode cL_law 523 = .ok (.if_icmp .ge 55, 3) := by decide +kernel
theorem dL_law_526 : decode cL_law 526 = .ok (.iload 5, 2) := by decide +kernel
theorem dL_law_528 : decode cL_law 528 = .ok (.iconst 1, 1) := by decide +kernel
theorem dL_law_529 : decode cL_law 529 = .ok (.if_icmp .ne 49, 3) := by decide +kernel
theorem dL_law_532 : decode cL_law 532 = .ok (.iconst 0, 1) := by decide +kernel
theorem dL_law_533 : decode cL_law 533 = .ok (.istore 7, 2) := by decide +kernel
theorem dL_law_535 : decode cL_law 535 = .ok (.iload 7, 2) := by decide +kernel
theorem dL_law_537 : decode cL_law 537 = .ok (.bipush 64, 2) := by decide +kernel
theorem dL_law_539 : decode cL_law 539 = .ok (.if_icmp .ge 33, 3) := by decide +kernel
theorem dL_law_542 : decode cL_law 542 = .ok (.aload_n 1, 1) := by decide +kernel
theorem dL_law_543 : decode cL_law 543 = .ok (.iconst 0, 1) := by decide +kernel
theorem dL_law_544 : decode cL_law 544 = .ok (.iload 7, 2) := by decide +kernel
theorem dL_law_546 : decode cL_law 546 = .ok (.iload 6, 2) := by decide +kernel
theorem dL_law_548 : decode cL_law 548 = .ok (.invokevirtual 58, 3) := by decide +kernel
theorem dL_law_551 : decode cL_law 551 = .ok (.aload_n 3, 1) := by decide +kernel
theorem dL_law_552 : decode cL_law 552 = .ok (.bipush 64, 2) := by decide +kernel
theorem dL_law_554 : decode cL_law 554 = .ok (.iload 6, 2) := by decide +kernel
theorem dL_law_556 : decode cL_law 556 = .ok (.imul, 1) := by decide +kernel
theorem dL_law_557 : decode cL_law 557 = .ok (.iload 7, 2) := by decide +kernel
theorem dL_law_559 : decode cL_law 559 = .ok (.iadd, 1) := by decide +kernel
theorem dL_law_560 : decode cL_law 560 = .ok (.iaload, 1) := by decide +kernel
theorem dL_law_561 : decode cL_law 561 = .ok (.if_icmp .eq 5, 3) := by decide +kernel
theorem dL_law_564 : decode cL_law 564 = .ok (.iconst 0, 1) := by decide +kernel
theorem dL_law_565 : decode cL_law 565 = .ok (.ireturn, 1) := by decide +kernel
theorem dL_law_566 : decode cL_law 566 = .ok (.iinc 7 1, 3) := by decide +kernel
theorem dL_law_569 : decode cL_law 569 = .ok (.goto (-34), 3) := by decide +kernel
theorem dL_law_572 : decode cL_law 572 = .ok (.iinc 6 1, 3) := by decide +kernel
theorem dL_law_575 : decode cL_law 575 = .ok (.goto (-56), 3) := by decide +kernel
theorem dL_law_578 : decode cL_law 578 = .ok (.iconst 1, 1) := by decide +kernel
theorem dL_law_579 : decode cL_law 579 = .ok (.ireturn, 1) := by decide +kernel
