/-! What the Statement gives of the start: the classes, nest mates' words, static arrays, texts. -/
def elW (T : Term) : Nat → List Int32 → List Cond
  | _, [] => []
  | j, v :: vs => Cond.eq (.elem T (.int (Int32.ofNat j))) (.int v) :: elW T (j + 1) vs
theorem elW_get {T : Term} : ∀ (vs : List Int32) (j i : Nat), i < vs.length → Cond.eq (.elem T (.int (Int32.ofNat (j + i)))) (.int (vs.getD i 0)) ∈ elW T j vs
  | [], j, i, h => absurd h (Nat.not_lt_zero i)
  | v :: vs, j, 0, _ => List.mem_cons_self
  | v :: vs, j, i + 1, h => by
    have h1 := elW_get (T := T) vs (j + 1) i (by simpa using h)
    rw [show j + 1 + i = j + (i + 1) by omega] at h1
    exact List.mem_cons_of_mem _ h1
theorem elW_app {T : Term} : ∀ (a b : List Int32) (j : Nat), elW T j (a ++ b) = elW T j a ++ elW T (j + a.length) b
  | [], b, j => rfl
  | v :: a, b, j => by
    show Cond.eq _ _ :: elW T (j + 1) (a ++ b) = _
    rw [elW_app a b (j + 1), show j + 1 + a.length = j + (a.length + 1) by omega]
    rfl
theorem elW_got {T : Term} {vs : List Int32} {args : Array Value} {s : State} (h : ∀ c ∈ elW T 0 vs, c.before args s = true) (j : Nat) (hj : j < vs.length) : (Term.elem T (.int (Int32.ofNat j))).eval args s none [] s = some (.int (vs.getD j 0)) := by
  have h1 := h _ (elW_get vs 0 j hj)
  rw [Nat.zero_add] at h1
  exact va_eqt h1
theorem inL {w : Cond} {l : List Cond} (hl : ∀ w ∈ l, w ∈ lw_tbl) (i : Nat) (h : l[i]? = some w) : w ∈ lw_tbl := hl _ (List.mem_of_getElem? h)
/-- a static array's words -/
def stW (T : Term) (n : Nat) (vs : List Int32) : List Cond := Cond.isRef T :: Cond.arrayOf T .int :: Cond.eq (.length T) (.int (Int32.ofNat n)) :: elW T 0 vs
/-- a text's words -/
def txW (T : Term) (n : Nat) (vs : List Int32) : List Cond := Cond.exactly T "java/lang/String" :: Cond.eq (.field T "java/lang/String" "coder" "B") (.int 0) :: Cond.arrayOf (.field T "java/lang/String" "value" "[B") .byte :: Cond.eq (.length (.field T "java/lang/String" "value" "[B")) (.int (Int32.ofNat n)) :: elW (.field T "java/lang/String" "value" "[B") 0 vs
def nar1L : List Cond := [(Cond.le (Term.length (Term.arg (0 : Nat))) (Term.int (3072 : Int32)))] ++ (stW (.static "PrinterHouse" "RUN_CODES" "[I") 148 st_RUN_CODES ++ (stW (.static "PrinterHouse" "RUN_BITS" "[I") 148 st_RUN_BITS ++ (stW (.static "PrinterHouse" "FORMAT_HIGH" "[I") 4 st_FORMAT_HIGH ++ (stW (.static "PrinterHouse" "FORMAT_WIDE" "[I") 4 st_FORMAT_WIDE ++ (stW (.static "PrinterHouse" "NEAR_CODES" "[I") 7 st_NEAR_CODES ++ (stW (.static "PrinterHouse" "NEAR_BITS" "[I") 7 st_NEAR_BITS ++ (stW (.static "PrinterHouse$Tile" "SHADES" "[I") 16 st_SHADES ++ ([(Cond.eq (Term.static "java/lang/String" "COMPACT_STRINGS" "Z") (Term.int (1 : Int32))), (Cond.isRef (Term.static "jdk/internal/util/Preconditions" "SIOOBE_FORMATTER" "Ljava/util/function/BiFunction;")), (Cond.eq (Term.static "java/lang/StringUTF16" "$assertionsDisabled" "Z") (Term.int (1 : Int32))), (Cond.eq (Term.static "java/lang/StringUTF16" "HI_BYTE_SHIFT" "I") (Term.int (0 : Int32))), (Cond.eq (Term.static "java/lang/StringUTF16" "LO_BYTE_SHIFT" "I") (Term.int (8 : Int32))), (Cond.not (Cond.castable "PrinterHouse" "PrinterHouse$Tile")), (Cond.not (Cond.castable "PrinterHouse$Sheaf" "PrinterHouse$Tile")), (Cond.not (Cond.castable "PrinterHouse$Streams" "PrinterHouse$Tile")), (Cond.not (Cond.castable "PrinterHouse$Canvas" "PrinterHouse$Tile")), (Cond.not (Cond.castable "PrinterHouse$Fonts" "PrinterHouse$Tile")), (Cond.not (Cond.castable "PrinterHouse$Shelf" "PrinterHouse$Tile")), (Cond.not (Cond.castable "PrinterHouse$Environment" "PrinterHouse$Tile")), (Cond.not (Cond.castable "PrinterHouse$Sheet" "PrinterHouse$Tile")), (Cond.not (Cond.castable "PrinterHouse$Raster" "PrinterHouse$Tile")), (Cond.not (Cond.castable "PrinterHouse$Reading" "PrinterHouse$Tile")), (Cond.not (Cond.castable "PrinterHouse$Pictures" "PrinterHouse$Tile")), (Cond.not (Cond.castable "PrinterHouseModel" "PrinterHouse$Tile")), (Cond.not (Cond.castable "java/lang/String" "PrinterHouse$Tile")), (Cond.not (Cond.castable "PrinterHouse" "PrinterHouse$Environment")), (Cond.not (Cond.castable "PrinterHouse$Sheaf" "PrinterHouse$Environment")), (Cond.not (Cond.castable "PrinterHouse$Streams" "PrinterHouse$Environment")), (Cond.not (Cond.castable "PrinterHouse$Canvas" "PrinterHouse$Environment")), (Cond.not (Cond.castable "PrinterHouse$Tile" "PrinterHouse$Environment")), (Cond.not (Cond.castable "PrinterHouse$Fonts" "PrinterHouse$Environment")), (Cond.not (Cond.castable "PrinterHouse$Shelf" "PrinterHouse$Environment")), (Cond.not (Cond.castable "PrinterHouse$Sheet" "PrinterHouse$Environment")), (Cond.not (Cond.castable "PrinterHouse$Raster" "PrinterHouse$Environment")), (Cond.not (Cond.castable "PrinterHouse$Reading" "PrinterHouse$Environment")), (Cond.not (Cond.castable "PrinterHouse$Pictures" "PrinterHouse$Environment")), (Cond.not (Cond.castable "PrinterHouseModel" "PrinterHouse$Environment")), (Cond.not (Cond.castable "java/lang/String" "PrinterHouse$Environment")), (Cond.not (Cond.castable "PrinterHouse" "PrinterHouse$Reading")), (Cond.not (Cond.castable "PrinterHouse$Sheaf" "PrinterHouse$Reading")), (Cond.not (Cond.castable "PrinterHouse$Streams" "PrinterHouse$Reading")), (Cond.not (Cond.castable "PrinterHouse$Canvas" "PrinterHouse$Reading")), (Cond.not (Cond.castable "PrinterHouse$Tile" "PrinterHouse$Reading")), (Cond.not (Cond.castable "PrinterHouse$Fonts" "PrinterHouse$Reading")), (Cond.not (Cond.castable "PrinterHouse$Shelf" "PrinterHouse$Reading")), (Cond.not (Cond.castable "PrinterHouse$Environment" "PrinterHouse$Reading")), (Cond.not (Cond.castable "PrinterHouse$Sheet" "PrinterHouse$Reading")), (Cond.not (Cond.castable "PrinterHouse$Raster" "PrinterHouse$Reading")), (Cond.not (Cond.castable "PrinterHouse$Pictures" "PrinterHouse$Reading")), (Cond.not (Cond.castable "PrinterHouseModel" "PrinterHouse$Reading"))]))))))))
def nar2L : List Cond := txW (.string "PrinterHouseModel" 505) 349 tb_0 ++ (txW (.string "PrinterHouseModel" 511) 413 (tb_1.take 42))
def nar3L : List Cond := elW (.field (.string "PrinterHouseModel" 511) "java/lang/String" "value" "[B") 43 (tb_1.drop 43) ++ [(Cond.not (Cond.eq (Term.string "PrinterHouseModel" (505 : Nat)) (Term.string "PrinterHouseModel" (511 : Nat)))), (Cond.not (Cond.eq (Term.arg (0 : Nat)) (Term.static "PrinterHouse" "RUN_CODES" "[I"))), (Cond.not (Cond.eq (Term.arg (0 : Nat)) (Term.static "PrinterHouse" "RUN_BITS" "[I"))), (Cond.not (Cond.eq (Term.arg (0 : Nat)) (Term.static "PrinterHouse" "FORMAT_HIGH" "[I"))), (Cond.not (Cond.eq (Term.arg (0 : Nat)) (Term.static "PrinterHouse" "FORMAT_WIDE" "[I"))), (Cond.not (Cond.eq (Term.arg (0 : Nat)) (Term.static "PrinterHouse" "NEAR_CODES" "[I"))), (Cond.not (Cond.eq (Term.arg (0 : Nat)) (Term.static "PrinterHouse" "NEAR_BITS" "[I"))), (Cond.not (Cond.eq (Term.arg (0 : Nat)) (Term.static "PrinterHouse$Tile" "SHADES" "[I")))]
set_option maxRecDepth 1000000 in
set_option maxHeartbeats 4000000 in
theorem nar1_eq : flatC narrow_1_1 = (Cond.arrayOf (Term.arg (0 : Nat)) FieldType.int) :: nar1L := rfl
set_option maxRecDepth 1000000 in
set_option maxHeartbeats 4000000 in
theorem nar2_eq : flatC narrow_1_2 = (Cond.not (Cond.castable "java/lang/String" "PrinterHouse$Reading")) :: nar2L := rfl
set_option maxRecDepth 1000000 in
set_option maxHeartbeats 4000000 in
theorem nar3_eq : flatC narrow_1_3 = (Cond.eq (Term.elem (Term.field (Term.string "PrinterHouseModel" (511 : Nat)) "java/lang/String" "value" "[B") (Term.int (42 : Int32))) (Term.int (55 : Int32))) :: nar3L := rfl
theorem nar_all {args : Array Value} {s : State} (h : (Jvm.Cond.and given_1 narrow_1).before args s = true) : (∀ c ∈ nar1L, c.before args s = true) ∧ (∀ c ∈ nar2L, c.before args s = true) ∧ ((Cond.eq (Term.elem (Term.field (Term.string "PrinterHouseModel" (511 : Nat)) "java/lang/String" "value" "[B") (Term.int (42 : Int32))) (Term.int (55 : Int32)))).before args s = true ∧ (∀ c ∈ nar3L, c.before args s = true) := by
  rw [Cond.before_and, Bool.and_eq_true] at h
  have h2 : (Jvm.Cond.and narrow_1_1 (Jvm.Cond.and narrow_1_2 narrow_1_3)).before args s = true := h.2
  rw [Cond.before_and, Bool.and_eq_true, Cond.before_and, Bool.and_eq_true] at h2
  have f1 := flat_of_before _ h2.1
  have f2 := flat_of_before _ h2.2.1
  have f3 := flat_of_before _ h2.2.2
  rw [nar1_eq] at f1
  rw [nar2_eq] at f2
  rw [nar3_eq] at f3
  exact ⟨fun c hc => f1 c (List.mem_cons_of_mem _ hc), fun c hc => f2 c (List.mem_cons_of_mem _ hc), f3 _ List.mem_cons_self, fun c hc => f3 c (List.mem_cons_of_mem _ hc)⟩
theorem stW_of {args : Array Value} {s : State} {C n : String} {N : Nat} {vs : List Int32} {A : Nat → Prop} (hN : N < 2 ^ 31) (hl : vs.length = N) (h : ∀ c ∈ stW (.static C n "[I") N vs, c.before args s = true) (hA : ∀ a : Nat, a < s.heap.size → ¬ A a) (h1 : (Cond.laysStatic C n "[I").before args s = true) (h2 : (Cond.initialized C).before args s = true) : ∃ t : Nat, va_Z C n "[I" (.ref t) A s s.heap ∧ va_T .int t vs.length (fun j => .int (vs.getD j 0)) A s s.heap := by
  subst hl
  obtain ⟨t, ht, hT⟩ := va_Tof (tm := .static C n "[I") (ty := .int) (N := vs.length) (f := fun j => .int (vs.getD j 0)) (A := A) hN (h _ (List.mem_cons_of_mem _ List.mem_cons_self)) (va_eqt (h _ (List.mem_cons_of_mem _ (List.mem_cons_of_mem _ List.mem_cons_self)))) (fun j hj => elW_got (fun c hc => h c (List.mem_cons_of_mem _ (List.mem_cons_of_mem _ (List.mem_cons_of_mem _ hc)))) j hj) hA
  exact ⟨t, va_Zref h1 h2 ht hA, hT⟩
theorem st_at_0 {b : Nat} {s : State} (hts : ∀ w ∈ lw_tbl, w.before #[Value.ref b] s = true) (h : ∀ c ∈ nar1L, c.before #[Value.ref b] s = true) : ∃ t : Nat, va_Z "PrinterHouse" "FORMAT_WIDE" "[I" (.ref t) (fun q => s.heap.size ≤ q) s s.heap ∧ va_T .int t st_FORMAT_WIDE.length (fun j => .int (st_FORMAT_WIDE.getD j 0)) (fun q => s.heap.size ≤ q) s s.heap :=
  stW_of (N := 4) (by decide) rfl (fun c h1 => h c (by have h := h1; exact List.mem_append_right _ (List.mem_append_right _ (List.mem_append_right _ (List.mem_append_right _ (List.mem_append_left _ h)))))) (fun a h1 => Nat.not_le.mpr h1) (hts _ (inL mt_4 7 (by decide +kernel))) (hts _ (inL mt_1 1 (by decide +kernel)))
theorem st_at_1 {b : Nat} {s : State} (hts : ∀ w ∈ lw_tbl, w.before #[Value.ref b] s = true) (h : ∀ c ∈ nar1L, c.before #[Value.ref b] s = true) : ∃ t : Nat, va_Z "PrinterHouse" "FORMAT_HIGH" "[I" (.ref t) (fun q => s.heap.size ≤ q) s s.heap ∧ va_T .int t st_FORMAT_HIGH.length (fun j => .int (st_FORMAT_HIGH.getD j 0)) (fun q => s.heap.size ≤ q) s s.heap :=
  stW_of (N := 4) (by decide) rfl (fun c h1 => h c (by have h := h1; exact List.mem_append_right _ (List.mem_append_right _ (List.mem_append_right _ (List.mem_append_left _ h))))) (fun a h1 => Nat.not_le.mpr h1) (hts _ (inL mt_4 5 (by decide +kernel))) (hts _ (inL mt_1 1 (by decide +kernel)))
theorem st_at_2 {b : Nat} {s : State} (hts : ∀ w ∈ lw_tbl, w.before #[Value.ref b] s = true) (h : ∀ c ∈ nar1L, c.before #[Value.ref b] s = true) : ∃ t : Nat, va_Z "PrinterHouse" "RUN_BITS" "[I" (.ref t) (fun q => s.heap.size ≤ q) s s.heap ∧ va_T .int t st_RUN_BITS.length (fun j => .int (st_RUN_BITS.getD j 0)) (fun q => s.heap.size ≤ q) s s.heap :=
  stW_of (N := 148) (by decide) rfl (fun c h1 => h c (by have h := h1; exact List.mem_append_right _ (List.mem_append_right _ (List.mem_append_left _ h)))) (fun a h1 => Nat.not_le.mpr h1) (hts _ (inL mt_3 73 (by decide +kernel))) (hts _ (inL mt_1 1 (by decide +kernel)))
theorem st_at_3 {b : Nat} {s : State} (hts : ∀ w ∈ lw_tbl, w.before #[Value.ref b] s = true) (h : ∀ c ∈ nar1L, c.before #[Value.ref b] s = true) : ∃ t : Nat, va_Z "PrinterHouse" "RUN_CODES" "[I" (.ref t) (fun q => s.heap.size ≤ q) s s.heap ∧ va_T .int t st_RUN_CODES.length (fun j => .int (st_RUN_CODES.getD j 0)) (fun q => s.heap.size ≤ q) s s.heap :=
  stW_of (N := 148) (by decide) rfl (fun c h1 => h c (by have h := h1; exact List.mem_append_right _ (List.mem_append_left _ h))) (fun a h1 => Nat.not_le.mpr h1) (hts _ (inL mt_3 71 (by decide +kernel))) (hts _ (inL mt_1 1 (by decide +kernel)))
theorem st_at_4 {b : Nat} {s : State} (hts : ∀ w ∈ lw_tbl, w.before #[Value.ref b] s = true) (h : ∀ c ∈ nar1L, c.before #[Value.ref b] s = true) : ∃ t : Nat, va_Z "PrinterHouse" "NEAR_BITS" "[I" (.ref t) (fun q => s.heap.size ≤ q) s s.heap ∧ va_T .int t st_NEAR_BITS.length (fun j => .int (st_NEAR_BITS.getD j 0)) (fun q => s.heap.size ≤ q) s s.heap :=
  stW_of (N := 7) (by decide) rfl (fun c h1 => h c (by have h := h1; exact List.mem_append_right _ (List.mem_append_right _ (List.mem_append_right _ (List.mem_append_right _ (List.mem_append_right _ (List.mem_append_right _ (List.mem_append_left _ h)))))))) (fun a h1 => Nat.not_le.mpr h1) (hts _ (inL mt_4 225 (by decide +kernel))) (hts _ (inL mt_1 1 (by decide +kernel)))
theorem st_at_5 {b : Nat} {s : State} (hts : ∀ w ∈ lw_tbl, w.before #[Value.ref b] s = true) (h : ∀ c ∈ nar1L, c.before #[Value.ref b] s = true) : ∃ t : Nat, va_Z "PrinterHouse" "NEAR_CODES" "[I" (.ref t) (fun q => s.heap.size ≤ q) s s.heap ∧ va_T .int t st_NEAR_CODES.length (fun j => .int (st_NEAR_CODES.getD j 0)) (fun q => s.heap.size ≤ q) s s.heap :=
  stW_of (N := 7) (by decide) rfl (fun c h1 => h c (by have h := h1; exact List.mem_append_right _ (List.mem_append_right _ (List.mem_append_right _ (List.mem_append_right _ (List.mem_append_right _ (List.mem_append_left _ h))))))) (fun a h1 => Nat.not_le.mpr h1) (hts _ (inL mt_4 223 (by decide +kernel))) (hts _ (inL mt_1 1 (by decide +kernel)))
theorem st_at_6 {b : Nat} {s : State} (hts : ∀ w ∈ lw_tbl, w.before #[Value.ref b] s = true) (h : ∀ c ∈ nar1L, c.before #[Value.ref b] s = true) : ∃ t : Nat, va_Z "PrinterHouse$Tile" "SHADES" "[I" (.ref t) (fun q => s.heap.size ≤ q) s s.heap ∧ va_T .int t st_SHADES.length (fun j => .int (st_SHADES.getD j 0)) (fun q => s.heap.size ≤ q) s s.heap :=
  stW_of (N := 16) (by decide) rfl (fun c h1 => h c (by have h := h1; exact List.mem_append_right _ (List.mem_append_right _ (List.mem_append_right _ (List.mem_append_right _ (List.mem_append_right _ (List.mem_append_right _ (List.mem_append_right _ (List.mem_append_left _ h))))))))) (fun a h1 => Nat.not_le.mpr h1) (hts _ (inL mt_6 96 (by decide +kernel))) (hts _ (inL mt_1 5 (by decide +kernel)))
theorem arrA_of {args : Array Value} {s : State} {ty : FieldType} (hno : ∀ C, ty ≠ .object C) (h : (Cond.arrayClass ty).before args s = true) : ∃ cA : ClassId, ArrOfT s cA ty ∧ va_RA s cA ty := by
  obtain ⟨c, k, comp, h1, h2, h3⟩ := Cond.arrayClass_spec h
  refine ⟨c, fun n z => ⟨fun k h => (by cases h), k, h2, comp, h3⟩, ?_⟩
  cases ty with
  | object C => exact absurd rfl (hno C)
  | _ => exact h1
theorem arrO_of {args : Array Value} {s : State} {C : String} (h : (Cond.arrayOver (.object C)).before args s = true) : ∃ cA : ClassId, ArrOfT s cA (.object C) ∧ va_RA s cA (.object C) := by
  obtain ⟨comp, c, k, h1, h2, h3, h4, h5⟩ := Cond.arrayOver_spec h
  exact ⟨c, fun n z => ⟨fun k h => (by cases h), k, h3, comp, h4⟩, k, comp, h3, h4, h1, h5⟩
theorem arrM_of {args : Array Value} {s : State} {t : FieldType} (h : (Cond.arrayOver (.array t)).before args s = true) : ∃ cA : ClassId, ArrOfT s cA (.array t) ∧ va_RA s cA (.array t) := by
  obtain ⟨comp, c, k, h1, h2, h3, h4, h5⟩ := arrayOverA_spec h
  exact ⟨c, fun n z => ⟨fun k h => (by cases h), k, h3, comp, h4⟩, h5⟩
theorem cls_at {b : Nat} {s : State} (hts : ∀ w ∈ lw_tbl, w.before #[Value.ref b] s = true) : ∃ D : va_G, ∀ (c : Nat) (q : vw_C), vwCl[c]? = some q → u_Kn s q.1 q.2.1 q.2.2 (D.1 c) (D.2 c) := by
  have hT : ∀ w ∈ TBL, w.before #[Value.ref b] s = true := fun w hw => hts w (List.mem_filter.mp hw).1
  have h0 : ∀ c : Nat, ∃ d : ClassId × (Nat → Nat), ∀ q : vw_C, vwCl[c]? = some q → u_Kn s q.1 q.2.1 q.2.2 d.1 d.2 := by
    intro c
    match c with
    | 0 => obtain ⟨c, i, h⟩ := u_known (C := RX0) (T := TX0) (N := 15) (n := 15) hT cl_0.2.1 (hT _ knX0); exact ⟨(c, i), fun q hq => by cases hq; exact h⟩
    | 1 => obtain ⟨c, i, h⟩ := u_known (C := RX1) (T := TX1) (N := 21) (n := 21) hT cl_1.2.1 (hT _ knX1); exact ⟨(c, i), fun q hq => by cases hq; exact h⟩
    | 2 => obtain ⟨c, i, h⟩ := u_known (C := RX2) (T := TX2) (N := 10) (n := 10) hT cl_2.2.1 (hT _ knX2); exact ⟨(c, i), fun q hq => by cases hq; exact h⟩
    | 3 => obtain ⟨c, i, h⟩ := u_known (C := RX3) (T := TX3) (N := 21) (n := 21) hT cl_3.2.1 (hT _ knX3); exact ⟨(c, i), fun q hq => by cases hq; exact h⟩
    | 4 => obtain ⟨c, i, h⟩ := u_known (C := RX4) (T := TX4) (N := 8) (n := 8) hT cl_4.2.1 (hT _ knX4); exact ⟨(c, i), fun q hq => by cases hq; exact h⟩
    | 5 => obtain ⟨c, i, h⟩ := u_known (C := RX5) (T := TX5) (N := 13) (n := 13) hT cl_5.2.1 (hT _ knX5); exact ⟨(c, i), fun q hq => by cases hq; exact h⟩
    | 6 => obtain ⟨c, i, h⟩ := u_known (C := RX6) (T := TX6) (N := 10) (n := 10) hT cl_6.2.1 (hT _ knX6); exact ⟨(c, i), fun q hq => by cases hq; exact h⟩
    | 7 => obtain ⟨c, i, h⟩ := u_known (C := RX7) (T := TX7) (N := 13) (n := 13) hT cl_7.2.1 (hT _ knX7); exact ⟨(c, i), fun q hq => by cases hq; exact h⟩
    | 8 => obtain ⟨c, i, h⟩ := u_known (C := RX8) (T := TX8) (N := 1) (n := 1) hT cl_8.2.1 (hT _ knX8); exact ⟨(c, i), fun q hq => by cases hq; exact h⟩
    | 9 => obtain ⟨c, i, h⟩ := u_known (C := RX9) (T := TX9) (N := 19) (n := 19) hT cl_9.2.1 (hT _ knX9); exact ⟨(c, i), fun q hq => by cases hq; exact h⟩
    | 10 => obtain ⟨c, i, h⟩ := u_known (C := RX10) (T := TX10) (N := 4) (n := 4) hT cl_10.2.1 (hT _ knX10); exact ⟨(c, i), fun q hq => by cases hq; exact h⟩
    | 11 => obtain ⟨c, i, h⟩ := u_known (C := RX11) (T := TX11) (N := 12) (n := 12) hT cl_11.2.1 (hT _ knX11); exact ⟨(c, i), fun q hq => by cases hq; exact h⟩
    | 12 => obtain ⟨c, i, h⟩ := u_known (C := RX12) (T := TX12) (N := 80) (n := 80) hT cl_12.2.1 (hT _ knX12); exact ⟨(c, i), fun q hq => by cases hq; exact h⟩
    | k + 13 => exact ⟨(0, fun _ => 0), fun q hq => by simp [vwCl] at hq⟩
  obtain ⟨D, hD⟩ := Classical.axiomOfChoice h0
  exact ⟨(fun c => (D c).1, fun c => (D c).2), hD⟩
theorem ko_E : Cond.arrayOver (.object "PrinterHouse$Environment") ∈ lw_tbl := inL mt_2 189 (by decide +kernel)
theorem ko_R : Cond.arrayOver (.object "PrinterHouse$Reading") ∈ lw_tbl := inL mt_2 191 (by decide +kernel)
theorem ko_T : Cond.arrayOver (.object "PrinterHouse$Tile") ∈ lw_tbl := inL mt_1 230 (by decide +kernel)
theorem ko_M : Cond.arrayOver (.array .int) ∈ lw_tbl := inL mt_1 38 (by decide +kernel)
theorem arr_at {b : Nat} {s : State} (hts : ∀ w ∈ lw_tbl, w.before #[Value.ref b] s = true) : ∃ cy : Nat → ClassId, ∀ (k : Nat) (q : ClassId × FieldType), (TY cy)[k]? = some q → ArrOfT s q.1 q.2 ∧ va_RA s q.1 q.2 := by
  have hT : ∀ w ∈ TBL, w.before #[Value.ref b] s = true := fun w hw => hts w (List.mem_filter.mp hw).1
  obtain ⟨c0, h0⟩ := arrA_of (fun _ h => by cases h) (hT _ ka_byte)
  obtain ⟨c1, h1⟩ := arrA_of (fun _ h => by cases h) (hT _ ka_int)
  obtain ⟨c2, h2⟩ := arrA_of (fun _ h => by cases h) (hT _ ka_long)
  obtain ⟨c3, h3⟩ := arrA_of (fun _ h => by cases h) (hT _ ka_short)
  obtain ⟨c4, h4⟩ := arrA_of (fun _ h => by cases h) (hT _ ka_boolean)
  obtain ⟨c5, h5⟩ := arrO_of (hts _ ko_E)
  obtain ⟨c6, h6⟩ := arrO_of (hts _ ko_R)
  obtain ⟨c7, h7⟩ := arrO_of (hts _ ko_T)
  obtain ⟨c8, h8⟩ := arrM_of (hts _ ko_M)
  refine ⟨fun k => if k = 13 then c0 else if k = 14 then c1 else if k = 15 then c2 else if k = 16 then c3 else if k = 17 then c4 else if k = 18 then c5 else if k = 19 then c6 else if k = 20 then c7 else c8, fun k q hq => ?_⟩
  match k, hq with
  | 0, hq => cases hq; exact h0
  | 1, hq => cases hq; exact h1
  | 2, hq => cases hq; exact h2
  | 3, hq => cases hq; exact h3
  | 4, hq => cases hq; exact h4
  | 5, hq => cases hq; exact h5
  | 6, hq => cases hq; exact h6
  | 7, hq => cases hq; exact h7
  | 8, hq => cases hq; exact h8
  | k + 9, hq => simp at hq
set_option maxRecDepth 100000 in
set_option maxHeartbeats 4000000 in
theorem txt_at {b : Nat} {s : State} (h2 : ∀ c ∈ nar2L, c.before #[Value.ref b] s = true) (h0 : ((Cond.eq (Term.elem (Term.field (Term.string "PrinterHouseModel" (511 : Nat)) "java/lang/String" "value" "[B") (Term.int (42 : Int32))) (Term.int (55 : Int32)))).before #[Value.ref b] s = true) (h3 : ∀ c ∈ nar3L, c.before #[Value.ref b] s = true) : ∃ adK adV : Nat → Nat, vk_S 2 txLen txB adK adV (fun q => s.heap.size ≤ q) s s.heap ∧ ∀ i : Nat, i < 2 → (Term.string "PrinterHouseModel" (if i = 0 then 505 else 511)).eval #[Value.ref b] s none [] s = some (.ref (adK i)) := by
  have e0 : ∀ c ∈ txW (.string "PrinterHouseModel" 505) 349 tb_0, c.before #[Value.ref b] s = true := fun c h1 => h2 c (by have h := h1; exact List.mem_append_left _ h)
  have e1 : ∀ c ∈ txW (.string "PrinterHouseModel" 511) 413 (tb_1.take 42), c.before #[Value.ref b] s = true := fun c h1 => h2 c (by have h := h1; exact List.mem_append_right _ (h))
  have e2 : ∀ c ∈ elW (.field (.string "PrinterHouseModel" 511) "java/lang/String" "value" "[B") 0 tb_1, c.before #[Value.ref b] s = true := by
    rw [show tb_1 = tb_1.take 42 ++ (tb_1.getD 42 0 :: tb_1.drop 43) from rfl, elW_app]
    intro c hc
    rcases List.mem_append.mp hc with hc | hc
    · exact e1 c (List.mem_cons_of_mem _ (List.mem_cons_of_mem _ (List.mem_cons_of_mem _ (List.mem_cons_of_mem _ hc))))
    · rcases List.mem_cons.mp hc with rfl | hc
      · exact h0
      · exact h3 c (List.mem_append_left _ hc)
  refine vk_Sof (tm := fun i => .string "PrinterHouseModel" (if i = 0 then 505 else 511)) ?_ ?_ ?_ ?_ ?_ ?_ ?_ (fun a h1 => Nat.not_le.mpr h1)
  · decide
  · intro i hi
    rcases (show i = 0 ∨ i = 1 by omega) with rfl | rfl
    · exact e0 _ List.mem_cons_self
    · exact e1 _ List.mem_cons_self
  · intro i hi
    rcases (show i = 0 ∨ i = 1 by omega) with rfl | rfl
    · exact e0 _ (List.mem_cons_of_mem _ List.mem_cons_self)
    · exact e1 _ (List.mem_cons_of_mem _ List.mem_cons_self)
  · intro i hi
    rcases (show i = 0 ∨ i = 1 by omega) with rfl | rfl
    · exact e0 _ (List.mem_cons_of_mem _ (List.mem_cons_of_mem _ List.mem_cons_self))
    · exact e1 _ (List.mem_cons_of_mem _ (List.mem_cons_of_mem _ List.mem_cons_self))
  · intro i hi
    rcases (show i = 0 ∨ i = 1 by omega) with rfl | rfl
    · exact e0 _ (List.mem_cons_of_mem _ (List.mem_cons_of_mem _ (List.mem_cons_of_mem _ List.mem_cons_self)))
    · exact e1 _ (List.mem_cons_of_mem _ (List.mem_cons_of_mem _ (List.mem_cons_of_mem _ List.mem_cons_self)))
  · intro i hi j hj
    rcases (show i = 0 ∨ i = 1 by omega) with rfl | rfl
    · have h9 := e0 _ (List.mem_cons_of_mem _ (List.mem_cons_of_mem _ (List.mem_cons_of_mem _ (List.mem_cons_of_mem _ (elW_get tb_0 0 j hj)))))
      rw [Nat.zero_add] at h9
      exact h9
    · have h9 := e2 _ (elW_get tb_1 0 j hj)
      rw [Nat.zero_add] at h9
      exact h9
  · intro i j hi hj hij
    have h9 : (Cond.not (Cond.eq (.string "PrinterHouseModel" 505) (.string "PrinterHouseModel" 511))).before #[Value.ref b] s = true := h3 _ (List.mem_append_right _ List.mem_cons_self)
    rcases (show (i = 0 ∧ j = 1) ∨ (i = 1 ∧ j = 0) by omega) with ⟨rfl, rfl⟩ | ⟨rfl, rfl⟩
    · exact Or.inl h9
    · exact Or.inr h9
theorem gv_start {b : Nat} {s : State} (hts : ∀ w ∈ lw_tbl, w.before #[Value.ref b] s = true) (hgv : (Jvm.Cond.and given_1 narrow_1).before #[Value.ref b] s = true) : ∃ v : EV, GV v (fun q => s.heap.size ≤ q) s s.heap := by
  obtain ⟨n1, n2, n30, n3⟩ := nar_all hgv
  have hA : ∀ a : Nat, a < s.heap.size → ¬ (fun q : Nat => s.heap.size ≤ q) a := fun a h1 => Nat.not_le.mpr h1
  obtain ⟨D, hD⟩ := cls_at hts
  obtain ⟨cy, hcy⟩ := arr_at hts
  obtain ⟨adK, adV, hS, hK⟩ := txt_at n2 n30 n3
  obtain ⟨t0, z0, a0⟩ := st_at_0 hts n1
  obtain ⟨t1, z1, a1⟩ := st_at_1 hts n1
  obtain ⟨t2, z2, a2⟩ := st_at_2 hts n1
  obtain ⟨t3, z3, a3⟩ := st_at_3 hts n1
  obtain ⟨t4, z4, a4⟩ := st_at_4 hts n1
  obtain ⟨t5, z5, a5⟩ := st_at_5 hts n1
  obtain ⟨t6, z6, a6⟩ := st_at_6 hts n1
  have hst : ∃ ad : Nat → Nat, (∀ (i : Nat) (q : String × String × List Int32), stL[i]? = some q → va_Z q.1 q.2.1 "[I" (.ref (ad i)) (fun q => s.heap.size ≤ q) s s.heap ∧ va_T .int (ad i) q.2.2.length (fun j => .int (q.2.2.getD j 0)) (fun q => s.heap.size ≤ q) s s.heap) ∧ (∀ i, i < 2 → ad (20 + i) = adK i) ∧ (∀ i, i < 2 → ad (30 + i) = adV i) := by
    refine ⟨fun k => if k = 0 then t0 else if k = 1 then t1 else if k = 2 then t2 else if k = 3 then t3 else if k = 4 then t4 else if k = 5 then t5 else if k = 6 then t6 else if k < 30 then adK (k - 20) else adV (k - 30), fun i q hq => ?_, fun i hi => ?_, fun i hi => ?_⟩
    · match i, hq with
      | 0, hq => cases hq; exact ⟨z0, a0⟩
      | 1, hq => cases hq; exact ⟨z1, a1⟩
      | 2, hq => cases hq; exact ⟨z2, a2⟩
      | 3, hq => cases hq; exact ⟨z3, a3⟩
      | 4, hq => cases hq; exact ⟨z4, a4⟩
      | 5, hq => cases hq; exact ⟨z5, a5⟩
      | 6, hq => cases hq; exact ⟨z6, a6⟩
      | k + 7, hq => simp [stL] at hq
    · rcases (show i = 0 ∨ i = 1 by omega) with rfl | rfl <;> rfl
    · rcases (show i = 0 ∨ i = 1 by omega) with rfl | rfl <;> rfl
  obtain ⟨ad, hst, hk, hv⟩ := hst
  refine ⟨(D, cy, ad), ⟨hD, hcy⟩, fun w hw => ?_, hst, ?_⟩
  · exact va_tabs (List.all_eq_true.mp nst_tab w hw) rfl (hts w (List.mem_filter.mp hw).1)
  · refine ⟨va_Zof (hts _ (inL mt_7 237 (by decide +kernel))) (hts _ (inL mt_1 16 (by decide +kernel))) (va_eqi (n1 _ (List.mem_append_right _ (List.mem_append_right _ (List.mem_append_right _ (List.mem_append_right _ (List.mem_append_right _ (List.mem_append_right _ (List.mem_append_right _ (List.mem_append_right _ (List.mem_of_getElem? (i := 0) rfl))))))))))) hA, ⟨fun i hi => ?_, fun i j hi hj e => ?_⟩, ?_, ?_, va_AO.of (hts _ ko_E), va_AO.of (hts _ ko_R), va_AO.of (hts _ ko_T), ?_, va_Zqof (hts _ (inL mt_8 13 (by decide +kernel))) (hts _ (inL mt_1 18 (by decide +kernel))) (n1 _ (List.mem_append_right _ (List.mem_append_right _ (List.mem_append_right _ (List.mem_append_right _ (List.mem_append_right _ (List.mem_append_right _ (List.mem_append_right _ (List.mem_append_right _ (List.mem_of_getElem? (i := 1) rfl)))))))))) hA⟩
    · have h9 := hS.1 i hi
      rw [← hk i hi, ← hv i hi] at h9
      exact h9
    · refine hS.2 i j hi hj ?_
      rw [← hk i hi, ← hk j hj]
      exact e
    · exact vk_R.of (hts _ (inL mt_7 223 rfl)) (by have h9 := hK 0 (by decide); rw [← hk 0 (by decide)] at h9; exact h9)
    · exact vk_R.of (hts _ (inL mt_8 36 rfl)) (by have h9 := hK 1 (by decide); rw [← hk 1 (by decide)] at h9; exact h9)
    · exact hts _ ko_M
