/-! Static arrays and texts that nobody writes; 
-/
def st_FORMAT_WIDE : List Int32 := [200, 320, 480, 640]
def st_FORMAT_HIGH : List Int32 := [240, 400, 640, 800]
def st_RUN_BITS : List Int32 := [8, 6, 4, 4, 4, 4, 4, 4, 5, 5, 5, 5, 6, 6, 6, 6, 6, 6, 7, 7, 7, 7, 7, 7, 7, 7, 7, 7, 7, 8, 8, 8, 8, 8, 8, 8, 8, 8, 8, 8, 8, 8, 8, 8, 8, 8, 8, 8, 8, 8, 8, 8, 8, 8, 8, 8, 8, 8, 8, 8, 8, 8, 8, 8, 5, 5, 6, 7, 8, 8, 8, 8, 8, 8, 10, 3, 2, 2, 3, 4, 4, 5, 6, 6, 7, 7, 7, 8, 8, 9, 10, 10, 10, 11, 11, 11, 11, 11, 11, 11, 12, 12, 12, 12, 12, 12, 12, 12, 12, 12, 12, 12, 12, 12, 12, 12, 12, 12, 12, 12, 12, 12, 12, 12, 12, 12, 12, 12, 12, 12, 12, 12, 12, 12, 12, 12, 12, 12, 10, 12, 12, 12, 12, 12, 12, 13, 13, 13]
def st_RUN_CODES : List Int32 := [53, 7, 7, 8, 11, 12, 14, 15, 19, 20, 7, 8, 8, 3, 52, 53, 42, 43, 39, 12, 8, 23, 3, 4, 40, 43, 19, 36, 24, 2, 3, 26, 27, 18, 19, 20, 21, 22, 23, 40, 41, 42, 43, 44, 45, 4, 5, 10, 11, 82, 83, 84, 85, 36, 37, 88, 89, 90, 91, 74, 75, 50, 51, 52, 27, 18, 23, 55, 54, 55, 100, 101, 104, 103, 55, 2, 3, 2, 3, 3, 2, 3, 5, 4, 4, 5, 7, 4, 7, 24, 23, 24, 8, 103, 104, 108, 55, 40, 23, 24, 202, 203, 204, 205, 104, 105, 106, 107, 210, 211, 212, 213, 214, 215, 108, 109, 218, 219, 84, 85, 86, 87, 100, 101, 82, 83, 36, 55, 56, 39, 40, 88, 89, 43, 44, 90, 102, 103, 15, 200, 201, 91, 51, 52, 53, 108, 109, 74]
def st_NEAR_BITS : List Int32 := [7, 6, 3, 1, 3, 6, 7]
def st_NEAR_CODES : List Int32 := [2, 2, 2, 1, 3, 3, 3]
def st_SHADES : List Int32 := [0, 8, 2, 10, 12, 4, 14, 6, 3, 11, 1, 9, 15, 7, 13, 5]
def stL : List (String × String × List Int32) := [("PrinterHouse", "FORMAT_WIDE", st_FORMAT_WIDE), ("PrinterHouse", "FORMAT_HIGH", st_FORMAT_HIGH), ("PrinterHouse", "RUN_BITS", st_RUN_BITS), ("PrinterHouse", "RUN_CODES", st_RUN_CODES), ("PrinterHouse", "NEAR_BITS", st_NEAR_BITS), ("PrinterHouse", "NEAR_CODES", st_NEAR_CODES), ("PrinterHouse$Tile", "SHADES", st_SHADES)]
def tx_0 : String := "8:35 6:7 4:7 4:8 4:b 4:c 4:e 4:f 5:13 5:14 5:7 5:8 6:8 6:3 6:34 6:35 6:2a 6:2b 7:27 7:c 7:8 7:17 7:3 7:4 7:28 7:2b 7:13 7:24 7:18 8:2 8:3 8:1a 8:1b 8:12 8:13 8:14 8:15 8:16 8:17 8:28 8:29 8:2a 8:2b 8:2c 8:2d 8:4 8:5 8:a 8:b 8:52 8:53 8:54 8:55 8:24 8:25 8:58 8:59 8:5a 8:5b 8:4a 8:4b 8:32 8:33 8:34 5:1b 5:12 6:17 7:37 8:36 8:37 8:64 8:65 8:68 8:67 "
def tb_0 : List Int32 := [56, 58, 51, 53, 32, 54, 58, 55, 32, 52, 58, 55, 32, 52, 58, 56, 32, 52, 58, 98, 32, 52, 58, 99, 32, 52, 58, 101, 32, 52, 58, 102, 32, 53, 58, 49, 51, 32, 53, 58, 49, 52, 32, 53, 58, 55, 32, 53, 58, 56, 32, 54, 58, 56, 32, 54, 58, 51, 32, 54, 58, 51, 52, 32, 54, 58, 51, 53, 32, 54, 58, 50, 97, 32, 54, 58, 50, 98, 32, 55, 58, 50, 55, 32, 55, 58, 99, 32, 55, 58, 56, 32, 55, 58, 49, 55, 32, 55, 58, 51, 32, 55, 58, 52, 32, 55, 58, 50, 56, 32, 55, 58, 50, 98, 32, 55, 58, 49, 51, 32, 55, 58, 50, 52, 32, 55, 58, 49, 56, 32, 56, 58, 50, 32, 56, 58, 51, 32, 56, 58, 49, 97, 32, 56, 58, 49, 98, 32, 56, 58, 49, 50, 32, 56, 58, 49, 51, 32, 56, 58, 49, 52, 32, 56, 58, 49, 53, 32, 56, 58, 49, 54, 32, 56, 58, 49, 55, 32, 56, 58, 50, 56, 32, 56, 58, 50, 57, 32, 56, 58, 50, 97, 32, 56, 58, 50, 98, 32, 56, 58, 50, 99, 32, 56, 58, 50, 100, 32, 56, 58, 52, 32, 56, 58, 53, 32, 56, 58, 97, 32, 56, 58, 98, 32, 56, 58, 53, 50, 32, 56, 58, 53, 51, 32, 56, 58, 53, 52, 32, 56, 58, 53, 53, 32, 56, 58, 50, 52, 32, 56, 58, 50, 53, 32, 56, 58, 53, 56, 32, 56, 58, 53, 57, 32, 56, 58, 53, 97, 32, 56, 58, 53, 98, 32, 56, 58, 52, 97, 32, 56, 58, 52, 98, 32, 56, 58, 51, 50, 32, 56, 58, 51, 51, 32, 56, 58, 51, 52, 32, 53, 58, 49, 98, 32, 53, 58, 49, 50, 32, 54, 58, 49, 55, 32, 55, 58, 51, 55, 32, 56, 58, 51, 54, 32, 56, 58, 51, 55, 32, 56, 58, 54, 52, 32, 56, 58, 54, 53, 32, 56, 58, 54, 56, 32, 56, 58, 54, 55, 32]
def tx_1 : String := "10:37 3:2 2:3 2:2 3:3 4:3 4:2 5:3 6:5 6:4 7:4 7:5 7:7 8:4 8:7 9:18 10:17 10:18 10:8 11:67 11:68 11:6c 11:37 11:28 11:17 11:18 12:ca 12:cb 12:cc 12:cd 12:68 12:69 12:6a 12:6b 12:d2 12:d3 12:d4 12:d5 12:d6 12:d7 12:6c 12:6d 12:da 12:db 12:54 12:55 12:56 12:57 12:64 12:65 12:52 12:53 12:24 12:37 12:38 12:27 12:28 12:58 12:59 12:2b 12:2c 12:5a 12:66 12:67 10:f 12:c8 12:c9 12:5b 12:33 12:34 12:35 13:6c 13:6d 13:4a "
def tb_1 : List Int32 := [49, 48, 58, 51, 55, 32, 51, 58, 50, 32, 50, 58, 51, 32, 50, 58, 50, 32, 51, 58, 51, 32, 52, 58, 51, 32, 52, 58, 50, 32, 53, 58, 51, 32, 54, 58, 53, 32, 54, 58, 52, 32, 55, 58, 52, 32, 55, 58, 53, 32, 55, 58, 55, 32, 56, 58, 52, 32, 56, 58, 55, 32, 57, 58, 49, 56, 32, 49, 48, 58, 49, 55, 32, 49, 48, 58, 49, 56, 32, 49, 48, 58, 56, 32, 49, 49, 58, 54, 55, 32, 49, 49, 58, 54, 56, 32, 49, 49, 58, 54, 99, 32, 49, 49, 58, 51, 55, 32, 49, 49, 58, 50, 56, 32, 49, 49, 58, 49, 55, 32, 49, 49, 58, 49, 56, 32, 49, 50, 58, 99, 97, 32, 49, 50, 58, 99, 98, 32, 49, 50, 58, 99, 99, 32, 49, 50, 58, 99, 100, 32, 49, 50, 58, 54, 56, 32, 49, 50, 58, 54, 57, 32, 49, 50, 58, 54, 97, 32, 49, 50, 58, 54, 98, 32, 49, 50, 58, 100, 50, 32, 49, 50, 58, 100, 51, 32, 49, 50, 58, 100, 52, 32, 49, 50, 58, 100, 53, 32, 49, 50, 58, 100, 54, 32, 49, 50, 58, 100, 55, 32, 49, 50, 58, 54, 99, 32, 49, 50, 58, 54, 100, 32, 49, 50, 58, 100, 97, 32, 49, 50, 58, 100, 98, 32, 49, 50, 58, 53, 52, 32, 49, 50, 58, 53, 53, 32, 49, 50, 58, 53, 54, 32, 49, 50, 58, 53, 55, 32, 49, 50, 58, 54, 52, 32, 49, 50, 58, 54, 53, 32, 49, 50, 58, 53, 50, 32, 49, 50, 58, 53, 51, 32, 49, 50, 58, 50, 52, 32, 49, 50, 58, 51, 55, 32, 49, 50, 58, 51, 56, 32, 49, 50, 58, 50, 55, 32, 49, 50, 58, 50, 56, 32, 49, 50, 58, 53, 56, 32, 49, 50, 58, 53, 57, 32, 49, 50, 58, 50, 98, 32, 49, 50, 58, 50, 99, 32, 49, 50, 58, 53, 97, 32, 49, 50, 58, 54, 54, 32, 49, 50, 58, 54, 55, 32, 49, 48, 58, 102, 32, 49, 50, 58, 99, 56, 32, 49, 50, 58, 99, 57, 32, 49, 50, 58, 53, 98, 32, 49, 50, 58, 51, 51, 32, 49, 50, 58, 51, 52, 32, 49, 50, 58, 51, 53, 32, 49, 51, 58, 54, 99, 32, 49, 51, 58, 54, 100, 32, 49, 51, 58, 52, 97, 32]
def txLen : List Nat := [349, 413]
def txB : List (List Int32) := [tb_0, tb_1]
abbrev EV : Type := va_G × (Nat → ClassId) × (Nat → Nat)
theorem va_AOA.moved {t : FieldType} {u U : State} (hvm : u.vm.Alike U.vm) (h : va_AOA t u) : va_AOA t U := by
  obtain ⟨comp, c, k, h1, h2, h3, h4, h5⟩ := arrayOverA_spec h
  obtain ⟨k', hk', he⟩ := hvm.2.2 _ _ h3
  have b1 := va_idx_bare U.vm comp
  rw [hvm.bare_eq] at b1
  have hi := (b1.symm.trans (va_idx_bare u.vm comp)).trans h2
  have hkind : k'.kind = .array comp (.array t) := by rw [he]; exact h4
  have f1 : U.vm.findClass (FieldType.array t).toString = some comp := by rw [hvm.findClass]; exact h1
  have f2 : U.vm.findClass ("[" ++ (FieldType.array t).toString) = some c := by rw [hvm.findClass]; exact h5
  unfold va_AOA Cond.before Cond.holds
  simp only [Cond.value]
  rw [f1, Option.bind_some]
  refine (congrArg (fun o : Option Nat => (o.bind (fun c => (U.vm.classes[c]?).map fun (k : Class) => match k.kind with | .array _ ty => decide (ty = FieldType.array t) && decide (U.vm.findClass ("[" ++ (FieldType.array t).toString) = some c) | _ => false) == some true)) hi).trans ?_
  simp [hk', hkind, f2]
/-- the texts of the reference, and the JDK's own switch -/
def GXs (v : EV) (A : Nat → Prop) (U : State) (H : Heap) : Prop := va_Z "java/lang/String" "COMPACT_STRINGS" "Z" (.int 1) A U H ∧ vk_S 2 txLen txB (fun i => v.2.2 (20 + i)) (fun i => v.2.2 (30 + i)) A U H ∧ vk_R RX12 505 tx_0 (v.2.2 20) U ∧ vk_R RX12 511 tx_1 (v.2.2 21) U ∧ va_AO "PrinterHouse$Environment" U ∧ va_AO "PrinterHouse$Reading" U ∧ va_AO "PrinterHouse$Tile" U ∧ va_AOA .int U ∧ va_Zq "jdk/internal/util/Preconditions" "SIOOBE_FORMATTER" "Ljava/util/function/BiFunction;" A U H
theorem GXs.call {v : EV} {A B : Nat → Prop} {s U : State} {H : Heap} {locs : List Loc} (h : GXs v A s s.heap) (hS : va_S A s.heap H locs) (hW : s.WarmedH U.vm) (hAB : ∀ q, B q → A q) : GXs v B U H := by
  obtain ⟨h1, h2, r0, r1, o1, o2, o3, o4, zq⟩ := h
  exact ⟨((h1.kept hS.2.1).moved hW.alike).narrow hAB, ((h2.kept hS.2.1).moved hW.alike).narrow hAB, r0.warm hW, r1.warm hW, o1.moved hW.alike, o2.moved hW.alike, o3.moved hW.alike, o4.moved hW.alike, ((zq.kept hS.2.1).moved hW.alike).narrow hAB⟩
theorem GXs.blind {v : EV} {A : Nat → Prop} {U : State} {g : JFrame} {mk : MethodId} {a : Array Value} (h : GXs v A U U.heap) : GXs v A (U.calling g mk a) (U.calling g mk a).heap := by
  obtain ⟨h1, h2, r0, r1, o1, o2, o3, o4, zq⟩ := h
  exact ⟨h1.moved (U := U.calling g mk a) (Vm.Alike.refl U.vm), h2.moved (U := U.calling g mk a) (Vm.Alike.refl U.vm), r0.same rfl, r1.same rfl, o1.moved (U := U.calling g mk a) (Vm.Alike.refl U.vm), o2.moved (U := U.calling g mk a) (Vm.Alike.refl U.vm), o3.moved (U := U.calling g mk a) (Vm.Alike.refl U.vm), o4.moved (U := U.calling g mk a) (Vm.Alike.refl U.vm), zq.moved (U := U.calling g mk a) (Vm.Alike.refl U.vm)⟩
/-! The judgement J: W over the pool, for any heap that holds it; contracts Ct; the rows of the machine over J. -/
abbrev TY (cy : Nat → ClassId) : List (ClassId × FieldType) := [(cy 13, .byte), (cy 14, .int), (cy 15, .long), (cy 16, .short), (cy 17, .boolean), (cy 18, .object "PrinterHouse$Environment"), (cy 19, .object "PrinterHouse$Reading"), (cy 20, .object "PrinterHouse$Tile"), (cy 21, .array .int)]
/-- what holds of the launch at any method's start: classes, nest mates' words, static arrays, texts -/
def GV (v : EV) (A : Nat → Prop) (U : State) (H : Heap) : Prop :=
  va_K v.1 vwCl (TY v.2.1) U ∧ (∀ w ∈ NST, va_Nw w U) ∧ (∀ (i : Nat) (q : String × String × List Int32), stL[i]? = some q → va_Z q.1 q.2.1 "[I" (.ref (v.2.2 i)) A U H ∧ va_T .int (v.2.2 i) q.2.2.length (fun j => .int (q.2.2.getD j 0)) A U H) ∧ GXs v A U H
theorem va_Nw.nst {w : Cond} (h : w ∈ NST) {s U : State} (hW : s.WarmedH U.vm) (hZ : va_Nw w s) : va_Nw w U := by
  have h1 := (List.mem_filter.mp h).2
  cases w <;> first | exact va_Nw.warmF hW hZ | exact va_Nw.warmM hW hZ | (exact absurd h1 (by simp [isNest]))
theorem GV.call {v : EV} {A B : Nat → Prop} {s U : State} {H : Heap} {locs : List Loc} (h : GV v A s s.heap) (hS : va_S A s.heap H locs) (hU : U.heap = H) (hW : s.WarmedH U.vm) (hAB : ∀ q, B q → A q) : GV v B U U.heap := by
  rw [hU]
  have hq : ∀ a : Nat, a < s.heap.size → ¬ A a → H[a]? = s.heap[a]? := hS.2.1
  refine ⟨va_K.moved hW.alike h.1, fun w hw => va_Nw.nst hw hW (h.2.1 w hw), fun i q hi => ?_, h.2.2.2.call hS hW hAB⟩
  obtain ⟨h1, h2⟩ := h.2.2.1 i q hi
  exact ⟨((h1.kept hq).moved hW.alike).narrow hAB, ((h2.kept hq).moved hW.alike).narrow hAB⟩
theorem GV.blind {v : EV} {A : Nat → Prop} {U : State} {g : JFrame} {mk : MethodId} {a : Array Value} (h : GV v A U U.heap) : GV v A (U.calling g mk a) (U.calling g mk a).heap := by
  have e : (U.calling g mk a).vm = U.vm := rfl
  refine ⟨va_K.moved (u := U) (U := U.calling g mk a) (Vm.Alike.refl U.vm) h.1, fun w hw => va_tabs (List.all_eq_true.mp nst_tab w hw) e.symm (h.2.1 w hw), fun i q hi => ?_, h.2.2.2.blind⟩
  obtain ⟨h1, h2⟩ := h.2.2.1 i q hi
  exact ⟨h1.moved (U := U.calling g mk a) (Vm.Alike.refl U.vm), h2.moved (U := U.calling g mk a) (Vm.Alike.refl U.vm)⟩
/-- a method's start and end -/
def PW (v : EV) (sz : Nat) (S : Hp) (U : State) : Prop := U.heap.size = sz ∧ va_P v.1 vwCl (pl v.2.1 S) U.heap ∧ va_D (fun _ => True) (pl v.2.1 S) ∧ GV v (fun q => q ∈ hL S ∨ sz ≤ q) U U.heap
def QW (v : EV) (sz : Nat) (S : Hp) (Q : Option Value → Hp → Prop) : Array Value → State → Outcome → State → Prop := fun _ st oc t => (∃ (r : Option Value) (S' : Hp), oc = .returned r ∧ Q r S' ∧ va_P v.1 vwCl (pl v.2.1 S') t.heap ∧ va_D (fun q => q ∈ hL S ∨ sz ≤ q) (pl v.2.1 S')) ∧ va_F (fun q => q ∈ hL S ∨ sz ≤ q) st t
abbrev rmD (d k n : Nat) : Room := { frames := d, cells := k, slots := n, locals := 40 * d }
/-- a contract: from the pool S, y returns r with the pool S', 'Q r S'' -/
def Ct (d : Nat) (y : MethodName) (cc : ByteArray) (maxL : Nat) (ret : Option FieldType) (k n : Nat) (As : List Value) (S : Hp) (Q : Option Value → Hp → Prop) : Prop :=
  ∀ (l : Launch) (v : EV) (sz : Nat), Met l y (Cond.code y cc maxL ret :: TBL) (rmD d k n) (va_Pc As (PW v sz S)) (QW v sz S Q) k n (fun q => q ∈ hL S ∨ sz ≤ q)
def CtA (v : EV) (d : Nat) (y : MethodName) (cc : ByteArray) (maxL : Nat) (ret : Option FieldType) (k n : Nat) (As : List Value) (S : Hp) (Q : Option Value → Hp → Prop) : Prop :=
  ∀ (l : Launch) (sz : Nat), Met l y (Cond.code y cc maxL ret :: TBL) (rmD d k n) (va_Pc As (PW v sz S)) (QW v sz S Q) k n (fun q => q ∈ hL S ∨ sz ≤ q)
theorem Ct.at {d : Nat} {y : MethodName} {cc : ByteArray} {maxL : Nat} {ret : Option FieldType} {k n : Nat} {As : List Value} {S : Hp} {Q : Option Value → Hp → Prop} (h : Ct d y cc maxL ret k n As S Q) (v : EV) : CtA v d y cc maxL ret k n As S Q := fun l sz => h l v sz
abbrev JX : Type := Program × Launch × Env × Room × State × MethodId × (Array Value) × (List Frame) × Method × Code × EV × (Nat → Prop) × Nat × (State → Prop)
abbrev x_p (x : JX) : Program := x.1
abbrev x_l (x : JX) : Launch := x.2.1
abbrev x_e (x : JX) : Env := x.2.2.1
abbrev x_R (x : JX) : Room := x.2.2.2.1
abbrev x_s (x : JX) : State := x.2.2.2.2.1
abbrev x_m (x : JX) : MethodId := x.2.2.2.2.2.1
abbrev x_a (x : JX) : Array Value := x.2.2.2.2.2.2.1
abbrev x_b (x : JX) : List Frame := x.2.2.2.2.2.2.2.1
abbrev x_meth (x : JX) : Method := x.2.2.2.2.2.2.2.2.1
abbrev x_c (x : JX) : Code := x.2.2.2.2.2.2.2.2.2.1
abbrev x_v (x : JX) : EV := x.2.2.2.2.2.2.2.2.2.2.1
abbrev x_A (x : JX) : Nat → Prop := x.2.2.2.2.2.2.2.2.2.2.2.1
abbrev x_n (x : JX) : Nat := x.2.2.2.2.2.2.2.2.2.2.2.2.1
abbrev x_Q (x : JX) : State → Prop := x.2.2.2.2.2.2.2.2.2.2.2.2.2
abbrev jW (x : JX) (H : Heap) (locs : List Loc) (k n : Nat) (g : JFrame) : Prop := W (x_p x) (x_l x) (x_e x) (x_R x) (x_s x) (x_m x) (x_a x) (x_b x) (x_meth x) (x_c x) H locs k n (x_Q x) g
def J (x : JX) (k n : Nat) (S : Hp) (lv : List (Nat × Value)) (pc : Nat) (st : List Value) : Prop :=
  ∀ (H : Heap) (locs : List Loc) (ls : Array Slot), va_P (x_v x).1 vwCl (pl (x_v x).2.1 S) H → va_D (x_A x) (pl (x_v x).2.1 S) → va_S (x_A x) (x_s x).heap H locs → lv_has ls (x_n x) lv → jW x H locs k n (F0 (x_m x) pc ls st)
/-- what holds throughout a method's body -/
def CB (x : JX) (own : String) (cc : ByteArray) : Prop :=
  (x_p x).tables.exec = Jvm.exec ∧ (x_c x).code = cc ∧ (x_c x).maxLocals = x_n x ∧ (x_s x).vm.findClass own = some (x_m x).cls ∧ (∀ w ∈ TBL, w.before (x_a x) (x_s x) = true) ∧ (∀ q, (x_s x).heap.size ≤ q → x_A x q) ∧ GV (x_v x) (x_A x) (x_s x) (x_s x).heap
/-- and of its end -/
def CM (x : JX) (d k n : Nat) (ret : Option FieldType) (S : Hp) (Q : Option Value → Hp → Prop) : Prop :=
  x_R x = rmD d k n ∧ x_A x = (fun q => q ∈ hL S ∨ (x_s x).heap.size ≤ q) ∧ x_Q x = MQ (x_b x) (QW (x_v x) (x_s x).heap.size S Q) (x_a x) (x_s x) k n (x_A x) ∧ (x_meth x).sig.returnType = ret ∧ (x_meth x).locks = false
theorem ct_ofA {v : EV} {d : Nat} {y : MethodName} {cc : ByteArray} {maxL : Nat} {ret : Option FieldType} {k n : Nat} {As : List Value} {S : Hp} {Q : Option Value → Hp → Prop} (hy : plainName y.cls = true) (hlen : (lg_sl As).length ≤ maxL)
    (body : ∀ x : JX, x_v x = v → x_n x = maxL → CB x y.cls cc → CM x d k n ret S Q → (x_meth x).name = y.name → J x 0 0 S (lv_args 0 As) 0 []) : CtA v d y cc maxL ret k n As S Q := by
  intro l sz
  refine Met.ofW (cc := cc) (maxL := maxL) (ret := ret) hy rfl ?_
  intro p e s m args below meth c s₁ B hml hv
  obtain ⟨rfl, rfl, hP, hD0, hG⟩ := hv
  have hts := atoms_spec (ws := Cond.code y cc maxL ret :: TBL) B.pre
  have K := body (p, l, e, rmD d k n, s, m, As.toArray, below, meth, c, v, (fun q => q ∈ hL S ∨ s.heap.size ≤ q), maxL, MQ below (QW v s.heap.size S Q) As.toArray s k n (fun q => q ∈ hL S ∨ s.heap.size ≤ q)) rfl rfl ⟨B.exec, B.bytes, hml, findClass_of_methodNamed B.named, fun w h => hts w (List.mem_cons_of_mem _ h), fun q h => Or.inr h, hG⟩ ⟨rfl, rfl, rfl, B.returns, B.notSynchronized⟩ (name_of_methodNamed B.named B.method).1
  have hl := lv_entry As (n := maxL) hlen
  rw [lg_entry_eq]
  refine K s.heap [] _ hP ⟨hD0.1, fun k q hk => ?_⟩ va_S.rf hl
  have := List.mem_of_getElem? hk
  unfold pl va_pl at this
  obtain ⟨a, ha, rfl⟩ := List.mem_map.mp this
  exact Or.inl ha
theorem ct_of {d : Nat} {y : MethodName} {cc : ByteArray} {maxL : Nat} {ret : Option FieldType} {k n : Nat} {As : List Value} {S : Hp} {Q : Option Value → Hp → Prop} (hy : plainName y.cls = true) (hlen : (lg_sl As).length ≤ maxL)
    (body : ∀ x : JX, x_n x = maxL → CB x y.cls cc → CM x d k n ret S Q → (x_meth x).name = y.name → J x 0 0 S (lv_args 0 As) 0 []) : Ct d y cc maxL ret k n As S Q := fun l v sz => ct_ofA hy hlen (fun x _ => body x) l sz
section JR
variable {x : JX} {own : String} {cc : ByteArray} {k n pc tgt : Nat} {S : Hp} {lv : List (Nat × Value)} {st : List Value}
theorem J.eq {S' : Hp} {lv' : List (Nat × Value)} {st' : List Value} (h1 : S = S') (h2 : lv = lv') (h3 : st = st') (K : J x k n S' lv' pc st') : J x k n S lv pc st := by subst h1; subst h2; subst h3; exact K
theorem J.widen {k' n' : Nat} (h1 : k ≤ k') (h2 : n ≤ n') (K : J x k' n' S lv pc st) : J x k n S lv pc st := fun H locs ls hP hD hS hl => W.widen h1 h2 (K H locs ls hP hD hS hl)
theorem J.sub (ks : List Nat) {lv' : List (Nat × Value)} (h : lv_pick lv ks = lv') (K : J x k n S lv' pc st) : J x k n S lv pc st := fun H locs ls hP hD hS hl => K H locs ls hP hD hS (lv_sub hl ks h)
theorem J.nodup (K : (hL S).Nodup → J x k n S lv pc st) : J x k n S lv pc st := fun H locs ls hP hD hS hl => by
  refine K ?_ H locs ls hP hD hS hl
  refine List.pairwise_iff_getElem.mpr fun i j hi hj hij h3 => ?_
  have g1 : (pl (x_v x).2.1 S)[i]? = some ((hL S)[i], pf (x_v x).2.1 S (hL S)[i]) := by simp [pl, va_pl, hi]
  have g2 : (pl (x_v x).2.1 S)[j]? = some ((hL S)[j], pf (x_v x).2.1 S (hL S)[j]) := by simp [pl, va_pl, hj]
  exact absurd (hD.1 i j _ _ g1 g2 h3) (Nat.ne_of_lt hij)
theorem j_topi {a : Int32} (K : ∀ y : Int32, y = a → J x k n S lv pc (.int y :: st)) : J x k n S lv pc (.int a :: st) := K a rfl
theorem j_topl {a : Int64} (K : ∀ y : Int64, y = a → J x k n S lv pc (.long y :: st)) : J x k n S lv pc (.long a :: st) := K a rfl
theorem j_heap {P : Hp → Prop} (h : P S) (K : ∀ S' : Hp, P S' → J x k n S' lv pc st) : J x k n S lv pc st := K S h

theorem j_iconst (C : CB x own cc) {v : Int32} {i : Int} (d : decode cc pc = .ok (.iconst i, 1)) (hv : Int32.ofInt i = v) (K : J x k n S lv (pc + 1) (.int v :: st)) : J x k n S lv pc (st) := fun H locs ls hP hD hS hl => lv_iconst C.1 C.2.1 d hv (K H locs ls hP hD hS hl)
theorem j_bipush (C : CB x own cc) {v : Int32} {i : Int} (d : decode cc pc = .ok (.bipush i, 2)) (hv : (Int8.ofInt i).toInt32 = v) (K : J x k n S lv (pc + 2) (.int v :: st)) : J x k n S lv pc (st) := fun H locs ls hP hD hS hl => lv_bipush C.1 C.2.1 d hv (K H locs ls hP hD hS hl)
theorem j_sipush (C : CB x own cc) {v : Int32} {i : Int} (d : decode cc pc = .ok (.sipush i, 3)) (hv : (Int16.ofInt i).toInt32 = v) (K : J x k n S lv (pc + 3) (.int v :: st)) : J x k n S lv pc (st) := fun H locs ls hP hD hS hl => lv_sipush C.1 C.2.1 d hv (K H locs ls hP hD hS hl)
theorem j_lconst (C : CB x own cc) {v : Int64} {i : Fin 2} (d : decode cc pc = .ok (.lconst i, 1)) (hv : Int64.ofNat (i : Nat) = v) (K : J x k n S lv (pc + 1) (.long v :: st)) : J x k n S lv pc (st) := fun H locs ls hP hD hS hl => lv_lconst C.1 C.2.1 d hv (K H locs ls hP hD hS hl)
theorem j_iload_n (C : CB x own cc) {i : Nat} {f : Fin 4} {a : Int32} (d : decode cc pc = .ok (.iload_n f, 1)) (hf : (f : Nat) = i) (q : Nat) (h : lv[q]? = some (i, .int a)) (K : J x k n S lv (pc + 1) (.int a :: st)) : J x k n S lv pc (st) := fun H locs ls hP hD hS hl => lv_iload_n C.1 C.2.1 d hf (lv_at hl q h) (K H locs ls hP hD hS hl)
theorem j_iload (C : CB x own cc) {i : Nat} {a : Int32} (d : decode cc pc = .ok (.iload i, 2)) (q : Nat) (h : lv[q]? = some (i, .int a)) (K : J x k n S lv (pc + 2) (.int a :: st)) : J x k n S lv pc (st) := fun H locs ls hP hD hS hl => lv_iload C.1 C.2.1 d (lv_at hl q h) (K H locs ls hP hD hS hl)
theorem j_lload_n (C : CB x own cc) {i : Nat} {f : Fin 4} {a : Int64} (d : decode cc pc = .ok (.lload_n f, 1)) (hf : (f : Nat) = i) (q : Nat) (h : lv[q]? = some (i, .long a)) (K : J x k n S lv (pc + 1) (.long a :: st)) : J x k n S lv pc (st) := fun H locs ls hP hD hS hl => lv_lload_n C.1 C.2.1 d hf (lv_at hl q h) (K H locs ls hP hD hS hl)
theorem j_lload (C : CB x own cc) {i : Nat} {a : Int64} (d : decode cc pc = .ok (.lload i, 2)) (q : Nat) (h : lv[q]? = some (i, .long a)) (K : J x k n S lv (pc + 2) (.long a :: st)) : J x k n S lv pc (st) := fun H locs ls hP hD hS hl => lv_lload C.1 C.2.1 d (lv_at hl q h) (K H locs ls hP hD hS hl)
theorem j_aload_n (C : CB x own cc) {i a : Nat} {f : Fin 4} (d : decode cc pc = .ok (.aload_n f, 1)) (hf : (f : Nat) = i) (q : Nat) (h : lv[q]? = some (i, .ref a)) (K : J x k n S lv (pc + 1) (.ref a :: st)) : J x k n S lv pc (st) := fun H locs ls hP hD hS hl => lv_aload_n C.1 C.2.1 d hf (lv_at hl q h) (K H locs ls hP hD hS hl)
theorem j_aload (C : CB x own cc) {i a : Nat} (d : decode cc pc = .ok (.aload i, 2)) (q : Nat) (h : lv[q]? = some (i, .ref a)) (K : J x k n S lv (pc + 2) (.ref a :: st)) : J x k n S lv pc (st) := fun H locs ls hP hD hS hl => lv_aload C.1 C.2.1 d (lv_at hl q h) (K H locs ls hP hD hS hl)
theorem j_istore_n (C : CB x own cc) {i : Nat} {f : Fin 4} {a : Int32} {lv' : List (Nat × Value)} (d : decode cc pc = .ok (.istore_n f, 1)) (hf : (f : Nat) = i) (hn : i < x_n x) (hl' : (i, Value.int a) :: lv.filter (fun q => !(q.1 == i) && !(q.1 + 1 == i && q.2.category == 2)) = lv') (K : J x k n S lv' (pc + 1) st) : J x k n S lv pc (.int a :: st) := fun H locs ls hP hD hS hl => lv_istore_n C.1 C.2.1 d hf hl hn hl' (fun ls1 hl1 => K H locs ls1 hP hD hS hl1)
theorem j_istore (C : CB x own cc) {i : Nat} {a : Int32} {lv' : List (Nat × Value)} (d : decode cc pc = .ok (.istore i, 2)) (hn : i < x_n x) (hl' : (i, Value.int a) :: lv.filter (fun q => !(q.1 == i) && !(q.1 + 1 == i && q.2.category == 2)) = lv') (K : J x k n S lv' (pc + 2) st) : J x k n S lv pc (.int a :: st) := fun H locs ls hP hD hS hl => lv_istore C.1 C.2.1 d hl hn hl' (fun ls1 hl1 => K H locs ls1 hP hD hS hl1)
theorem j_lstore_n (C : CB x own cc) {i : Nat} {f : Fin 4} {a : Int64} {lv' : List (Nat × Value)} (d : decode cc pc = .ok (.lstore_n f, 1)) (hf : (f : Nat) = i) (hn : i + 1 < x_n x) (hl' : (i, Value.long a) :: lv.filter (fun q => !(q.1 == i) && (!(q.1 == i + 1) && !(q.1 + 1 == i && q.2.category == 2))) = lv') (K : J x k n S lv' (pc + 1) st) : J x k n S lv pc (.long a :: st) := fun H locs ls hP hD hS hl => lv_lstore_n C.1 C.2.1 d hf hl hn hl' (fun ls1 hl1 => K H locs ls1 hP hD hS hl1)
theorem j_lstore (C : CB x own cc) {i : Nat} {a : Int64} {lv' : List (Nat × Value)} (d : decode cc pc = .ok (.lstore i, 2)) (hn : i + 1 < x_n x) (hl' : (i, Value.long a) :: lv.filter (fun q => !(q.1 == i) && (!(q.1 == i + 1) && !(q.1 + 1 == i && q.2.category == 2))) = lv') (K : J x k n S lv' (pc + 2) st) : J x k n S lv pc (.long a :: st) := fun H locs ls hP hD hS hl => lv_lstore C.1 C.2.1 d hl hn hl' (fun ls1 hl1 => K H locs ls1 hP hD hS hl1)
theorem j_astore_n (C : CB x own cc) {i : Nat} {f : Fin 4} {a : Nat} {lv' : List (Nat × Value)} (d : decode cc pc = .ok (.astore_n f, 1)) (hf : (f : Nat) = i) (hn : i < x_n x) (hl' : (i, Value.ref a) :: lv.filter (fun q => !(q.1 == i) && !(q.1 + 1 == i && q.2.category == 2)) = lv') (K : J x k n S lv' (pc + 1) st) : J x k n S lv pc (.ref a :: st) := fun H locs ls hP hD hS hl => lv_astore_n C.1 C.2.1 d hf hl hn hl' (fun ls1 hl1 => K H locs ls1 hP hD hS hl1)
theorem j_astore (C : CB x own cc) {i : Nat} {a : Nat} {lv' : List (Nat × Value)} (d : decode cc pc = .ok (.astore i, 2)) (hn : i < x_n x) (hl' : (i, Value.ref a) :: lv.filter (fun q => !(q.1 == i) && !(q.1 + 1 == i && q.2.category == 2)) = lv') (K : J x k n S lv' (pc + 2) st) : J x k n S lv pc (.ref a :: st) := fun H locs ls hP hD hS hl => lv_astore C.1 C.2.1 d hl hn hl' (fun ls1 hl1 => K H locs ls1 hP hD hS hl1)
theorem j_iinc (C : CB x own cc) {i q : Nat} {c : Int} {a v : Int32} {lv' : List (Nat × Value)} (d : decode cc pc = .ok (.iinc i c, 3)) (h : lv[q]? = some (i, .int a)) (hv : a + Int32.ofInt c = v) (hn : i < x_n x) (hl' : (i, Value.int v) :: lv.filter (fun q => !(q.1 == i) && !(q.1 + 1 == i && q.2.category == 2)) = lv') (K : J x k n S lv' (pc + 3) st) : J x k n S lv pc st := fun H locs ls hP hD hS hl => lv_iinc C.1 C.2.1 d hl h hv hn hl' (fun ls1 hl1 => K H locs ls1 hP hD hS hl1)
theorem j_iadd (C : CB x own cc) {a b v : Int32} (d : decode cc pc = .ok (.iadd, 1)) (hv : a + b = v) (K : J x k n S lv (pc + 1) (.int v :: st)) : J x k n S lv pc (.int b :: .int a :: st) := fun H locs ls hP hD hS hl => by subst hv; exact lv_iadd C.1 C.2.1 d (K H locs ls hP hD hS hl)
theorem j_isub (C : CB x own cc) {a b v : Int32} (d : decode cc pc = .ok (.isub, 1)) (hv : a - b = v) (K : J x k n S lv (pc + 1) (.int v :: st)) : J x k n S lv pc (.int b :: .int a :: st) := fun H locs ls hP hD hS hl => by subst hv; exact lv_isub C.1 C.2.1 d (K H locs ls hP hD hS hl)
theorem j_imul (C : CB x own cc) {a b v : Int32} (d : decode cc pc = .ok (.imul, 1)) (hv : a * b = v) (K : J x k n S lv (pc + 1) (.int v :: st)) : J x k n S lv pc (.int b :: .int a :: st) := fun H locs ls hP hD hS hl => by subst hv; exact lv_imul C.1 C.2.1 d (K H locs ls hP hD hS hl)
theorem j_iand (C : CB x own cc) {a b v : Int32} (d : decode cc pc = .ok (.iand, 1)) (hv : a &&& b = v) (K : J x k n S lv (pc + 1) (.int v :: st)) : J x k n S lv pc (.int b :: .int a :: st) := fun H locs ls hP hD hS hl => by subst hv; exact lv_iand C.1 C.2.1 d (K H locs ls hP hD hS hl)
theorem j_ior (C : CB x own cc) {a b v : Int32} (d : decode cc pc = .ok (.ior, 1)) (hv : a ||| b = v) (K : J x k n S lv (pc + 1) (.int v :: st)) : J x k n S lv pc (.int b :: .int a :: st) := fun H locs ls hP hD hS hl => by subst hv; exact lv_ior C.1 C.2.1 d (K H locs ls hP hD hS hl)
theorem j_ixor (C : CB x own cc) {a b v : Int32} (d : decode cc pc = .ok (.ixor, 1)) (hv : a ^^^ b = v) (K : J x k n S lv (pc + 1) (.int v :: st)) : J x k n S lv pc (.int b :: .int a :: st) := fun H locs ls hP hD hS hl => by subst hv; exact lv_ixor C.1 C.2.1 d (K H locs ls hP hD hS hl)
theorem j_ishl (C : CB x own cc) {a b v : Int32} (d : decode cc pc = .ok (.ishl, 1)) (hv : a <<< (b &&& 31) = v) (K : J x k n S lv (pc + 1) (.int v :: st)) : J x k n S lv pc (.int b :: .int a :: st) := fun H locs ls hP hD hS hl => by subst hv; exact lv_ishl C.1 C.2.1 d (K H locs ls hP hD hS hl)
theorem j_ishr (C : CB x own cc) {a b v : Int32} (d : decode cc pc = .ok (.ishr, 1)) (hv : a >>> (b &&& 31) = v) (K : J x k n S lv (pc + 1) (.int v :: st)) : J x k n S lv pc (.int b :: .int a :: st) := fun H locs ls hP hD hS hl => by subst hv; exact lv_ishr C.1 C.2.1 d (K H locs ls hP hD hS hl)
theorem j_iushr (C : CB x own cc) {a b v : Int32} (d : decode cc pc = .ok (.iushr, 1)) (hv : (a.toUInt32 >>> (b.toUInt32 &&& Int32.toUInt32 31)).toInt32 = v) (K : J x k n S lv (pc + 1) (.int v :: st)) : J x k n S lv pc (.int b :: .int a :: st) := fun H locs ls hP hD hS hl => lv_iushr C.1 C.2.1 d hv (K H locs ls hP hD hS hl)
theorem j_idiv (C : CB x own cc) {a b v : Int32} (d : decode cc pc = .ok (.idiv, 1)) (h : ¬ b = 0) (hv : a / b = v) (K : J x k n S lv (pc + 1) (.int v :: st)) : J x k n S lv pc (.int b :: .int a :: st) := fun H locs ls hP hD hS hl => by subst hv; exact lv_idiv C.1 C.2.1 d h (K H locs ls hP hD hS hl)
theorem j_irem (C : CB x own cc) {a b v : Int32} (d : decode cc pc = .ok (.irem, 1)) (h : ¬ b = 0) (hv : a - a / b * b = v) (K : J x k n S lv (pc + 1) (.int v :: st)) : J x k n S lv pc (.int b :: .int a :: st) := fun H locs ls hP hD hS hl => by subst hv; exact lv_irem C.1 C.2.1 d h (K H locs ls hP hD hS hl)
theorem j_ineg (C : CB x own cc) {a v : Int32} (d : decode cc pc = .ok (.ineg, 1)) (hv : -a = v) (K : J x k n S lv (pc + 1) (.int v :: st)) : J x k n S lv pc (.int a :: st) := fun H locs ls hP hD hS hl => by subst hv; exact lv_ineg C.1 C.2.1 d (K H locs ls hP hD hS hl)
theorem j_ladd (C : CB x own cc) {a b v : Int64} (d : decode cc pc = .ok (.ladd, 1)) (hv : a + b = v) (K : J x k n S lv (pc + 1) (.long v :: st)) : J x k n S lv pc (.long b :: .long a :: st) := fun H locs ls hP hD hS hl => by subst hv; exact lv_ladd C.1 C.2.1 d (K H locs ls hP hD hS hl)
theorem j_lsub (C : CB x own cc) {a b v : Int64} (d : decode cc pc = .ok (.lsub, 1)) (hv : a - b = v) (K : J x k n S lv (pc + 1) (.long v :: st)) : J x k n S lv pc (.long b :: .long a :: st) := fun H locs ls hP hD hS hl => by subst hv; exact lv_lsub C.1 C.2.1 d (K H locs ls hP hD hS hl)
theorem j_lmul (C : CB x own cc) {a b v : Int64} (d : decode cc pc = .ok (.lmul, 1)) (hv : a * b = v) (K : J x k n S lv (pc + 1) (.long v :: st)) : J x k n S lv pc (.long b :: .long a :: st) := fun H locs ls hP hD hS hl => by subst hv; exact lv_lmul C.1 C.2.1 d (K H locs ls hP hD hS hl)
theorem j_land (C : CB x own cc) {a b v : Int64} (d : decode cc pc = .ok (.land, 1)) (hv : a &&& b = v) (K : J x k n S lv (pc + 1) (.long v :: st)) : J x k n S lv pc (.long b :: .long a :: st) := fun H locs ls hP hD hS hl => by subst hv; exact lv_land C.1 C.2.1 d (K H locs ls hP hD hS hl)
theorem j_lor (C : CB x own cc) {a b v : Int64} (d : decode cc pc = .ok (.lor, 1)) (hv : a ||| b = v) (K : J x k n S lv (pc + 1) (.long v :: st)) : J x k n S lv pc (.long b :: .long a :: st) := fun H locs ls hP hD hS hl => by subst hv; exact lv_lor C.1 C.2.1 d (K H locs ls hP hD hS hl)
theorem j_ldiv (C : CB x own cc) {a b v : Int64} (d : decode cc pc = .ok (.ldiv, 1)) (h : ¬ b = 0) (hv : a / b = v) (K : J x k n S lv (pc + 1) (.long v :: st)) : J x k n S lv pc (.long b :: .long a :: st) := fun H locs ls hP hD hS hl => by subst hv; exact lv_ldiv C.1 C.2.1 d h (K H locs ls hP hD hS hl)
theorem j_lrem (C : CB x own cc) {a b v : Int64} (d : decode cc pc = .ok (.lrem, 1)) (h : ¬ b = 0) (hv : a - a / b * b = v) (K : J x k n S lv (pc + 1) (.long v :: st)) : J x k n S lv pc (.long b :: .long a :: st) := fun H locs ls hP hD hS hl => by subst hv; exact lv_lrem C.1 C.2.1 d h (K H locs ls hP hD hS hl)
theorem j_lneg (C : CB x own cc) {a v : Int64} (d : decode cc pc = .ok (.lneg, 1)) (hv : -a = v) (K : J x k n S lv (pc + 1) (.long v :: st)) : J x k n S lv pc (.long a :: st) := fun H locs ls hP hD hS hl => by subst hv; exact lv_lneg C.1 C.2.1 d (K H locs ls hP hD hS hl)
theorem j_lshl (C : CB x own cc) {a v : Int64} {b : Int32} (d : decode cc pc = .ok (.lshl, 1)) (hv : a <<< (b.toInt64 &&& 63) = v) (K : J x k n S lv (pc + 1) (.long v :: st)) : J x k n S lv pc (.int b :: .long a :: st) := fun H locs ls hP hD hS hl => lv_lshl C.1 C.2.1 d hv (K H locs ls hP hD hS hl)
theorem j_lshr (C : CB x own cc) {a v : Int64} {b : Int32} (d : decode cc pc = .ok (.lshr, 1)) (hv : a >>> (b.toInt64 &&& 63) = v) (K : J x k n S lv (pc + 1) (.long v :: st)) : J x k n S lv pc (.int b :: .long a :: st) := fun H locs ls hP hD hS hl => lv_lshr C.1 C.2.1 d hv (K H locs ls hP hD hS hl)
theorem j_lushr (C : CB x own cc) {a v : Int64} {b : Int32} (d : decode cc pc = .ok (.lushr, 1)) (hv : (a.toUInt64 >>> (b.toInt64.toUInt64 &&& Int64.toUInt64 63)).toInt64 = v) (K : J x k n S lv (pc + 1) (.long v :: st)) : J x k n S lv pc (.int b :: .long a :: st) := fun H locs ls hP hD hS hl => lv_lushr C.1 C.2.1 d hv (K H locs ls hP hD hS hl)
theorem j_lcmp (C : CB x own cc) {a b : Int64} (d : decode cc pc = .ok (.lcmp, 1)) (K : J x k n S lv (pc + 1) (.int (lg_cmp a b) :: st)) : J x k n S lv pc (.long b :: .long a :: st) := fun H locs ls hP hD hS hl => W.lcmp C.1 C.2.1 d (K H locs ls hP hD hS hl)
theorem j_i2l (C : CB x own cc) {a : Int32} {v : Int64} (d : decode cc pc = .ok (.i2l, 1)) (hv : a.toInt64 = v) (K : J x k n S lv (pc + 1) (.long v :: st)) : J x k n S lv pc (.int a :: st) := fun H locs ls hP hD hS hl => lv_i2l C.1 C.2.1 d hv (K H locs ls hP hD hS hl)
theorem j_l2i (C : CB x own cc) {a : Int64} {v : Int32} (d : decode cc pc = .ok (.l2i, 1)) (hv : a.toInt32 = v) (K : J x k n S lv (pc + 1) (.int v :: st)) : J x k n S lv pc (.long a :: st) := fun H locs ls hP hD hS hl => lv_l2i C.1 C.2.1 d hv (K H locs ls hP hD hS hl)
theorem j_i2b (C : CB x own cc) {a : Int32} {v : Int32} (d : decode cc pc = .ok (.i2b, 1)) (hv : a.toInt8.toInt32 = v) (K : J x k n S lv (pc + 1) (.int v :: st)) : J x k n S lv pc (.int a :: st) := fun H locs ls hP hD hS hl => lv_i2b C.1 C.2.1 d hv (K H locs ls hP hD hS hl)
theorem j_i2s (C : CB x own cc) {a : Int32} {v : Int32} (d : decode cc pc = .ok (.i2s, 1)) (hv : a.toInt16.toInt32 = v) (K : J x k n S lv (pc + 1) (.int v :: st)) : J x k n S lv pc (.int a :: st) := fun H locs ls hP hD hS hl => lv_i2s C.1 C.2.1 d hv (K H locs ls hP hD hS hl)
theorem j_dup (C : CB x own cc) {a : Value} (d : decode cc pc = .ok (.dup, 1)) (h : a.category = 1) (K : J x k n S lv (pc + 1) (a :: a :: st)) : J x k n S lv pc (a :: st) := fun H locs ls hP hD hS hl => lv_dup C.1 C.2.1 d h (K H locs ls hP hD hS hl)
theorem j_pop (C : CB x own cc) {a : Value} (d : decode cc pc = .ok (.pop, 1)) (h : a.category = 1) (K : J x k n S lv (pc + 1) st) : J x k n S lv pc (a :: st) := fun H locs ls hP hD hS hl => lv_pop C.1 C.2.1 d h (K H locs ls hP hD hS hl)
theorem j_dup2 (C : CB x own cc) {a b : Value} (d : decode cc pc = .ok (.dup2, 1)) (h : a.category = 1) (h2 : b.category = 1) (K : J x k n S lv (pc + 1) (a :: b :: a :: b :: st)) : J x k n S lv pc (a :: b :: st) := fun H locs ls hP hD hS hl => lv_dup2_11 C.1 C.2.1 d h h2 (K H locs ls hP hD hS hl)
theorem j_dup2l (C : CB x own cc) {a : Value} (d : decode cc pc = .ok (.dup2, 1)) (h : a.category = 2) (K : J x k n S lv (pc + 1) (a :: a :: st)) : J x k n S lv pc (a :: st) := fun H locs ls hP hD hS hl => lv_dup2_2 C.1 C.2.1 d h (K H locs ls hP hD hS hl)
theorem j_goto (C : CB x own cc) {off : Int} (d : decode cc pc = .ok (.goto off, 3)) (ht : (pc : Int) + off = (tgt : Int)) (K : J x k n S lv tgt st) : J x k n S lv pc (st) := fun H locs ls hP hD hS hl => lv_goto C.1 C.2.1 d ht (K H locs ls hP hD hS hl)
theorem j_if_eq (C : CB x own cc) {a : Int32} {off : Int} (d : decode cc pc = .ok (.ifCond .eq off, 3)) (ht : (pc : Int) + off = (tgt : Int)) (Kt : a = 0 → J x k n S lv tgt st) (Kf : ¬ a = 0 → J x k n S lv (pc + 3) st) : J x k n S lv pc (.int a :: st) := fun H locs ls hP hD hS hl => lv_if_eq C.1 C.2.1 d ht (fun h => Kt h H locs ls hP hD hS hl) (fun h => Kf h H locs ls hP hD hS hl)
theorem j_ic_eq (C : CB x own cc) {a b : Int32} {off : Int} (d : decode cc pc = .ok (.if_icmp .eq off, 3)) (ht : (pc : Int) + off = (tgt : Int)) (Kt : a = b → J x k n S lv tgt st) (Kf : ¬ a = b → J x k n S lv (pc + 3) st) : J x k n S lv pc (.int b :: .int a :: st) := fun H locs ls hP hD hS hl => lv_icmp_eq C.1 C.2.1 d ht (fun h => Kt h H locs ls hP hD hS hl) (fun h => Kf h H locs ls hP hD hS hl)
theorem j_if_ne (C : CB x own cc) {a : Int32} {off : Int} (d : decode cc pc = .ok (.ifCond .ne off, 3)) (ht : (pc : Int) + off = (tgt : Int)) (Kt : ¬ a = 0 → J x k n S lv tgt st) (Kf : a = 0 → J x k n S lv (pc + 3) st) : J x k n S lv pc (.int a :: st) := fun H locs ls hP hD hS hl => lv_if_ne C.1 C.2.1 d ht (fun h => Kt h H locs ls hP hD hS hl) (fun h => Kf h H locs ls hP hD hS hl)
theorem j_ic_ne (C : CB x own cc) {a b : Int32} {off : Int} (d : decode cc pc = .ok (.if_icmp .ne off, 3)) (ht : (pc : Int) + off = (tgt : Int)) (Kt : ¬ a = b → J x k n S lv tgt st) (Kf : a = b → J x k n S lv (pc + 3) st) : J x k n S lv pc (.int b :: .int a :: st) := fun H locs ls hP hD hS hl => lv_icmp_ne C.1 C.2.1 d ht (fun h => Kt h H locs ls hP hD hS hl) (fun h => Kf h H locs ls hP hD hS hl)
theorem j_if_lt (C : CB x own cc) {a : Int32} {off : Int} (d : decode cc pc = .ok (.ifCond .lt off, 3)) (ht : (pc : Int) + off = (tgt : Int)) (Kt : a < 0 → J x k n S lv tgt st) (Kf : ¬ a < 0 → J x k n S lv (pc + 3) st) : J x k n S lv pc (.int a :: st) := fun H locs ls hP hD hS hl => lv_if_lt C.1 C.2.1 d ht (fun h => Kt h H locs ls hP hD hS hl) (fun h => Kf h H locs ls hP hD hS hl)
theorem j_ic_lt (C : CB x own cc) {a b : Int32} {off : Int} (d : decode cc pc = .ok (.if_icmp .lt off, 3)) (ht : (pc : Int) + off = (tgt : Int)) (Kt : a < b → J x k n S lv tgt st) (Kf : ¬ a < b → J x k n S lv (pc + 3) st) : J x k n S lv pc (.int b :: .int a :: st) := fun H locs ls hP hD hS hl => lv_icmp_lt C.1 C.2.1 d ht (fun h => Kt h H locs ls hP hD hS hl) (fun h => Kf h H locs ls hP hD hS hl)
theorem j_if_ge (C : CB x own cc) {a : Int32} {off : Int} (d : decode cc pc = .ok (.ifCond .ge off, 3)) (ht : (pc : Int) + off = (tgt : Int)) (Kt : 0 ≤ a → J x k n S lv tgt st) (Kf : ¬ 0 ≤ a → J x k n S lv (pc + 3) st) : J x k n S lv pc (.int a :: st) := fun H locs ls hP hD hS hl => lv_if_ge C.1 C.2.1 d ht (fun h => Kt h H locs ls hP hD hS hl) (fun h => Kf h H locs ls hP hD hS hl)
theorem j_ic_ge (C : CB x own cc) {a b : Int32} {off : Int} (d : decode cc pc = .ok (.if_icmp .ge off, 3)) (ht : (pc : Int) + off = (tgt : Int)) (Kt : b ≤ a → J x k n S lv tgt st) (Kf : ¬ b ≤ a → J x k n S lv (pc + 3) st) : J x k n S lv pc (.int b :: .int a :: st) := fun H locs ls hP hD hS hl => lv_icmp_ge C.1 C.2.1 d ht (fun h => Kt h H locs ls hP hD hS hl) (fun h => Kf h H locs ls hP hD hS hl)
theorem j_if_gt (C : CB x own cc) {a : Int32} {off : Int} (d : decode cc pc = .ok (.ifCond .gt off, 3)) (ht : (pc : Int) + off = (tgt : Int)) (Kt : 0 < a → J x k n S lv tgt st) (Kf : ¬ 0 < a → J x k n S lv (pc + 3) st) : J x k n S lv pc (.int a :: st) := fun H locs ls hP hD hS hl => lv_if_gt C.1 C.2.1 d ht (fun h => Kt h H locs ls hP hD hS hl) (fun h => Kf h H locs ls hP hD hS hl)
theorem j_ic_gt (C : CB x own cc) {a b : Int32} {off : Int} (d : decode cc pc = .ok (.if_icmp .gt off, 3)) (ht : (pc : Int) + off = (tgt : Int)) (Kt : b < a → J x k n S lv tgt st) (Kf : ¬ b < a → J x k n S lv (pc + 3) st) : J x k n S lv pc (.int b :: .int a :: st) := fun H locs ls hP hD hS hl => lv_icmp_gt C.1 C.2.1 d ht (fun h => Kt h H locs ls hP hD hS hl) (fun h => Kf h H locs ls hP hD hS hl)
theorem j_if_le (C : CB x own cc) {a : Int32} {off : Int} (d : decode cc pc = .ok (.ifCond .le off, 3)) (ht : (pc : Int) + off = (tgt : Int)) (Kt : a ≤ 0 → J x k n S lv tgt st) (Kf : ¬ a ≤ 0 → J x k n S lv (pc + 3) st) : J x k n S lv pc (.int a :: st) := fun H locs ls hP hD hS hl => lv_if_le C.1 C.2.1 d ht (fun h => Kt h H locs ls hP hD hS hl) (fun h => Kf h H locs ls hP hD hS hl)
theorem j_ic_le (C : CB x own cc) {a b : Int32} {off : Int} (d : decode cc pc = .ok (.if_icmp .le off, 3)) (ht : (pc : Int) + off = (tgt : Int)) (Kt : a ≤ b → J x k n S lv tgt st) (Kf : ¬ a ≤ b → J x k n S lv (pc + 3) st) : J x k n S lv pc (.int b :: .int a :: st) := fun H locs ls hP hD hS hl => lv_icmp_le C.1 C.2.1 d ht (fun h => Kt h H locs ls hP hD hS hl) (fun h => Kf h H locs ls hP hD hS hl)
theorem j_ifnonnull (C : CB x own cc) {a : Nat} {off : Int} (d : decode cc pc = .ok (.ifnonnull off, 3)) (ht : (pc : Int) + off = (tgt : Int)) (K : J x k n S lv tgt st) : J x k n S lv pc (.ref a :: st) := fun H locs ls hP hD hS hl => lv_ifnonnull C.1 C.2.1 d ht (K H locs ls hP hD hS hl)
theorem j_ifnull (C : CB x own cc) {a : Nat} {off : Int} (d : decode cc pc = .ok (.ifnull off, 3)) (K : J x k n S lv (pc + 3) st) : J x k n S lv pc (.ref a :: st) := fun H locs ls hP hD hS hl => lv_ifnull C.1 C.2.1 d (K H locs ls hP hD hS hl)
theorem j_ldc (C : CB x own cc) {v : Int32} {i : Nat} (d : decode cc pc = .ok (.ldc i, 2)) (h : Cond.constant own i v ∈ TBL) (K : J x k n S lv (pc + 2) (.int v :: st)) : J x k n S lv pc (st) := fun H locs ls hP hD hS hl => lv_ldc C.1 C.2.1 C.2.2.2.1 (C.2.2.2.2.1 _ h) d (K H locs ls hP hD hS hl)
theorem j_ldcw (C : CB x own cc) {v : Int32} {i : Nat} (d : decode cc pc = .ok (.ldc_w i, 3)) (h : Cond.constant own i v ∈ TBL) (K : J x k n S lv (pc + 3) (.int v :: st)) : J x k n S lv pc (st) := fun H locs ls hP hD hS hl => lv_ldcw C.1 C.2.1 C.2.2.2.1 (C.2.2.2.2.1 _ h) d (K H locs ls hP hD hS hl)
theorem j_ldc2 (C : CB x own cc) {v : Int64} {i : Nat} (d : decode cc pc = .ok (.ldc2_w i, 3)) (h : Cond.constantLong own i v ∈ TBL) (K : J x k n S lv (pc + 3) (.long v :: st)) : J x k n S lv pc (st) := fun H locs ls hP hD hS hl => lv_ldc2 C.1 C.2.1 C.2.2.2.1 (C.2.2.2.2.1 _ h) d (K H locs ls hP hD hS hl)
theorem j_tabIn (C : CB x own cc) {a : Int32} {df lo hi off : Int} {offs : Array Int} {len : Nat} (d : decode cc pc = .ok (.tableswitch df lo hi offs, len)) (h1 : ¬ a.toInt < lo) (h2 : ¬ hi < a.toInt) (ho : offs[(a.toInt - lo).toNat]? = some off) (ht : (pc : Int) + off = (tgt : Int)) (K : J x k n S lv tgt st) : J x k n S lv pc (.int a :: st) := fun H locs ls hP hD hS hl => lv_tableIn C.1 C.2.1 d h1 h2 ho ht (K H locs ls hP hD hS hl)
theorem j_tabOut (C : CB x own cc) {a : Int32} {df lo hi : Int} {offs : Array Int} {len : Nat} (d : decode cc pc = .ok (.tableswitch df lo hi offs, len)) (h : a.toInt < lo ∨ hi < a.toInt) (ht : (pc : Int) + df = (tgt : Int)) (K : J x k n S lv tgt st) : J x k n S lv pc (.int a :: st) := fun H locs ls hP hD hS hl => lv_tableOut C.1 C.2.1 d h ht (K H locs ls hP hD hS hl)
theorem cl_all (ci : Nat) (r : vw_C) (h : vwCl[ci]? = some r) : r.2.2 = fn ci ∧ ci < 13 ∧ (∀ w ∈ u_ws r.1 r.2.1 r.2.2, w ∈ TBL) ∧ (∀ a, a < r.2.2 → ∀ b, b < r.2.2 → a ≠ b → (r.2.1 a).2.1 ≠ (r.2.1 b).2.1) ∧ ∀ s, s < r.2.2 → (r.2.1 s).1 = r.1 ∧ parseFieldDescriptor (r.2.1 s).2.2.1 = some (fty ci s) := by
  have h13 : ci < 13 := by
    have := (List.getElem?_eq_some_iff.mp h).1
    simpa [vwCl] using this
  have e := cl_ok ci r h
  exact ⟨e.1, h13, e.2.1, e.2.2.1, e.2.2.2⟩
theorem fv_in {ci s : Nat} (h : s < fn ci) {S : Hp} {a : Nat} {cy : Nat → ClassId} (hL' : a ∈ hL S) (hK' : hK S a = ci) (hc : ci < 13) : ∃ q : Nat, (pl cy S)[q]? = some (a, .inr (ci, fvl S a ci)) ∧ (pl cy S)[q]? = some (a, pf cy S a) ∧ (fvl S a ci)[s]? = some (fv S a ci s) := by
  obtain ⟨q, hq⟩ := pl_get (cy := cy) hL'
  exact ⟨q, by rw [hq, pf_obj hK' hc], hq, fvl_get S a ci h⟩
theorem j_getv (C : CB x own cc) {ci s idx a : Nat} {v : Value} (F : FL own idx ci s) (d : decode cc pc = .ok (.getfield idx, 3)) (hL' : a ∈ hL S) (hK' : hK S a = ci) (hv : fv S a ci s = v) (K : J x k n S lv (pc + 3) (v :: st)) : J x k n S lv pc (.ref a :: st) := fun H locs ls hP hD hS hl => by
  obtain ⟨r, hr, hs, F⟩ := F
  obtain ⟨e, h13, hin, hnm, hcl⟩ := cl_all ci r hr
  obtain ⟨q, hq, -, hf⟩ := fv_in (cy := (x_v x).2.1) (e ▸ hs) hL' hK' h13
  rw [hv] at hf
  have hsame : ∀ z, (x_s x).fieldFound? (r.2.1 s).1 (r.2.1 s).2.1 (r.2.1 s).2.2.1 = some z → (x_s x).fieldFound? r.1 (r.2.1 s).2.1 (r.2.1 s).2.2.1 = some z := fun z hz => by rw [← (hcl s hs).1]; exact hz
  rcases F with F | ⟨host, F⟩
  · exact va_get C.1 C.2.1 (Ts := TBL) C.2.2.2.2.1 hin C.2.2.2.1 C.2.2.2.2.2.2.1 hP q hq hr s hs (C.2.2.2.2.1 _ F) hsame hf d (K H locs ls hP hD hS hl)
  · exact va_getN C.1 C.2.1 (Ts := TBL) C.2.2.2.2.1 hin C.2.2.2.1 C.2.2.2.2.2.2.1 hP q hq hr s hs (va_Nw.use rfl (C.2.2.2.2.2.2.2.1 _ F)) hsame hf d (K H locs ls hP hD hS hl)
theorem j_geti (C : CB x own cc) {f ci s idx a : Nat} {v : Int32} (F : FL own idx ci s) (d : decode cc pc = .ok (.getfield idx, 3)) (hL' : a ∈ hL S) (hK' : hK S a = ci) (ht1 : fc ci s ≠ 1) (ht2 : fc ci s ≠ 2) (hf : 100 * ci + s = f) (hv : hI S f a = v) (K : J x k n S lv (pc + 3) (.int v :: st)) : J x k n S lv pc (.ref a :: st) := j_getv C F d hL' hK' (by subst hf; simp [fv, ht1, ht2, hv]) K
theorem j_getl (C : CB x own cc) {f ci s idx a : Nat} {v : Int64} (F : FL own idx ci s) (d : decode cc pc = .ok (.getfield idx, 3)) (hL' : a ∈ hL S) (hK' : hK S a = ci) (ht1 : fc ci s = 1) (hf : 100 * ci + s = f) (hv : hJ S f a = v) (K : J x k n S lv (pc + 3) (.long v :: st)) : J x k n S lv pc (.ref a :: st) := j_getv C F d hL' hK' (by subst hf; simp [fv, ht1, hv]) K
theorem j_getr (C : CB x own cc) {f ci s idx a v : Nat} (F : FL own idx ci s) (d : decode cc pc = .ok (.getfield idx, 3)) (hL' : a ∈ hL S) (hK' : hK S a = ci) (ht1 : fc ci s = 2) (hf : 100 * ci + s = f) (hv : hR S f a = some v) (K : J x k n S lv (pc + 3) (.ref v :: st)) : J x k n S lv pc (.ref a :: st) := j_getv C F d hL' hK' (by subst hf; simp [fv, ht1, hv, va_rf]) K
theorem j_putv (C : CB x own cc) {ci s idx a : Nat} {v : Value} {S' : Hp} (F : FL own idx ci s) (hfin : ∀ r : vw_C, vwCl[ci]? = some r → (r.2.1 s).2.2.2 = false) (d : decode cc pc = .ok (.putfield idx, 3)) (hL' : a ∈ hL S) (hK' : hK S a = ci) (hn : narrow (fty ci s) v = v) (hfit : fits (fty ci s) v = true) (hLs : hL S' = hL S) (hpf : ∀ (cy : Nat → ClassId) (b : Nat), va_up (pf cy S) a (.inr (ci, (fvl S a ci).set s v)) b = pf cy S' b) (K : J x k n S' lv (pc + 3) st) : J x k n S lv pc (v :: .ref a :: st) := fun H locs ls hP hD hS hl => by
  obtain ⟨r, hr, hs, F⟩ := F
  obtain ⟨e, h13, hin, hnm, hcl⟩ := cl_all ci r hr
  obtain ⟨q, hq, hq2, hf⟩ := fv_in (cy := (x_v x).2.1) (e ▸ hs) hL' hK' h13
  have hsame : ∀ z, (x_s x).fieldFound? (r.2.1 s).1 (r.2.1 s).2.1 (r.2.1 s).2.2.1 = some z → (x_s x).fieldFound? r.1 (r.2.1 s).2.1 (r.2.1 s).2.2.1 = some z := fun z hz => by rw [← (hcl s hs).1]; exact hz
  have hset := pl_set (e := .inr (ci, (fvl S a ci).set s v)) hD hL' hq2 hLs (hpf _)
  have hlen : s < (fvl S a ci).length := by rw [fvl_len, ← e]; exact hs
  rcases F with F | ⟨host, F⟩
  · refine va_put C.1 C.2.1 (Ts := TBL) C.2.2.2.2.1 hin (fty ci) (fun j hj => (hcl j hj).2) hnm C.2.2.2.1 C.2.2.2.2.2.2.1 hP hD hS q hq hr s hs (C.2.2.2.2.1 _ F) hsame (hfin r hr) (hcl s hs).2 hn hfit hlen d (fun H1 locs1 hP1 hD1 hS1 => ?_)
    rw [hset] at hP1 hD1
    exact K H1 locs1 ls hP1 hD1 hS1 hl
  · refine va_putN C.1 C.2.1 (Ts := TBL) C.2.2.2.2.1 hin (fty ci) (fun j hj => (hcl j hj).2) hnm C.2.2.2.1 C.2.2.2.2.2.2.1 hP hD hS q hq hr s hs (va_Nw.use rfl (C.2.2.2.2.2.2.2.1 _ F)) hsame (hfin r hr) (hcl s hs).2 hn hfit hlen d (fun H1 locs1 hP1 hD1 hS1 => ?_)
    rw [hset] at hP1 hD1
    exact K H1 locs1 ls hP1 hD1 hS1 hl
theorem j_putvF (C : CB x own cc) (hin2 : (x_meth x).name = "<init>") {ci s idx a : Nat} {v : Value} {S' : Hp} (F : FLo own idx ci s) (hfin : ∀ r : vw_C, vwCl[ci]? = some r → (r.2.1 s).2.2.2 = true) (d : decode cc pc = .ok (.putfield idx, 3)) (hL' : a ∈ hL S) (hK' : hK S a = ci) (hn : narrow (fty ci s) v = v) (hfit : fits (fty ci s) v = true) (hLs : hL S' = hL S) (hpf : ∀ (cy : Nat → ClassId) (b : Nat), va_up (pf cy S) a (.inr (ci, (fvl S a ci).set s v)) b = pf cy S' b) (K : J x k n S' lv (pc + 3) st) : J x k n S lv pc (v :: .ref a :: st) := fun H locs ls hP hD hS hl => by
  obtain ⟨r, hr, hs, ho, F⟩ := F
  obtain ⟨e, h13, hin, hnm, hcl⟩ := cl_all ci r hr
  obtain ⟨q, hq, hq2, hf⟩ := fv_in (cy := (x_v x).2.1) (e ▸ hs) hL' hK' h13
  have hsame : ∀ z, (x_s x).fieldFound? (r.2.1 s).1 (r.2.1 s).2.1 (r.2.1 s).2.2.1 = some z → (x_s x).fieldFound? r.1 (r.2.1 s).2.1 (r.2.1 s).2.2.1 = some z := fun z hz => by rw [← (hcl s hs).1]; exact hz
  have hset := pl_set (e := .inr (ci, (fvl S a ci).set s v)) hD hL' hq2 hLs (hpf _)
  have hlen : s < (fvl S a ci).length := by rw [fvl_len, ← e]; exact hs
  refine va_putF C.1 C.2.1 (Ts := TBL) C.2.2.2.2.1 hin (fty ci) (fun j hj => (hcl j hj).2) hnm C.2.2.2.1 C.2.2.2.2.2.2.1 hP hD hS q hq hr s hs (C.2.2.2.2.1 _ F) hsame (hfin r hr) hin2 ((hcl s hs).1.trans ho) (hcl s hs).2 hn hfit hlen d (fun H1 locs1 hP1 hD1 hS1 => ?_)
  rw [hset] at hP1 hD1
  exact K H1 locs1 ls hP1 hD1 hS1 hl
end JR

