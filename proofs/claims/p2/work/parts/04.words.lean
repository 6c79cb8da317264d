/-! The table's words by name: fields' links, methods' links, constants; static arrays and texts. -/
def isNest : Cond → Bool
  | .fieldLinkNest .. => true
  | .methodLinkNest .. => true
  | _ => false
/-- the words that any method may use: one table for all -/
def TBL : List Cond := lw_tbl.filter goodWord
def NST : List Cond := lw_tbl.filter isNest
theorem inT {w : Cond} {l : List Cond} (hl : ∀ w ∈ l, w ∈ lw_tbl) (i : Nat) (h : l[i]? = some w) (g : goodWord w = true) : w ∈ TBL := List.mem_filter.mpr ⟨hl _ (List.mem_of_getElem? h), g⟩
theorem inN {w : Cond} {l : List Cond} (hl : ∀ w ∈ l, w ∈ lw_tbl) (i : Nat) (h : l[i]? = some w) (g : isNest w = true) : w ∈ NST := List.mem_filter.mpr ⟨hl _ (List.mem_of_getElem? h), g⟩
theorem goodT {y : MethodName} {cc : ByteArray} {maxL : Nat} {ret : Option FieldType} (h : Cond.code y cc maxL ret ∈ TBL) : GoodIn TBL (Cond.code y cc maxL ret :: TBL) := fun w hw => by
  have h1 : w ∈ TBL := (List.mem_cons.mp hw).elim (fun e => e ▸ h) id
  exact ⟨h1, good_of_word (List.mem_filter.mp h1).2⟩
theorem inT_list {ws : List Cond} (ps : List Nat) (hp : ws = ps.filterMap (fun i => lw_tbl[i]?)) (h : ws.all goodWord = true) : ∀ w ∈ ws, w ∈ TBL := fun w hw => by
  have h1 := List.all_eq_true.mp h w hw
  rw [hp] at hw
  obtain ⟨i, -, hi⟩ := List.mem_filterMap.mp hw
  exact inT (fun w h => h) i hi h1
theorem mt_0 : ∀ w ∈ k2_sels lw_privs, w ∈ lw_tbl := fun w h => List.mem_append_left _ h
theorem mt_1 : ∀ w ∈ tables_1_1, w ∈ lw_tbl := fun w h => List.mem_append_right _ (List.mem_append_left _ h)
theorem mt_2 : ∀ w ∈ tables_1_2, w ∈ lw_tbl := fun w h => List.mem_append_right _ (List.mem_append_right _ (List.mem_append_left _ h))
theorem mt_3 : ∀ w ∈ tables_1_3, w ∈ lw_tbl := fun w h => List.mem_append_right _ (List.mem_append_right _ (List.mem_append_right _ (List.mem_append_left _ h)))
theorem mt_4 : ∀ w ∈ tables_1_4, w ∈ lw_tbl := fun w h => List.mem_append_right _ (List.mem_append_right _ (List.mem_append_right _ (List.mem_append_right _ (List.mem_append_left _ h))))
theorem mt_5 : ∀ w ∈ tables_1_5, w ∈ lw_tbl := fun w h => List.mem_append_right _ (List.mem_append_right _ (List.mem_append_right _ (List.mem_append_right _ (List.mem_append_right _ (List.mem_append_left _ h)))))
theorem mt_6 : ∀ w ∈ tables_1_6, w ∈ lw_tbl := fun w h => List.mem_append_right _ (List.mem_append_right _ (List.mem_append_right _ (List.mem_append_right _ (List.mem_append_right _ (List.mem_append_right _ (List.mem_append_left _ h))))))
theorem mt_7 : ∀ w ∈ tables_1_7, w ∈ lw_tbl := fun w h => List.mem_append_right _ (List.mem_append_right _ (List.mem_append_right _ (List.mem_append_right _ (List.mem_append_right _ (List.mem_append_right _ (List.mem_append_right _ (List.mem_append_left _ h)))))))
theorem mt_8 : ∀ w ∈ tables_1_8, w ∈ lw_tbl := fun w h => List.mem_append_right _ (List.mem_append_right _ (List.mem_append_right _ (List.mem_append_right _ (List.mem_append_right _ (List.mem_append_right _ (List.mem_append_right _ (List.mem_append_right _ (List.mem_append_left _ h))))))))
theorem mt_9 : ∀ w ∈ tables_1_9, w ∈ lw_tbl := fun w h => List.mem_append_right _ (List.mem_append_right _ (List.mem_append_right _ (List.mem_append_right _ (List.mem_append_right _ (List.mem_append_right _ (List.mem_append_right _ (List.mem_append_right _ (List.mem_append_right _ (List.mem_append_left _ h)))))))))
theorem mt_10 : ∀ w ∈ tables_1_10, w ∈ lw_tbl := fun w h => List.mem_append_right _ (List.mem_append_right _ (List.mem_append_right _ (List.mem_append_right _ (List.mem_append_right _ (List.mem_append_right _ (List.mem_append_right _ (List.mem_append_right _ (List.mem_append_right _ (List.mem_append_right _ (List.mem_append_left _ h))))))))))
theorem mt_11 : ∀ w ∈ tables_1_11, w ∈ lw_tbl := fun w h => List.mem_append_right _ (List.mem_append_right _ (List.mem_append_right _ (List.mem_append_right _ (List.mem_append_right _ (List.mem_append_right _ (List.mem_append_right _ (List.mem_append_right _ (List.mem_append_right _ (List.mem_append_right _ (List.mem_append_right _ (h)))))))))))
set_option maxRecDepth 100000 in
theorem nst_tab : NST.all (fun w => w.onTables) = true := by decide +kernel
/-- a field's type, by class and slot -/
def fty (ci s : Nat) : FieldType := match ci with
  | 0 => tyX0 s
  | 1 => tyX1 s
  | 2 => tyX2 s
  | 3 => tyX3 s
  | 4 => tyX4 s
  | 5 => tyX5 s
  | 6 => tyX6 s
  | 7 => tyX7 s
  | 8 => tyX8 s
  | 9 => tyX9 s
  | 10 => tyX10 s
  | 11 => tyX11 s
  | 12 => tyX12 s
  | _ => .int
def clOk (ci : Nat) (r : vw_C) : Prop := r.2.2 = fn ci ∧ (∀ w ∈ u_ws r.1 r.2.1 r.2.2, w ∈ TBL) ∧ (∀ a, a < r.2.2 → ∀ b, b < r.2.2 → a ≠ b → (r.2.1 a).2.1 ≠ (r.2.1 b).2.1) ∧ ∀ s, s < r.2.2 → (r.2.1 s).1 = r.1 ∧ parseFieldDescriptor (r.2.1 s).2.2.1 = some (fty ci s)
set_option maxRecDepth 100000 in
theorem cl_0 : clOk 0 (RX0, TX0, 15) := ⟨by decide, inT_list [327, 329, 331, 333, 335, 337, 339, 341, 343, 345, 347, 349, 351, 353, 355] (by decide +kernel) (by decide +kernel), nmX0, fun s hs => ⟨(show ∀ s, s < 15 → (TX0 s).1 = RX0 by decide +kernel) s hs, tyX0_ok s hs⟩⟩
set_option maxRecDepth 100000 in
theorem cl_1 : clOk 1 (RX1, TX1, 21) := ⟨by decide, inT_list [580, 582, 584, 586, 588, 590, 592, 594, 596, 598, 600, 602, 604, 606, 608, 610, 612, 614, 616, 618, 620] (by decide +kernel) (by decide +kernel), nmX1, fun s hs => ⟨(show ∀ s, s < 21 → (TX1 s).1 = RX1 by decide +kernel) s hs, tyX1_ok s hs⟩⟩
set_option maxRecDepth 100000 in
theorem cl_2 : clOk 2 (RX2, TX2, 10) := ⟨by decide, inT_list [399, 401, 403, 405, 407, 409, 411, 413, 415, 417] (by decide +kernel) (by decide +kernel), nmX2, fun s hs => ⟨(show ∀ s, s < 10 → (TX2 s).1 = RX2 by decide +kernel) s hs, tyX2_ok s hs⟩⟩
set_option maxRecDepth 100000 in
theorem cl_3 : clOk 3 (RX3, TX3, 21) := ⟨by decide, inT_list [771, 773, 775, 777, 779, 781, 783, 785, 787, 789, 791, 793, 795, 797, 799, 801, 803, 805, 807, 809, 811] (by decide +kernel) (by decide +kernel), nmX3, fun s hs => ⟨(show ∀ s, s < 21 → (TX3 s).1 = RX3 by decide +kernel) s hs, tyX3_ok s hs⟩⟩
set_option maxRecDepth 100000 in
theorem cl_4 : clOk 4 (RX4, TX4, 8) := ⟨by decide, inT_list [515, 517, 519, 521, 523, 525, 527, 529] (by decide +kernel) (by decide +kernel), nmX4, fun s hs => ⟨(show ∀ s, s < 8 → (TX4 s).1 = RX4 by decide +kernel) s hs, tyX4_ok s hs⟩⟩
set_option maxRecDepth 100000 in
theorem cl_5 : clOk 5 (RX5, TX5, 13) := ⟨by decide, inT_list [653, 655, 657, 659, 661, 663, 665, 667, 669, 671, 673, 675, 677] (by decide +kernel) (by decide +kernel), nmX5, fun s hs => ⟨(show ∀ s, s < 13 → (TX5 s).1 = RX5 by decide +kernel) s hs, tyX5_ok s hs⟩⟩
set_option maxRecDepth 100000 in
theorem cl_6 : clOk 6 (RX6, TX6, 10) := ⟨by decide, inT_list [251, 253, 255, 257, 259, 261, 263, 265, 267, 269] (by decide +kernel) (by decide +kernel), nmX6, fun s hs => ⟨(show ∀ s, s < 10 → (TX6 s).1 = RX6 by decide +kernel) s hs, tyX6_ok s hs⟩⟩
set_option maxRecDepth 100000 in
theorem cl_7 : clOk 7 (RX7, TX7, 13) := ⟨by decide, inT_list [464, 466, 468, 470, 472, 474, 476, 478, 480, 482, 484, 486, 488] (by decide +kernel) (by decide +kernel), nmX7, fun s hs => ⟨(show ∀ s, s < 13 → (TX7 s).1 = RX7 by decide +kernel) s hs, tyX7_ok s hs⟩⟩
set_option maxRecDepth 100000 in
theorem cl_8 : clOk 8 (RX8, TX8, 1) := ⟨by decide, inT_list [371] (by decide +kernel) (by decide +kernel), nmX8, fun s hs => ⟨(show ∀ s, s < 1 → (TX8 s).1 = RX8 by decide +kernel) s hs, tyX8_ok s hs⟩⟩
set_option maxRecDepth 100000 in
theorem cl_9 : clOk 9 (RX9, TX9, 19) := ⟨by decide, inT_list [699, 701, 703, 705, 707, 709, 711, 713, 715, 717, 719, 721, 723, 725, 727, 729, 731, 733, 735] (by decide +kernel) (by decide +kernel), nmX9, fun s hs => ⟨(show ∀ s, s < 19 → (TX9 s).1 = RX9 by decide +kernel) s hs, tyX9_ok s hs⟩⟩
set_option maxRecDepth 100000 in
theorem cl_10 : clOk 10 (RX10, TX10, 4) := ⟨by decide, inT_list [297, 299, 301, 303] (by decide +kernel) (by decide +kernel), nmX10, fun s hs => ⟨(show ∀ s, s < 4 → (TX10 s).1 = RX10 by decide +kernel) s hs, tyX10_ok s hs⟩⟩
set_option maxRecDepth 100000 in
theorem cl_11 : clOk 11 (RX11, TX11, 12) := ⟨by decide, inT_list [827, 829, 831, 833, 835, 837, 839, 841, 843, 845, 847, 849] (by decide +kernel) (by decide +kernel), nmX11, fun s hs => ⟨(show ∀ s, s < 12 → (TX11 s).1 = RX11 by decide +kernel) s hs, tyX11_ok s hs⟩⟩
set_option maxRecDepth 100000 in
theorem cl_12 : clOk 12 (RX12, TX12, 80) := ⟨by decide, inT_list [1991, 1993, 1995, 1997, 1999, 2001, 2003, 2005, 2007, 2009, 2011, 2013, 2015, 2017, 2019, 2021, 2023, 2025, 2027, 2029, 2031, 2033, 2035, 2037, 2039, 2041, 2043, 2045, 2047, 2049, 2051, 2053, 2055, 2057, 2059, 2061, 2063, 2065, 2067, 2069, 2071, 2073, 2075, 2077, 2079, 2081, 2083, 2085, 2087, 2089, 2091, 2093, 2095, 2097, 2099, 2101, 2103, 2105, 2107, 2109, 2111, 2113, 2115, 2117, 2119, 2121, 2123, 2125, 2127, 2129, 2131, 2133, 2135, 2137, 2139, 2141, 2143, 2145, 2147, 2149] (by decide +kernel) (by decide +kernel), nmX12, fun s hs => ⟨(show ∀ s, s < 80 → (TX12 s).1 = RX12 by decide +kernel) s hs, tyX12_ok s hs⟩⟩
theorem cl_ok (ci : Nat) (r : vw_C) (h : vwCl[ci]? = some r) : clOk ci r := by
  match ci, h with
  | 0, h => cases h; exact cl_0
  | 1, h => cases h; exact cl_1
  | 2, h => cases h; exact cl_2
  | 3, h => cases h; exact cl_3
  | 4, h => cases h; exact cl_4
  | 5, h => cases h; exact cl_5
  | 6, h => cases h; exact cl_6
  | 7, h => cases h; exact cl_7
  | 8, h => cases h; exact cl_8
  | 9, h => cases h; exact cl_9
  | 10, h => cases h; exact cl_10
  | 11, h => cases h; exact cl_11
  | 12, h => cases h; exact cl_12
  | k + 13, h => simp [vwCl] at h
/-- a field's link: its class and slot, the word (or the nest mates' word) of the constant pool -/
def FL (own : String) (idx ci s : Nat) : Prop := ∃ r : vw_C, vwCl[ci]? = some r ∧ s < r.2.2 ∧ (Cond.fieldLink own idx r.1 (r.2.1 s).2.1 (r.2.1 s).2.2.1 ∈ TBL ∨ ∃ host, Cond.fieldLinkNest own idx r.1 (r.2.1 s).2.1 (r.2.1 s).2.2.1 host ∈ NST)
/-- the same, its own class' field, to be written by its constructor -/
def FLo (own : String) (idx ci s : Nat) : Prop := ∃ r : vw_C, vwCl[ci]? = some r ∧ s < r.2.2 ∧ r.1 = own ∧ Cond.fieldLink own idx r.1 (r.2.1 s).2.1 (r.2.1 s).2.2.1 ∈ TBL
/-- a method's link, plain or of a nest mate -/
def ML (own : String) (idx : Nat) (y : MethodName) : Prop := Cond.methodLink own idx y ∈ TBL ∨ ∃ host, Cond.methodLinkNest own idx y host ∈ NST
/-- a method: initialised, its code, how many arguments -/
def MC (y : MethodName) (cc : ByteArray) (maxL : Nat) (ret : Option FieldType) (np : Nat) : Prop := Cond.initialized y.cls ∈ TBL ∧ Cond.code y cc maxL ret ∈ TBL ∧ (y.cls ≠ "java/lang/invoke/MethodHandle" ∧ y.cls ≠ "java/lang/invoke/VarHandle") ∧ (parseMethodDescriptor y.desc).map (fun d => d.parameters.length) = some np
def MCv (y : MethodName) (cc : ByteArray) (maxL : Nat) (ret : Option FieldType) (np : Nat) : Prop := MC y cc maxL ret np ∧ Cond.instanceMethod y ∈ TBL ∧ Cond.selects y.cls y y ∈ TBL
def MCi (y : MethodName) (cc : ByteArray) (maxL : Nat) (np : Nat) : Prop := MC y cc maxL none np ∧ Cond.instanceMethod y ∈ TBL ∧ y.name = "<init>"
def MCs (y : MethodName) (cc : ByteArray) (maxL : Nat) (ret : Option FieldType) (np : Nat) : Prop := MC y cc maxL ret np ∧ Cond.static y ∈ TBL
theorem kiL : Cond.initialized RL ∈ TBL := inT mt_1 0 (by decide +kernel) rfl
theorem kiX11 : Cond.initialized RX11 ∈ TBL := inT mt_1 1 (by decide +kernel) rfl
theorem kiX6 : Cond.initialized RX6 ∈ TBL := inT mt_1 2 (by decide +kernel) rfl
theorem kiX9 : Cond.initialized RX9 ∈ TBL := inT mt_1 3 (by decide +kernel) rfl
theorem kiX0 : Cond.initialized RX0 ∈ TBL := inT mt_1 4 (by decide +kernel) rfl
theorem kiX10 : Cond.initialized RX10 ∈ TBL := inT mt_1 5 (by decide +kernel) rfl
theorem kiX2 : Cond.initialized RX2 ∈ TBL := inT mt_1 6 (by decide +kernel) rfl
theorem kiX8 : Cond.initialized RX8 ∈ TBL := inT mt_1 7 (by decide +kernel) rfl
theorem kiJ7 : Cond.initialized RJ7 ∈ TBL := inT mt_1 8 (by decide +kernel) rfl
theorem kiJ10 : Cond.initialized RJ10 ∈ TBL := inT mt_1 9 (by decide +kernel) rfl
theorem kiX1 : Cond.initialized RX1 ∈ TBL := inT mt_1 10 (by decide +kernel) rfl
theorem kiX7 : Cond.initialized RX7 ∈ TBL := inT mt_1 11 (by decide +kernel) rfl
theorem kiX4 : Cond.initialized RX4 ∈ TBL := inT mt_1 12 (by decide +kernel) rfl
theorem kiX5 : Cond.initialized RX5 ∈ TBL := inT mt_1 13 (by decide +kernel) rfl
theorem kiX3 : Cond.initialized RX3 ∈ TBL := inT mt_1 14 (by decide +kernel) rfl
theorem kiX12 : Cond.initialized RX12 ∈ TBL := inT mt_1 15 (by decide +kernel) rfl
theorem kiJ0 : Cond.initialized RJ0 ∈ TBL := inT mt_1 16 (by decide +kernel) rfl
theorem kiJ1 : Cond.initialized RJ1 ∈ TBL := inT mt_1 17 (by decide +kernel) rfl
theorem kiJ3 : Cond.initialized RJ3 ∈ TBL := inT mt_1 18 (by decide +kernel) rfl
theorem kiJ2 : Cond.initialized RJ2 ∈ TBL := inT mt_1 19 (by decide +kernel) rfl
theorem kiJ9 : Cond.initialized RJ9 ∈ TBL := inT mt_1 20 (by decide +kernel) rfl
theorem kiJ6 : Cond.initialized RJ6 ∈ TBL := inT mt_1 21 (by decide +kernel) rfl
theorem klL_7 : Cond.classLink RL 7 RX11 ∈ TBL := inT mt_1 22 (by decide +kernel) rfl
theorem knX11 : Cond.instantiable RX11 12 ∈ TBL := inT mt_1 23 (by decide +kernel) rfl
theorem mlL_9 : ML RL 9 yX11_init := Or.inl (inT mt_1 24 (by decide +kernel) rfl)
set_option maxRecDepth 100000 in
theorem mcX11_init : MCi yX11_init cX11_init 1 0 := ⟨⟨inT mt_1 1 (by decide +kernel) rfl, inT mt_1 26 rfl rfl, ⟨by decide +kernel, by decide +kernel⟩, by decide +kernel⟩, inT mt_1 25 (by decide +kernel) rfl, rfl⟩
theorem mlX11_1 : ML RX11 1 objectInit := Or.inl (inT mt_1 27 (by decide +kernel) rfl)
theorem klX11_30 : Cond.classLink RX11 30 RX6 ∈ TBL := inT mt_1 30 (by decide +kernel) rfl
theorem knX6 : Cond.instantiable RX6 10 ∈ TBL := inT mt_1 31 (by decide +kernel) rfl
theorem mlX11_32 : ML RX11 32 yX6_init := Or.inr ⟨"PrinterHouse", inN mt_1 32 (by decide +kernel) rfl⟩
set_option maxRecDepth 100000 in
theorem mcX6_init : MCi yX6_init cX6_init 1 0 := ⟨⟨inT mt_1 2 (by decide +kernel) rfl, inT mt_1 34 rfl rfl, ⟨by decide +kernel, by decide +kernel⟩, by decide +kernel⟩, inT mt_1 33 (by decide +kernel) rfl, rfl⟩
theorem mlX6_3 : ML RX6 3 objectInit := Or.inl (inT mt_1 35 (by decide +kernel) rfl)
theorem kcX6_11 : Cond.constant RX6 11 (60000) ∈ TBL := inT mt_1 36 (by decide +kernel) rfl
theorem klX6_23 : Cond.classLink RX6 23 "[[I" ∈ TBL := inT mt_1 37 (by decide +kernel) rfl
theorem ko_int_at : lw_tbl[232]? = some (Cond.arrayOver (.array .int)) := by decide +kernel
theorem flX6_12 : FL RX6 12 6 0 := ⟨(RX6, TX6, 10), rfl, by decide, Or.inl (inT mt_1 39 (by decide +kernel) rfl)⟩
theorem flX6_12o : FLo RX6 12 6 0 := ⟨(RX6, TX6, 10), rfl, by decide, rfl, inT mt_1 39 (by decide +kernel) rfl⟩
theorem flX11_110 : FL RX11 110 6 0 := ⟨(RX6, TX6, 10), rfl, by decide, Or.inr ⟨"PrinterHouse", inN mt_1 40 (by decide +kernel) rfl⟩⟩
theorem flX6_28 : FL RX6 28 6 1 := ⟨(RX6, TX6, 10), rfl, by decide, Or.inl (inT mt_1 41 (by decide +kernel) rfl)⟩
theorem flX11_99 : FL RX11 99 6 1 := ⟨(RX6, TX6, 10), rfl, by decide, Or.inr ⟨"PrinterHouse", inN mt_1 42 (by decide +kernel) rfl⟩⟩
theorem flX6_32 : FL RX6 32 6 2 := ⟨(RX6, TX6, 10), rfl, by decide, Or.inl (inT mt_1 43 (by decide +kernel) rfl)⟩
theorem flX11_93 : FL RX11 93 6 2 := ⟨(RX6, TX6, 10), rfl, by decide, Or.inr ⟨"PrinterHouse", inN mt_1 44 (by decide +kernel) rfl⟩⟩
theorem flX6_35 : FL RX6 35 6 3 := ⟨(RX6, TX6, 10), rfl, by decide, Or.inl (inT mt_1 45 (by decide +kernel) rfl)⟩
theorem flX9_95 : FL RX9 95 6 3 := ⟨(RX6, TX6, 10), rfl, by decide, Or.inr ⟨"PrinterHouse", inN mt_1 46 (by decide +kernel) rfl⟩⟩
theorem flX3_118 : FL RX3 118 6 3 := ⟨(RX6, TX6, 10), rfl, by decide, Or.inr ⟨"PrinterHouse", inN mt_1 47 (by decide +kernel) rfl⟩⟩
theorem flX6_16 : FL RX6 16 6 4 := ⟨(RX6, TX6, 10), rfl, by decide, Or.inl (inT mt_1 48 (by decide +kernel) rfl)⟩
theorem flX6_16o : FLo RX6 16 6 4 := ⟨(RX6, TX6, 10), rfl, by decide, rfl, inT mt_1 48 (by decide +kernel) rfl⟩
theorem flX11_117 : FL RX11 117 6 4 := ⟨(RX6, TX6, 10), rfl, by decide, Or.inr ⟨"PrinterHouse", inN mt_1 49 (by decide +kernel) rfl⟩⟩
theorem flX6_20 : FL RX6 20 6 5 := ⟨(RX6, TX6, 10), rfl, by decide, Or.inl (inT mt_1 50 (by decide +kernel) rfl)⟩
theorem flX6_20o : FLo RX6 20 6 5 := ⟨(RX6, TX6, 10), rfl, by decide, rfl, inT mt_1 50 (by decide +kernel) rfl⟩
theorem flX11_120 : FL RX11 120 6 5 := ⟨(RX6, TX6, 10), rfl, by decide, Or.inr ⟨"PrinterHouse", inN mt_1 51 (by decide +kernel) rfl⟩⟩
theorem flX6_25 : FL RX6 25 6 6 := ⟨(RX6, TX6, 10), rfl, by decide, Or.inl (inT mt_1 52 (by decide +kernel) rfl)⟩
theorem flX6_25o : FLo RX6 25 6 6 := ⟨(RX6, TX6, 10), rfl, by decide, rfl, inT mt_1 52 (by decide +kernel) rfl⟩
theorem flX11_127 : FL RX11 127 6 6 := ⟨(RX6, TX6, 10), rfl, by decide, Or.inr ⟨"PrinterHouse", inN mt_1 53 (by decide +kernel) rfl⟩⟩
theorem flX6_63 : FL RX6 63 6 7 := ⟨(RX6, TX6, 10), rfl, by decide, Or.inl (inT mt_1 54 (by decide +kernel) rfl)⟩
theorem flX6_66 : FL RX6 66 6 8 := ⟨(RX6, TX6, 10), rfl, by decide, Or.inl (inT mt_1 55 (by decide +kernel) rfl)⟩
theorem flX6_69 : FL RX6 69 6 9 := ⟨(RX6, TX6, 10), rfl, by decide, Or.inl (inT mt_1 56 (by decide +kernel) rfl)⟩
theorem ka_byte : Cond.arrayClass .byte ∈ TBL := inT mt_1 78 (by decide +kernel) rfl
theorem ka_int : Cond.arrayClass .int ∈ TBL := inT mt_1 79 (by decide +kernel) rfl
theorem klX11_37 : Cond.classLink RX11 37 RX9 ∈ TBL := inT mt_1 80 (by decide +kernel) rfl
theorem knX9 : Cond.instantiable RX9 19 ∈ TBL := inT mt_1 81 (by decide +kernel) rfl
theorem mlX11_39 : ML RX11 39 yX9_init := Or.inl (inT mt_1 82 (by decide +kernel) rfl)
set_option maxRecDepth 100000 in
theorem mcX9_init : MCi yX9_init cX9_init 3 1 := ⟨⟨inT mt_1 3 (by decide +kernel) rfl, inT mt_1 84 rfl rfl, ⟨by decide +kernel, by decide +kernel⟩, by decide +kernel⟩, inT mt_1 83 (by decide +kernel) rfl, rfl⟩
theorem mlX9_3 : ML RX9 3 objectInit := Or.inl (inT mt_1 85 (by decide +kernel) rfl)
theorem klX9_9 : Cond.classLink RX9 9 RX0 ∈ TBL := inT mt_1 86 (by decide +kernel) rfl
theorem knX0 : Cond.instantiable RX0 15 ∈ TBL := inT mt_1 87 (by decide +kernel) rfl
theorem mlX9_11 : ML RX9 11 yX0_init := Or.inr ⟨"PrinterHouse", inN mt_1 88 (by decide +kernel) rfl⟩
set_option maxRecDepth 100000 in
theorem mcX0_init : MCi yX0_init cX0_init 1 0 := ⟨⟨inT mt_1 4 (by decide +kernel) rfl, inT mt_1 90 rfl rfl, ⟨by decide +kernel, by decide +kernel⟩, by decide +kernel⟩, inT mt_1 89 (by decide +kernel) rfl, rfl⟩
theorem mlX0_3 : ML RX0 3 objectInit := Or.inl (inT mt_1 91 (by decide +kernel) rfl)
theorem klX0_18 : Cond.classLink RX0 18 RX10 ∈ TBL := inT mt_1 92 (by decide +kernel) rfl
theorem knX10 : Cond.instantiable RX10 4 ∈ TBL := inT mt_1 93 (by decide +kernel) rfl
theorem mlX0_20 : ML RX0 20 yX10_init := Or.inr ⟨"PrinterHouse", inN mt_1 94 (by decide +kernel) rfl⟩
set_option maxRecDepth 100000 in
theorem mcX10_init : MCi yX10_init cX10_init 1 0 := ⟨⟨inT mt_1 5 (by decide +kernel) rfl, inT mt_1 96 rfl rfl, ⟨by decide +kernel, by decide +kernel⟩, by decide +kernel⟩, inT mt_1 95 (by decide +kernel) rfl, rfl⟩
theorem mlX10_1 : ML RX10 1 objectInit := Or.inl (inT mt_1 97 (by decide +kernel) rfl)
theorem flX10_7 : FL RX10 7 10 0 := ⟨(RX10, TX10, 4), rfl, by decide, Or.inl (inT mt_1 98 (by decide +kernel) rfl)⟩
theorem flX10_13 : FL RX10 13 10 1 := ⟨(RX10, TX10, 4), rfl, by decide, Or.inl (inT mt_1 99 (by decide +kernel) rfl)⟩
theorem flX10_20 : FL RX10 20 10 2 := ⟨(RX10, TX10, 4), rfl, by decide, Or.inl (inT mt_1 100 (by decide +kernel) rfl)⟩
theorem flX0_71 : FL RX0 71 10 2 := ⟨(RX10, TX10, 4), rfl, by decide, Or.inr ⟨"PrinterHouse", inN mt_1 101 (by decide +kernel) rfl⟩⟩
theorem flX10_16 : FL RX10 16 10 3 := ⟨(RX10, TX10, 4), rfl, by decide, Or.inl (inT mt_1 102 (by decide +kernel) rfl)⟩
theorem flX10_16o : FLo RX10 16 10 3 := ⟨(RX10, TX10, 4), rfl, by decide, rfl, inT mt_1 102 (by decide +kernel) rfl⟩
theorem ka_long : Cond.arrayClass .long ∈ TBL := inT mt_1 112 (by decide +kernel) rfl
theorem flX0_11 : FL RX0 11 0 0 := ⟨(RX0, TX0, 15), rfl, by decide, Or.inl (inT mt_1 113 (by decide +kernel) rfl)⟩
theorem flX0_11o : FLo RX0 11 0 0 := ⟨(RX0, TX0, 15), rfl, by decide, rfl, inT mt_1 113 (by decide +kernel) rfl⟩
theorem flX0_15 : FL RX0 15 0 1 := ⟨(RX0, TX0, 15), rfl, by decide, Or.inl (inT mt_1 114 (by decide +kernel) rfl)⟩
theorem flX0_15o : FLo RX0 15 0 1 := ⟨(RX0, TX0, 15), rfl, by decide, rfl, inT mt_1 114 (by decide +kernel) rfl⟩
theorem flX0_39 : FL RX0 39 0 2 := ⟨(RX0, TX0, 15), rfl, by decide, Or.inl (inT mt_1 115 (by decide +kernel) rfl)⟩
theorem flX9_505 : FL RX9 505 0 2 := ⟨(RX0, TX0, 15), rfl, by decide, Or.inr ⟨"PrinterHouse", inN mt_1 116 (by decide +kernel) rfl⟩⟩
theorem flX0_25 : FL RX0 25 0 3 := ⟨(RX0, TX0, 15), rfl, by decide, Or.inl (inT mt_1 117 (by decide +kernel) rfl)⟩
theorem flX9_189 : FL RX9 189 0 3 := ⟨(RX0, TX0, 15), rfl, by decide, Or.inr ⟨"PrinterHouse", inN mt_1 118 (by decide +kernel) rfl⟩⟩
theorem flX0_29 : FL RX0 29 0 4 := ⟨(RX0, TX0, 15), rfl, by decide, Or.inl (inT mt_1 119 (by decide +kernel) rfl)⟩
theorem flX0_32 : FL RX0 32 0 5 := ⟨(RX0, TX0, 15), rfl, by decide, Or.inl (inT mt_1 120 (by decide +kernel) rfl)⟩
theorem flX9_91 : FL RX9 91 0 5 := ⟨(RX0, TX0, 15), rfl, by decide, Or.inr ⟨"PrinterHouse", inN mt_1 121 (by decide +kernel) rfl⟩⟩
theorem flX0_83 : FL RX0 83 0 6 := ⟨(RX0, TX0, 15), rfl, by decide, Or.inl (inT mt_1 122 (by decide +kernel) rfl)⟩
theorem flX0_95 : FL RX0 95 0 7 := ⟨(RX0, TX0, 15), rfl, by decide, Or.inl (inT mt_1 123 (by decide +kernel) rfl)⟩
theorem flX0_98 : FL RX0 98 0 8 := ⟨(RX0, TX0, 15), rfl, by decide, Or.inl (inT mt_1 124 (by decide +kernel) rfl)⟩
theorem flX9_549 : FL RX9 549 0 8 := ⟨(RX0, TX0, 15), rfl, by decide, Or.inr ⟨"PrinterHouse", inN mt_1 125 (by decide +kernel) rfl⟩⟩
theorem flX0_104 : FL RX0 104 0 9 := ⟨(RX0, TX0, 15), rfl, by decide, Or.inl (inT mt_1 126 (by decide +kernel) rfl)⟩
theorem flX9_552 : FL RX9 552 0 9 := ⟨(RX0, TX0, 15), rfl, by decide, Or.inr ⟨"PrinterHouse", inN mt_1 127 (by decide +kernel) rfl⟩⟩
theorem flX0_21 : FL RX0 21 0 10 := ⟨(RX0, TX0, 15), rfl, by decide, Or.inl (inT mt_1 128 (by decide +kernel) rfl)⟩
theorem flX0_53 : FL RX0 53 0 11 := ⟨(RX0, TX0, 15), rfl, by decide, Or.inl (inT mt_1 129 (by decide +kernel) rfl)⟩
theorem flX0_59 : FL RX0 59 0 12 := ⟨(RX0, TX0, 15), rfl, by decide, Or.inl (inT mt_1 130 (by decide +kernel) rfl)⟩
theorem flX0_65 : FL RX0 65 0 13 := ⟨(RX0, TX0, 15), rfl, by decide, Or.inl (inT mt_1 131 (by decide +kernel) rfl)⟩
theorem flX0_74 : FL RX0 74 0 14 := ⟨(RX0, TX0, 15), rfl, by decide, Or.inl (inT mt_1 132 (by decide +kernel) rfl)⟩
theorem klX9_18 : Cond.classLink RX9 18 RX2 ∈ TBL := inT mt_1 164 (by decide +kernel) rfl
theorem knX2 : Cond.instantiable RX2 10 ∈ TBL := inT mt_1 165 (by decide +kernel) rfl
theorem mlX9_20 : ML RX9 20 yX2_init := Or.inl (inT mt_1 166 (by decide +kernel) rfl)
set_option maxRecDepth 100000 in
theorem mcX2_init : MCi yX2_init cX2_init 5 0 := ⟨⟨inT mt_1 6 (by decide +kernel) rfl, inT mt_1 168 rfl rfl, ⟨by decide +kernel, by decide +kernel⟩, by decide +kernel⟩, inT mt_1 167 (by decide +kernel) rfl, rfl⟩
theorem mlX2_5 : ML RX2 5 objectInit := Or.inl (inT mt_1 169 (by decide +kernel) rfl)
theorem klX2_11 : Cond.classLink RX2 11 RX8 ∈ TBL := inT mt_1 170 (by decide +kernel) rfl
theorem knX8 : Cond.instantiable RX8 1 ∈ TBL := inT mt_1 171 (by decide +kernel) rfl
theorem mlX2_13 : ML RX2 13 yX8_init := Or.inr ⟨"PrinterHouse", inN mt_1 172 (by decide +kernel) rfl⟩
set_option maxRecDepth 100000 in
theorem mcX8_init : MCi yX8_init cX8_init 1 0 := ⟨⟨inT mt_1 7 (by decide +kernel) rfl, inT mt_1 174 rfl rfl, ⟨by decide +kernel, by decide +kernel⟩, by decide +kernel⟩, inT mt_1 173 (by decide +kernel) rfl, rfl⟩
theorem mlX8_1 : ML RX8 1 objectInit := Or.inl (inT mt_1 175 (by decide +kernel) rfl)
theorem flX8_9 : FL RX8 9 8 0 := ⟨(RX8, TX8, 1), rfl, by decide, Or.inl (inT mt_1 176 (by decide +kernel) rfl)⟩
theorem flX8_9o : FLo RX8 9 8 0 := ⟨(RX8, TX8, 1), rfl, by decide, rfl, inT mt_1 176 (by decide +kernel) rfl⟩
theorem mlX2_38 : ML RX2 38 yX2_firstWishes := Or.inl (inT mt_1 180 (by decide +kernel) rfl)
set_option maxRecDepth 100000 in
theorem mcX2_firstWishes : MCs yX2_firstWishes cX2_firstWishes 1 none 1 := ⟨⟨inT mt_1 6 (by decide +kernel) rfl, inT mt_1 182 rfl rfl, ⟨by decide +kernel, by decide +kernel⟩, by decide +kernel⟩, inT mt_1 181 (by decide +kernel) rfl⟩
theorem mlX2_52 : ML RX2 52 yJ7_fill_53178 := Or.inl (inT mt_1 183 (by decide +kernel) rfl)
set_option maxRecDepth 100000 in
theorem mcJ7_fill_53178 : MCs yJ7_fill_53178 cJ7_fill_53178 4 none 2 := ⟨⟨inT mt_1 8 (by decide +kernel) rfl, inT mt_1 185 rfl rfl, ⟨by decide +kernel, by decide +kernel⟩, by decide +kernel⟩, inT mt_1 184 (by decide +kernel) rfl⟩
theorem mlX2_42 : Cond.methodLink RX2 42 ⟨"java/lang/System", "arraycopy", "(Ljava/lang/Object;ILjava/lang/Object;II)V"⟩ ∈ TBL := inT mt_1 186 (by decide +kernel) rfl
theorem mlX2_48 : ML RX2 48 yX2_setHead := Or.inl (inT mt_1 189 (by decide +kernel) rfl)
set_option maxRecDepth 100000 in
theorem mcX2_setHead : MCv yX2_setHead cX2_setHead 8 none 6 := ⟨⟨inT mt_1 6 (by decide +kernel) rfl, inT mt_1 192 rfl rfl, ⟨by decide +kernel, by decide +kernel⟩, by decide +kernel⟩, inT mt_1 191 (by decide +kernel) rfl, inT mt_0 0 (by decide +kernel) rfl⟩
theorem flX2_14 : FL RX2 14 2 0 := ⟨(RX2, TX2, 10), rfl, by decide, Or.inl (inT mt_1 193 (by decide +kernel) rfl)⟩
theorem flX2_14o : FLo RX2 14 2 0 := ⟨(RX2, TX2, 10), rfl, by decide, rfl, inT mt_1 193 (by decide +kernel) rfl⟩
theorem flX9_176 : FL RX9 176 2 0 := ⟨(RX2, TX2, 10), rfl, by decide, Or.inr ⟨"PrinterHouse", inN mt_1 194 (by decide +kernel) rfl⟩⟩
theorem flX2_18 : FL RX2 18 2 1 := ⟨(RX2, TX2, 10), rfl, by decide, Or.inl (inT mt_1 195 (by decide +kernel) rfl)⟩
theorem flX2_18o : FLo RX2 18 2 1 := ⟨(RX2, TX2, 10), rfl, by decide, rfl, inT mt_1 195 (by decide +kernel) rfl⟩
theorem flX2_22 : FL RX2 22 2 2 := ⟨(RX2, TX2, 10), rfl, by decide, Or.inl (inT mt_1 196 (by decide +kernel) rfl)⟩
theorem flX2_22o : FLo RX2 22 2 2 := ⟨(RX2, TX2, 10), rfl, by decide, rfl, inT mt_1 196 (by decide +kernel) rfl⟩
theorem flX2_25 : FL RX2 25 2 3 := ⟨(RX2, TX2, 10), rfl, by decide, Or.inl (inT mt_1 197 (by decide +kernel) rfl)⟩
theorem flX2_25o : FLo RX2 25 2 3 := ⟨(RX2, TX2, 10), rfl, by decide, rfl, inT mt_1 197 (by decide +kernel) rfl⟩
theorem flX2_29 : FL RX2 29 2 4 := ⟨(RX2, TX2, 10), rfl, by decide, Or.inl (inT mt_1 198 (by decide +kernel) rfl)⟩
theorem flX2_29o : FLo RX2 29 2 4 := ⟨(RX2, TX2, 10), rfl, by decide, rfl, inT mt_1 198 (by decide +kernel) rfl⟩
theorem flX2_32 : FL RX2 32 2 5 := ⟨(RX2, TX2, 10), rfl, by decide, Or.inl (inT mt_1 199 (by decide +kernel) rfl)⟩
theorem flX2_32o : FLo RX2 32 2 5 := ⟨(RX2, TX2, 10), rfl, by decide, rfl, inT mt_1 199 (by decide +kernel) rfl⟩
theorem flX9_183 : FL RX9 183 2 6 := ⟨(RX2, TX2, 10), rfl, by decide, Or.inr ⟨"PrinterHouse", inN mt_1 200 (by decide +kernel) rfl⟩⟩
theorem flX2_91 : FL RX2 91 2 6 := ⟨(RX2, TX2, 10), rfl, by decide, Or.inl (inT mt_1 201 (by decide +kernel) rfl)⟩
theorem flX2_35 : FL RX2 35 2 7 := ⟨(RX2, TX2, 10), rfl, by decide, Or.inl (inT mt_1 202 (by decide +kernel) rfl)⟩
theorem flX2_35o : FLo RX2 35 2 7 := ⟨(RX2, TX2, 10), rfl, by decide, rfl, inT mt_1 202 (by decide +kernel) rfl⟩
theorem flX2_110 : FL RX2 110 2 8 := ⟨(RX2, TX2, 10), rfl, by decide, Or.inl (inT mt_1 203 (by decide +kernel) rfl)⟩
theorem flX2_94 : FL RX2 94 2 9 := ⟨(RX2, TX2, 10), rfl, by decide, Or.inl (inT mt_1 204 (by decide +kernel) rfl)⟩
theorem ka_boolean : Cond.arrayClass .boolean ∈ TBL := inT mt_1 226 (by decide +kernel) rfl
theorem klX9_25 : Cond.classLink RX9 25 RX8 ∈ TBL := inT mt_1 227 (by decide +kernel) rfl
theorem mlX9_27 : ML RX9 27 yX8_init := Or.inr ⟨"PrinterHouse", inN mt_1 228 (by decide +kernel) rfl⟩
theorem klX9_32 : Cond.classLink RX9 32 RX10 ∈ TBL := inT mt_1 229 (by decide +kernel) rfl
theorem ko_Tile_at : lw_tbl[424]? = some (Cond.arrayOver (.object "PrinterHouse$Tile")) := by decide +kernel
theorem mlX9_38 : ML RX9 38 yX10_init := Or.inr ⟨"PrinterHouse", inN mt_1 231 (by decide +kernel) rfl⟩
theorem klX9_54 : Cond.classLink RX9 54 RX1 ∈ TBL := inT mt_1 232 (by decide +kernel) rfl
theorem knX1 : Cond.instantiable RX1 21 ∈ TBL := inT mt_1 233 (by decide +kernel) rfl
theorem mlX9_56 : ML RX9 56 yX1_init := Or.inr ⟨"PrinterHouse", inN mt_1 234 (by decide +kernel) rfl⟩
set_option maxRecDepth 100000 in
theorem mcX1_init : MCi yX1_init cX1_init 1 0 := ⟨⟨inT mt_1 10 (by decide +kernel) rfl, inT mt_1 236 rfl rfl, ⟨by decide +kernel, by decide +kernel⟩, by decide +kernel⟩, inT mt_1 235 (by decide +kernel) rfl, rfl⟩
theorem mlX1_3 : ML RX1 3 objectInit := Or.inl (inT mt_1 237 (by decide +kernel) rfl)
theorem klX1_9 : Cond.classLink RX1 9 RX7 ∈ TBL := inT mt_1 238 (by decide +kernel) rfl
theorem knX7 : Cond.instantiable RX7 13 ∈ TBL := inT mt_1 239 (by decide +kernel) rfl
theorem mlX1_11 : ML RX1 11 yX7_init := Or.inr ⟨"PrinterHouse", inN mt_2 0 (by decide +kernel) rfl⟩
set_option maxRecDepth 100000 in
theorem mcX7_init : MCi yX7_init cX7_init 1 0 := ⟨⟨inT mt_1 11 (by decide +kernel) rfl, inT mt_2 2 rfl rfl, ⟨by decide +kernel, by decide +kernel⟩, by decide +kernel⟩, inT mt_2 1 (by decide +kernel) rfl, rfl⟩
theorem mlX7_3 : ML RX7 3 objectInit := Or.inl (inT mt_2 3 (by decide +kernel) rfl)
theorem flX7_15 : FL RX7 15 7 0 := ⟨(RX7, TX7, 13), rfl, by decide, Or.inl (inT mt_2 4 (by decide +kernel) rfl)⟩
theorem flX9_167 : FL RX9 167 7 0 := ⟨(RX7, TX7, 13), rfl, by decide, Or.inr ⟨"PrinterHouse", inN mt_2 5 (by decide +kernel) rfl⟩⟩
theorem flX7_19 : FL RX7 19 7 1 := ⟨(RX7, TX7, 13), rfl, by decide, Or.inl (inT mt_2 6 (by decide +kernel) rfl)⟩
theorem flX9_170 : FL RX9 170 7 1 := ⟨(RX7, TX7, 13), rfl, by decide, Or.inr ⟨"PrinterHouse", inN mt_2 7 (by decide +kernel) rfl⟩⟩
theorem flX0_148 : FL RX0 148 7 1 := ⟨(RX7, TX7, 13), rfl, by decide, Or.inr ⟨"PrinterHouse", inN mt_2 8 (by decide +kernel) rfl⟩⟩
theorem flX7_22 : FL RX7 22 7 2 := ⟨(RX7, TX7, 13), rfl, by decide, Or.inl (inT mt_2 9 (by decide +kernel) rfl)⟩
theorem flX9_147 : FL RX9 147 7 2 := ⟨(RX7, TX7, 13), rfl, by decide, Or.inr ⟨"PrinterHouse", inN mt_2 10 (by decide +kernel) rfl⟩⟩
theorem flX7_25 : FL RX7 25 7 3 := ⟨(RX7, TX7, 13), rfl, by decide, Or.inl (inT mt_2 11 (by decide +kernel) rfl)⟩
theorem flX9_150 : FL RX9 150 7 3 := ⟨(RX7, TX7, 13), rfl, by decide, Or.inr ⟨"PrinterHouse", inN mt_2 12 (by decide +kernel) rfl⟩⟩
theorem flX7_28 : FL RX7 28 7 4 := ⟨(RX7, TX7, 13), rfl, by decide, Or.inl (inT mt_2 13 (by decide +kernel) rfl)⟩
theorem flX9_153 : FL RX9 153 7 4 := ⟨(RX7, TX7, 13), rfl, by decide, Or.inr ⟨"PrinterHouse", inN mt_2 14 (by decide +kernel) rfl⟩⟩
theorem flX7_31 : FL RX7 31 7 5 := ⟨(RX7, TX7, 13), rfl, by decide, Or.inl (inT mt_2 15 (by decide +kernel) rfl)⟩
theorem flX9_156 : FL RX9 156 7 5 := ⟨(RX7, TX7, 13), rfl, by decide, Or.inr ⟨"PrinterHouse", inN mt_2 16 (by decide +kernel) rfl⟩⟩
theorem flX7_34 : FL RX7 34 7 6 := ⟨(RX7, TX7, 13), rfl, by decide, Or.inl (inT mt_2 17 (by decide +kernel) rfl)⟩
theorem flX9_133 : FL RX9 133 7 6 := ⟨(RX7, TX7, 13), rfl, by decide, Or.inr ⟨"PrinterHouse", inN mt_2 18 (by decide +kernel) rfl⟩⟩
theorem flX7_37 : FL RX7 37 7 7 := ⟨(RX7, TX7, 13), rfl, by decide, Or.inl (inT mt_2 19 (by decide +kernel) rfl)⟩
theorem flX9_138 : FL RX9 138 7 7 := ⟨(RX7, TX7, 13), rfl, by decide, Or.inr ⟨"PrinterHouse", inN mt_2 20 (by decide +kernel) rfl⟩⟩
theorem flX7_40 : FL RX7 40 7 8 := ⟨(RX7, TX7, 13), rfl, by decide, Or.inl (inT mt_2 21 (by decide +kernel) rfl)⟩
theorem flX9_144 : FL RX9 144 7 8 := ⟨(RX7, TX7, 13), rfl, by decide, Or.inr ⟨"PrinterHouse", inN mt_2 22 (by decide +kernel) rfl⟩⟩
theorem flX7_43 : FL RX7 43 7 9 := ⟨(RX7, TX7, 13), rfl, by decide, Or.inl (inT mt_2 23 (by decide +kernel) rfl)⟩
theorem flX9_141 : FL RX9 141 7 9 := ⟨(RX7, TX7, 13), rfl, by decide, Or.inr ⟨"PrinterHouse", inN mt_2 24 (by decide +kernel) rfl⟩⟩
theorem flX7_46 : FL RX7 46 7 10 := ⟨(RX7, TX7, 13), rfl, by decide, Or.inl (inT mt_2 25 (by decide +kernel) rfl)⟩
theorem flX9_243 : FL RX9 243 7 10 := ⟨(RX7, TX7, 13), rfl, by decide, Or.inr ⟨"PrinterHouse", inN mt_2 26 (by decide +kernel) rfl⟩⟩
theorem flX7_49 : FL RX7 49 7 11 := ⟨(RX7, TX7, 13), rfl, by decide, Or.inl (inT mt_2 27 (by decide +kernel) rfl)⟩
theorem flX9_173 : FL RX9 173 7 11 := ⟨(RX7, TX7, 13), rfl, by decide, Or.inr ⟨"PrinterHouse", inN mt_2 28 (by decide +kernel) rfl⟩⟩
theorem flX7_11 : FL RX7 11 7 12 := ⟨(RX7, TX7, 13), rfl, by decide, Or.inl (inT mt_2 29 (by decide +kernel) rfl)⟩
theorem flX7_11o : FLo RX7 11 7 12 := ⟨(RX7, TX7, 13), rfl, by decide, rfl, inT mt_2 29 (by decide +kernel) rfl⟩
theorem klX1_18 : Cond.classLink RX1 18 RX4 ∈ TBL := inT mt_2 57 (by decide +kernel) rfl
theorem knX4 : Cond.instantiable RX4 8 ∈ TBL := inT mt_2 58 (by decide +kernel) rfl
theorem mlX1_20 : ML RX1 20 yX4_init := Or.inr ⟨"PrinterHouse", inN mt_2 59 (by decide +kernel) rfl⟩
set_option maxRecDepth 100000 in
theorem mcX4_init : MCi yX4_init cX4_init 1 0 := ⟨⟨inT mt_1 12 (by decide +kernel) rfl, inT mt_2 61 rfl rfl, ⟨by decide +kernel, by decide +kernel⟩, by decide +kernel⟩, inT mt_2 60 (by decide +kernel) rfl, rfl⟩
theorem mlX4_1 : ML RX4 1 objectInit := Or.inl (inT mt_2 62 (by decide +kernel) rfl)
theorem flX4_13 : FL RX4 13 4 0 := ⟨(RX4, TX4, 8), rfl, by decide, Or.inl (inT mt_2 63 (by decide +kernel) rfl)⟩
theorem flX0_129 : FL RX0 129 4 0 := ⟨(RX4, TX4, 8), rfl, by decide, Or.inr ⟨"PrinterHouse", inN mt_2 64 (by decide +kernel) rfl⟩⟩
theorem flX9_661 : FL RX9 661 4 0 := ⟨(RX4, TX4, 8), rfl, by decide, Or.inr ⟨"PrinterHouse", inN mt_2 65 (by decide +kernel) rfl⟩⟩
theorem flX4_17 : FL RX4 17 4 1 := ⟨(RX4, TX4, 8), rfl, by decide, Or.inl (inT mt_2 66 (by decide +kernel) rfl)⟩
theorem flX9_678 : FL RX9 678 4 1 := ⟨(RX4, TX4, 8), rfl, by decide, Or.inr ⟨"PrinterHouse", inN mt_2 67 (by decide +kernel) rfl⟩⟩
theorem flX4_20 : FL RX4 20 4 2 := ⟨(RX4, TX4, 8), rfl, by decide, Or.inl (inT mt_2 68 (by decide +kernel) rfl)⟩
theorem flX9_669 : FL RX9 669 4 2 := ⟨(RX4, TX4, 8), rfl, by decide, Or.inr ⟨"PrinterHouse", inN mt_2 69 (by decide +kernel) rfl⟩⟩
theorem flX4_23 : FL RX4 23 4 3 := ⟨(RX4, TX4, 8), rfl, by decide, Or.inl (inT mt_2 70 (by decide +kernel) rfl)⟩
theorem flX9_672 : FL RX9 672 4 3 := ⟨(RX4, TX4, 8), rfl, by decide, Or.inr ⟨"PrinterHouse", inN mt_2 71 (by decide +kernel) rfl⟩⟩
theorem flX4_26 : FL RX4 26 4 4 := ⟨(RX4, TX4, 8), rfl, by decide, Or.inl (inT mt_2 72 (by decide +kernel) rfl)⟩
theorem flX9_656 : FL RX9 656 4 4 := ⟨(RX4, TX4, 8), rfl, by decide, Or.inr ⟨"PrinterHouse", inN mt_2 73 (by decide +kernel) rfl⟩⟩
theorem flX4_30 : FL RX4 30 4 5 := ⟨(RX4, TX4, 8), rfl, by decide, Or.inl (inT mt_2 74 (by decide +kernel) rfl)⟩
theorem flX0_126 : FL RX0 126 4 5 := ⟨(RX4, TX4, 8), rfl, by decide, Or.inr ⟨"PrinterHouse", inN mt_2 75 (by decide +kernel) rfl⟩⟩
theorem flX9_707 : FL RX9 707 4 5 := ⟨(RX4, TX4, 8), rfl, by decide, Or.inr ⟨"PrinterHouse", inN mt_2 76 (by decide +kernel) rfl⟩⟩
theorem flX4_33 : FL RX4 33 4 6 := ⟨(RX4, TX4, 8), rfl, by decide, Or.inl (inT mt_2 77 (by decide +kernel) rfl)⟩
theorem flX9_681 : FL RX9 681 4 6 := ⟨(RX4, TX4, 8), rfl, by decide, Or.inr ⟨"PrinterHouse", inN mt_2 78 (by decide +kernel) rfl⟩⟩
theorem flX4_9 : FL RX4 9 4 7 := ⟨(RX4, TX4, 8), rfl, by decide, Or.inl (inT mt_2 79 (by decide +kernel) rfl)⟩
theorem flX4_9o : FLo RX4 9 4 7 := ⟨(RX4, TX4, 8), rfl, by decide, rfl, inT mt_2 79 (by decide +kernel) rfl⟩
theorem flX0_119 : FL RX0 119 4 7 := ⟨(RX4, TX4, 8), rfl, by decide, Or.inr ⟨"PrinterHouse", inN mt_2 80 (by decide +kernel) rfl⟩⟩
theorem klX1_25 : Cond.classLink RX1 25 RX10 ∈ TBL := inT mt_2 98 (by decide +kernel) rfl
theorem mlX1_27 : ML RX1 27 yX10_init := Or.inr ⟨"PrinterHouse", inN mt_2 99 (by decide +kernel) rfl⟩
theorem flX1_12 : FL RX1 12 1 0 := ⟨(RX1, TX1, 21), rfl, by decide, Or.inl (inT mt_2 100 (by decide +kernel) rfl)⟩
theorem flX1_12o : FLo RX1 12 1 0 := ⟨(RX1, TX1, 21), rfl, by decide, rfl, inT mt_2 100 (by decide +kernel) rfl⟩
theorem flX9_129 : FL RX9 129 1 0 := ⟨(RX1, TX1, 21), rfl, by decide, Or.inr ⟨"PrinterHouse", inN mt_2 101 (by decide +kernel) rfl⟩⟩
theorem flX1_21 : FL RX1 21 1 1 := ⟨(RX1, TX1, 21), rfl, by decide, Or.inl (inT mt_2 102 (by decide +kernel) rfl)⟩
theorem flX1_21o : FLo RX1 21 1 1 := ⟨(RX1, TX1, 21), rfl, by decide, rfl, inT mt_2 102 (by decide +kernel) rfl⟩
theorem flX9_652 : FL RX9 652 1 1 := ⟨(RX1, TX1, 21), rfl, by decide, Or.inr ⟨"PrinterHouse", inN mt_2 103 (by decide +kernel) rfl⟩⟩
theorem flX1_28 : FL RX1 28 1 2 := ⟨(RX1, TX1, 21), rfl, by decide, Or.inl (inT mt_2 104 (by decide +kernel) rfl)⟩
theorem flX1_28o : FLo RX1 28 1 2 := ⟨(RX1, TX1, 21), rfl, by decide, rfl, inT mt_2 104 (by decide +kernel) rfl⟩
theorem flX9_539 : FL RX9 539 1 2 := ⟨(RX1, TX1, 21), rfl, by decide, Or.inr ⟨"PrinterHouse", inN mt_2 105 (by decide +kernel) rfl⟩⟩
theorem flX1_34 : FL RX1 34 1 3 := ⟨(RX1, TX1, 21), rfl, by decide, Or.inl (inT mt_2 106 (by decide +kernel) rfl)⟩
theorem flX1_34o : FLo RX1 34 1 3 := ⟨(RX1, TX1, 21), rfl, by decide, rfl, inT mt_2 106 (by decide +kernel) rfl⟩
theorem flX9_386 : FL RX9 386 1 3 := ⟨(RX1, TX1, 21), rfl, by decide, Or.inr ⟨"PrinterHouse", inN mt_2 107 (by decide +kernel) rfl⟩⟩
theorem flX1_38 : FL RX1 38 1 4 := ⟨(RX1, TX1, 21), rfl, by decide, Or.inl (inT mt_2 108 (by decide +kernel) rfl)⟩
theorem flX1_38o : FLo RX1 38 1 4 := ⟨(RX1, TX1, 21), rfl, by decide, rfl, inT mt_2 108 (by decide +kernel) rfl⟩
theorem flX9_389 : FL RX9 389 1 4 := ⟨(RX1, TX1, 21), rfl, by decide, Or.inr ⟨"PrinterHouse", inN mt_2 109 (by decide +kernel) rfl⟩⟩
theorem flX1_57 : FL RX1 57 1 5 := ⟨(RX1, TX1, 21), rfl, by decide, Or.inl (inT mt_2 110 (by decide +kernel) rfl)⟩
theorem flX9_268 : FL RX9 268 1 5 := ⟨(RX1, TX1, 21), rfl, by decide, Or.inr ⟨"PrinterHouse", inN mt_2 111 (by decide +kernel) rfl⟩⟩
theorem flX1_61 : FL RX1 61 1 6 := ⟨(RX1, TX1, 21), rfl, by decide, Or.inl (inT mt_2 112 (by decide +kernel) rfl)⟩
theorem flX9_419 : FL RX9 419 1 6 := ⟨(RX1, TX1, 21), rfl, by decide, Or.inr ⟨"PrinterHouse", inN mt_2 113 (by decide +kernel) rfl⟩⟩
theorem flX1_65 : FL RX1 65 1 7 := ⟨(RX1, TX1, 21), rfl, by decide, Or.inl (inT mt_2 114 (by decide +kernel) rfl)⟩
theorem flX9_280 : FL RX9 280 1 7 := ⟨(RX1, TX1, 21), rfl, by decide, Or.inr ⟨"PrinterHouse", inN mt_2 115 (by decide +kernel) rfl⟩⟩
theorem flX1_68 : FL RX1 68 1 8 := ⟨(RX1, TX1, 21), rfl, by decide, Or.inl (inT mt_2 116 (by decide +kernel) rfl)⟩
theorem flX9_265 : FL RX9 265 1 8 := ⟨(RX1, TX1, 21), rfl, by decide, Or.inr ⟨"PrinterHouse", inN mt_2 117 (by decide +kernel) rfl⟩⟩
theorem flX1_71 : FL RX1 71 1 9 := ⟨(RX1, TX1, 21), rfl, by decide, Or.inl (inT mt_2 118 (by decide +kernel) rfl)⟩
theorem flX9_459 : FL RX9 459 1 9 := ⟨(RX1, TX1, 21), rfl, by decide, Or.inr ⟨"PrinterHouse", inN mt_2 119 (by decide +kernel) rfl⟩⟩
theorem flX1_74 : FL RX1 74 1 10 := ⟨(RX1, TX1, 21), rfl, by decide, Or.inl (inT mt_2 120 (by decide +kernel) rfl)⟩
theorem flX0_62 : FL RX0 62 1 10 := ⟨(RX1, TX1, 21), rfl, by decide, Or.inr ⟨"PrinterHouse", inN mt_2 121 (by decide +kernel) rfl⟩⟩
theorem flX9_646 : FL RX9 646 1 10 := ⟨(RX1, TX1, 21), rfl, by decide, Or.inr ⟨"PrinterHouse", inN mt_2 122 (by decide +kernel) rfl⟩⟩
theorem flX1_77 : FL RX1 77 1 11 := ⟨(RX1, TX1, 21), rfl, by decide, Or.inl (inT mt_2 123 (by decide +kernel) rfl)⟩
theorem flX0_68 : FL RX0 68 1 11 := ⟨(RX1, TX1, 21), rfl, by decide, Or.inr ⟨"PrinterHouse", inN mt_2 124 (by decide +kernel) rfl⟩⟩
theorem flX9_649 : FL RX9 649 1 11 := ⟨(RX1, TX1, 21), rfl, by decide, Or.inr ⟨"PrinterHouse", inN mt_2 125 (by decide +kernel) rfl⟩⟩
theorem flX1_80 : FL RX1 80 1 12 := ⟨(RX1, TX1, 21), rfl, by decide, Or.inl (inT mt_2 126 (by decide +kernel) rfl)⟩
theorem flX0_48 : FL RX0 48 1 12 := ⟨(RX1, TX1, 21), rfl, by decide, Or.inr ⟨"PrinterHouse", inN mt_2 127 (by decide +kernel) rfl⟩⟩
theorem flX9_453 : FL RX9 453 1 12 := ⟨(RX1, TX1, 21), rfl, by decide, Or.inr ⟨"PrinterHouse", inN mt_2 128 (by decide +kernel) rfl⟩⟩
theorem flX1_83 : FL RX1 83 1 13 := ⟨(RX1, TX1, 21), rfl, by decide, Or.inl (inT mt_2 129 (by decide +kernel) rfl)⟩
theorem flX0_56 : FL RX0 56 1 13 := ⟨(RX1, TX1, 21), rfl, by decide, Or.inr ⟨"PrinterHouse", inN mt_2 130 (by decide +kernel) rfl⟩⟩
theorem flX9_456 : FL RX9 456 1 13 := ⟨(RX1, TX1, 21), rfl, by decide, Or.inr ⟨"PrinterHouse", inN mt_2 131 (by decide +kernel) rfl⟩⟩
theorem flX1_86 : FL RX1 86 1 14 := ⟨(RX1, TX1, 21), rfl, by decide, Or.inl (inT mt_2 132 (by decide +kernel) rfl)⟩
theorem flX9_596 : FL RX9 596 1 14 := ⟨(RX1, TX1, 21), rfl, by decide, Or.inr ⟨"PrinterHouse", inN mt_2 133 (by decide +kernel) rfl⟩⟩
theorem flX1_89 : FL RX1 89 1 15 := ⟨(RX1, TX1, 21), rfl, by decide, Or.inl (inT mt_2 134 (by decide +kernel) rfl)⟩
theorem flX9_599 : FL RX9 599 1 15 := ⟨(RX1, TX1, 21), rfl, by decide, Or.inr ⟨"PrinterHouse", inN mt_2 135 (by decide +kernel) rfl⟩⟩
theorem flX1_92 : FL RX1 92 1 16 := ⟨(RX1, TX1, 21), rfl, by decide, Or.inl (inT mt_2 136 (by decide +kernel) rfl)⟩
theorem flX9_399 : FL RX9 399 1 16 := ⟨(RX1, TX1, 21), rfl, by decide, Or.inr ⟨"PrinterHouse", inN mt_2 137 (by decide +kernel) rfl⟩⟩
theorem flX1_95 : FL RX1 95 1 17 := ⟨(RX1, TX1, 21), rfl, by decide, Or.inl (inT mt_2 138 (by decide +kernel) rfl)⟩
theorem flX9_402 : FL RX9 402 1 17 := ⟨(RX1, TX1, 21), rfl, by decide, Or.inr ⟨"PrinterHouse", inN mt_2 139 (by decide +kernel) rfl⟩⟩
theorem flX1_98 : FL RX1 98 1 18 := ⟨(RX1, TX1, 21), rfl, by decide, Or.inl (inT mt_2 140 (by decide +kernel) rfl)⟩
theorem flX9_587 : FL RX9 587 1 18 := ⟨(RX1, TX1, 21), rfl, by decide, Or.inr ⟨"PrinterHouse", inN mt_2 141 (by decide +kernel) rfl⟩⟩
theorem flX1_101 : FL RX1 101 1 19 := ⟨(RX1, TX1, 21), rfl, by decide, Or.inl (inT mt_2 142 (by decide +kernel) rfl)⟩
theorem flX9_462 : FL RX9 462 1 19 := ⟨(RX1, TX1, 21), rfl, by decide, Or.inr ⟨"PrinterHouse", inN mt_2 143 (by decide +kernel) rfl⟩⟩
theorem flX1_104 : FL RX1 104 1 20 := ⟨(RX1, TX1, 21), rfl, by decide, Or.inl (inT mt_2 144 (by decide +kernel) rfl)⟩
theorem flX9_480 : FL RX9 480 1 20 := ⟨(RX1, TX1, 21), rfl, by decide, Or.inr ⟨"PrinterHouse", inN mt_2 145 (by decide +kernel) rfl⟩⟩
theorem ko_Environment_at : lw_tbl[623]? = some (Cond.arrayOver (.object "PrinterHouse$Environment")) := by decide +kernel
theorem klX9_68 : Cond.classLink RX9 68 RX5 ∈ TBL := inT mt_2 190 (by decide +kernel) rfl
theorem ko_Reading_at : lw_tbl[625]? = some (Cond.arrayOver (.object "PrinterHouse$Reading")) := by decide +kernel
theorem knX5 : Cond.instantiable RX5 13 ∈ TBL := inT mt_2 192 (by decide +kernel) rfl
theorem mlX9_81 : ML RX9 81 yX5_init := Or.inr ⟨"PrinterHouse", inN mt_2 193 (by decide +kernel) rfl⟩
set_option maxRecDepth 100000 in
theorem mcX5_init : MCi yX5_init cX5_init 1 0 := ⟨⟨inT mt_1 13 (by decide +kernel) rfl, inT mt_2 195 rfl rfl, ⟨by decide +kernel, by decide +kernel⟩, by decide +kernel⟩, inT mt_2 194 (by decide +kernel) rfl, rfl⟩
theorem mlX5_3 : ML RX5 3 objectInit := Or.inl (inT mt_2 196 (by decide +kernel) rfl)
theorem flX5_9 : FL RX5 9 5 0 := ⟨(RX5, TX5, 13), rfl, by decide, Or.inl (inT mt_2 197 (by decide +kernel) rfl)⟩
theorem flX9_493 : FL RX9 493 5 0 := ⟨(RX5, TX5, 13), rfl, by decide, Or.inr ⟨"PrinterHouse", inN mt_2 198 (by decide +kernel) rfl⟩⟩
theorem flX5_21 : FL RX5 21 5 1 := ⟨(RX5, TX5, 13), rfl, by decide, Or.inl (inT mt_2 199 (by decide +kernel) rfl)⟩
theorem flX9_201 : FL RX9 201 5 1 := ⟨(RX5, TX5, 13), rfl, by decide, Or.inr ⟨"PrinterHouse", inN mt_2 200 (by decide +kernel) rfl⟩⟩
theorem flX5_28 : FL RX5 28 5 2 := ⟨(RX5, TX5, 13), rfl, by decide, Or.inl (inT mt_2 201 (by decide +kernel) rfl)⟩
theorem flX9_336 : FL RX9 336 5 2 := ⟨(RX5, TX5, 13), rfl, by decide, Or.inr ⟨"PrinterHouse", inN mt_2 202 (by decide +kernel) rfl⟩⟩
theorem flX5_31 : FL RX5 31 5 3 := ⟨(RX5, TX5, 13), rfl, by decide, Or.inl (inT mt_2 203 (by decide +kernel) rfl)⟩
theorem flX9_217 : FL RX9 217 5 3 := ⟨(RX5, TX5, 13), rfl, by decide, Or.inr ⟨"PrinterHouse", inN mt_2 204 (by decide +kernel) rfl⟩⟩
theorem flX9_299 : FL RX9 299 5 4 := ⟨(RX5, TX5, 13), rfl, by decide, Or.inr ⟨"PrinterHouse", inN mt_2 205 (by decide +kernel) rfl⟩⟩
theorem flX9_327 : FL RX9 327 5 5 := ⟨(RX5, TX5, 13), rfl, by decide, Or.inr ⟨"PrinterHouse", inN mt_2 206 (by decide +kernel) rfl⟩⟩
theorem flX9_230 : FL RX9 230 5 6 := ⟨(RX5, TX5, 13), rfl, by decide, Or.inr ⟨"PrinterHouse", inN mt_2 207 (by decide +kernel) rfl⟩⟩
theorem flX5_42 : FL RX5 42 5 7 := ⟨(RX5, TX5, 13), rfl, by decide, Or.inl (inT mt_2 208 (by decide +kernel) rfl)⟩
theorem flX9_450 : FL RX9 450 5 7 := ⟨(RX5, TX5, 13), rfl, by decide, Or.inr ⟨"PrinterHouse", inN mt_2 209 (by decide +kernel) rfl⟩⟩
theorem flX5_38 : FL RX5 38 5 8 := ⟨(RX5, TX5, 13), rfl, by decide, Or.inl (inT mt_2 210 (by decide +kernel) rfl)⟩
theorem flX5_45 : FL RX5 45 5 9 := ⟨(RX5, TX5, 13), rfl, by decide, Or.inl (inT mt_2 211 (by decide +kernel) rfl)⟩
theorem flX5_48 : FL RX5 48 5 10 := ⟨(RX5, TX5, 13), rfl, by decide, Or.inl (inT mt_2 212 (by decide +kernel) rfl)⟩
theorem flX5_61 : FL RX5 61 5 11 := ⟨(RX5, TX5, 13), rfl, by decide, Or.inl (inT mt_2 213 (by decide +kernel) rfl)⟩
theorem flX9_330 : FL RX9 330 5 11 := ⟨(RX5, TX5, 13), rfl, by decide, Or.inr ⟨"PrinterHouse", inN mt_2 214 (by decide +kernel) rfl⟩⟩
theorem flX4_71 : FL RX4 71 5 12 := ⟨(RX5, TX5, 13), rfl, by decide, Or.inr ⟨"PrinterHouse", inN mt_2 215 (by decide +kernel) rfl⟩⟩
theorem flX2_69 : FL RX2 69 5 12 := ⟨(RX5, TX5, 13), rfl, by decide, Or.inr ⟨"PrinterHouse", inN mt_2 216 (by decide +kernel) rfl⟩⟩
theorem flX5_64 : FL RX5 64 5 12 := ⟨(RX5, TX5, 13), rfl, by decide, Or.inl (inT mt_2 217 (by decide +kernel) rfl)⟩
theorem flX9_318 : FL RX9 318 5 12 := ⟨(RX5, TX5, 13), rfl, by decide, Or.inr ⟨"PrinterHouse", inN mt_2 218 (by decide +kernel) rfl⟩⟩
theorem flX9_77 : FL RX9 77 9 0 := ⟨(RX9, TX9, 19), rfl, by decide, Or.inl (inT mt_3 6 (by decide +kernel) rfl)⟩
theorem flX9_77o : FLo RX9 77 9 0 := ⟨(RX9, TX9, 19), rfl, by decide, rfl, inT mt_3 6 (by decide +kernel) rfl⟩
theorem flX9_12 : FL RX9 12 9 1 := ⟨(RX9, TX9, 19), rfl, by decide, Or.inl (inT mt_3 7 (by decide +kernel) rfl)⟩
theorem flX9_12o : FLo RX9 12 9 1 := ⟨(RX9, TX9, 19), rfl, by decide, rfl, inT mt_3 7 (by decide +kernel) rfl⟩
theorem flX9_21 : FL RX9 21 9 2 := ⟨(RX9, TX9, 19), rfl, by decide, Or.inl (inT mt_3 8 (by decide +kernel) rfl)⟩
theorem flX9_21o : FLo RX9 21 9 2 := ⟨(RX9, TX9, 19), rfl, by decide, rfl, inT mt_3 8 (by decide +kernel) rfl⟩
theorem flX9_28 : FL RX9 28 9 3 := ⟨(RX9, TX9, 19), rfl, by decide, Or.inl (inT mt_3 9 (by decide +kernel) rfl)⟩
theorem flX9_28o : FLo RX9 28 9 3 := ⟨(RX9, TX9, 19), rfl, by decide, rfl, inT mt_3 9 (by decide +kernel) rfl⟩
theorem flX9_34 : FL RX9 34 9 4 := ⟨(RX9, TX9, 19), rfl, by decide, Or.inl (inT mt_3 10 (by decide +kernel) rfl)⟩
theorem flX9_34o : FLo RX9 34 9 4 := ⟨(RX9, TX9, 19), rfl, by decide, rfl, inT mt_3 10 (by decide +kernel) rfl⟩
theorem flX9_39 : FL RX9 39 9 5 := ⟨(RX9, TX9, 19), rfl, by decide, Or.inl (inT mt_3 11 (by decide +kernel) rfl)⟩
theorem flX9_39o : FLo RX9 39 9 5 := ⟨(RX9, TX9, 19), rfl, by decide, rfl, inT mt_3 11 (by decide +kernel) rfl⟩
theorem flX9_43 : FL RX9 43 9 6 := ⟨(RX9, TX9, 19), rfl, by decide, Or.inl (inT mt_3 12 (by decide +kernel) rfl)⟩
theorem flX9_43o : FLo RX9 43 9 6 := ⟨(RX9, TX9, 19), rfl, by decide, rfl, inT mt_3 12 (by decide +kernel) rfl⟩
theorem flX9_46 : FL RX9 46 9 7 := ⟨(RX9, TX9, 19), rfl, by decide, Or.inl (inT mt_3 13 (by decide +kernel) rfl)⟩
theorem flX9_46o : FLo RX9 46 9 7 := ⟨(RX9, TX9, 19), rfl, by decide, rfl, inT mt_3 13 (by decide +kernel) rfl⟩
theorem flX9_50 : FL RX9 50 9 8 := ⟨(RX9, TX9, 19), rfl, by decide, Or.inl (inT mt_3 14 (by decide +kernel) rfl)⟩
theorem flX9_50o : FLo RX9 50 9 8 := ⟨(RX9, TX9, 19), rfl, by decide, rfl, inT mt_3 14 (by decide +kernel) rfl⟩
theorem flX9_57 : FL RX9 57 9 9 := ⟨(RX9, TX9, 19), rfl, by decide, Or.inl (inT mt_3 15 (by decide +kernel) rfl)⟩
theorem flX9_57o : FLo RX9 57 9 9 := ⟨(RX9, TX9, 19), rfl, by decide, rfl, inT mt_3 15 (by decide +kernel) rfl⟩
theorem flX9_61 : FL RX9 61 9 10 := ⟨(RX9, TX9, 19), rfl, by decide, Or.inl (inT mt_3 16 (by decide +kernel) rfl)⟩
theorem flX9_61o : FLo RX9 61 9 10 := ⟨(RX9, TX9, 19), rfl, by decide, rfl, inT mt_3 16 (by decide +kernel) rfl⟩
theorem flX9_64 : FL RX9 64 9 11 := ⟨(RX9, TX9, 19), rfl, by decide, Or.inl (inT mt_3 17 (by decide +kernel) rfl)⟩
theorem flX9_64o : FLo RX9 64 9 11 := ⟨(RX9, TX9, 19), rfl, by decide, rfl, inT mt_3 17 (by decide +kernel) rfl⟩
theorem flX9_70 : FL RX9 70 9 12 := ⟨(RX9, TX9, 19), rfl, by decide, Or.inl (inT mt_3 18 (by decide +kernel) rfl)⟩
theorem flX9_70o : FLo RX9 70 9 12 := ⟨(RX9, TX9, 19), rfl, by decide, rfl, inT mt_3 18 (by decide +kernel) rfl⟩
theorem flX9_82 : FL RX9 82 9 13 := ⟨(RX9, TX9, 19), rfl, by decide, Or.inl (inT mt_3 19 (by decide +kernel) rfl)⟩
theorem flX9_108 : FL RX9 108 9 14 := ⟨(RX9, TX9, 19), rfl, by decide, Or.inl (inT mt_3 20 (by decide +kernel) rfl)⟩
theorem flX9_111 : FL RX9 111 9 15 := ⟨(RX9, TX9, 19), rfl, by decide, Or.inl (inT mt_3 21 (by decide +kernel) rfl)⟩
theorem flX9_86 : FL RX9 86 9 16 := ⟨(RX9, TX9, 19), rfl, by decide, Or.inl (inT mt_3 22 (by decide +kernel) rfl)⟩
theorem flX9_74 : FL RX9 74 9 17 := ⟨(RX9, TX9, 19), rfl, by decide, Or.inl (inT mt_3 23 (by decide +kernel) rfl)⟩
theorem flX9_74o : FLo RX9 74 9 17 := ⟨(RX9, TX9, 19), rfl, by decide, rfl, inT mt_3 23 (by decide +kernel) rfl⟩
theorem flX9_126 : FL RX9 126 9 18 := ⟨(RX9, TX9, 19), rfl, by decide, Or.inl (inT mt_3 24 (by decide +kernel) rfl)⟩
theorem klX11_46 : Cond.classLink RX11 46 RX3 ∈ TBL := inT mt_3 64 (by decide +kernel) rfl
theorem knX3 : Cond.instantiable RX3 21 ∈ TBL := inT mt_3 65 (by decide +kernel) rfl
theorem mlX11_48 : ML RX11 48 yX3_init := Or.inl (inT mt_3 66 (by decide +kernel) rfl)
set_option maxRecDepth 100000 in
theorem mcX3_init : MCi yX3_init cX3_init 7 1 := ⟨⟨inT mt_1 14 (by decide +kernel) rfl, inT mt_3 68 rfl rfl, ⟨by decide +kernel, by decide +kernel⟩, by decide +kernel⟩, inT mt_3 67 (by decide +kernel) rfl, rfl⟩
theorem mlX3_3 : ML RX3 3 objectInit := Or.inl (inT mt_3 69 (by decide +kernel) rfl)
theorem gsX3_30 : Cond.fieldLinkNest RX3 30 "PrinterHouse" "RUN_CODES" "[I" "PrinterHouse" ∈ NST := inN mt_3 70 (by decide +kernel) rfl
theorem gsX3_34 : Cond.fieldLinkNest RX3 34 "PrinterHouse" "RUN_BITS" "[I" "PrinterHouse" ∈ NST := inN mt_3 72 (by decide +kernel) rfl
theorem flX3_26 : FL RX3 26 3 0 := ⟨(RX3, TX3, 21), rfl, by decide, Or.inl (inT mt_3 74 (by decide +kernel) rfl)⟩
theorem flX3_26o : FLo RX3 26 3 0 := ⟨(RX3, TX3, 21), rfl, by decide, rfl, inT mt_3 74 (by decide +kernel) rfl⟩
theorem flX3_9 : FL RX3 9 3 1 := ⟨(RX3, TX3, 21), rfl, by decide, Or.inl (inT mt_3 75 (by decide +kernel) rfl)⟩
theorem flX3_37 : FL RX3 37 3 2 := ⟨(RX3, TX3, 21), rfl, by decide, Or.inl (inT mt_3 76 (by decide +kernel) rfl)⟩
theorem flX3_41 : FL RX3 41 3 3 := ⟨(RX3, TX3, 21), rfl, by decide, Or.inl (inT mt_3 77 (by decide +kernel) rfl)⟩
theorem flX3_44 : FL RX3 44 3 4 := ⟨(RX3, TX3, 21), rfl, by decide, Or.inl (inT mt_3 78 (by decide +kernel) rfl)⟩
theorem flX11_89 : FL RX11 89 3 4 := ⟨(RX3, TX3, 21), rfl, by decide, Or.inr ⟨"PrinterHouse", inN mt_3 79 (by decide +kernel) rfl⟩⟩
theorem flX3_47 : FL RX3 47 3 5 := ⟨(RX3, TX3, 21), rfl, by decide, Or.inl (inT mt_3 80 (by decide +kernel) rfl)⟩
theorem flX11_92 : FL RX11 92 3 5 := ⟨(RX3, TX3, 21), rfl, by decide, Or.inr ⟨"PrinterHouse", inN mt_3 81 (by decide +kernel) rfl⟩⟩
theorem flX3_72 : FL RX3 72 3 6 := ⟨(RX3, TX3, 21), rfl, by decide, Or.inl (inT mt_3 82 (by decide +kernel) rfl)⟩
theorem flX3_15 : FL RX3 15 3 7 := ⟨(RX3, TX3, 21), rfl, by decide, Or.inl (inT mt_3 83 (by decide +kernel) rfl)⟩
theorem flX3_15o : FLo RX3 15 3 7 := ⟨(RX3, TX3, 21), rfl, by decide, rfl, inT mt_3 83 (by decide +kernel) rfl⟩
theorem flX3_50 : FL RX3 50 3 8 := ⟨(RX3, TX3, 21), rfl, by decide, Or.inl (inT mt_3 84 (by decide +kernel) rfl)⟩
theorem flX3_105 : FL RX3 105 3 9 := ⟨(RX3, TX3, 21), rfl, by decide, Or.inl (inT mt_3 85 (by decide +kernel) rfl)⟩
theorem flX3_109 : FL RX3 109 3 10 := ⟨(RX3, TX3, 21), rfl, by decide, Or.inl (inT mt_3 86 (by decide +kernel) rfl)⟩
theorem flX3_123 : FL RX3 123 3 11 := ⟨(RX3, TX3, 21), rfl, by decide, Or.inl (inT mt_3 87 (by decide +kernel) rfl)⟩
theorem flX3_126 : FL RX3 126 3 12 := ⟨(RX3, TX3, 21), rfl, by decide, Or.inl (inT mt_3 88 (by decide +kernel) rfl)⟩
theorem flX3_129 : FL RX3 129 3 13 := ⟨(RX3, TX3, 21), rfl, by decide, Or.inl (inT mt_3 89 (by decide +kernel) rfl)⟩
theorem flX3_132 : FL RX3 132 3 14 := ⟨(RX3, TX3, 21), rfl, by decide, Or.inl (inT mt_3 90 (by decide +kernel) rfl)⟩
theorem flX3_135 : FL RX3 135 3 15 := ⟨(RX3, TX3, 21), rfl, by decide, Or.inl (inT mt_3 91 (by decide +kernel) rfl)⟩
theorem flX3_138 : FL RX3 138 3 16 := ⟨(RX3, TX3, 21), rfl, by decide, Or.inl (inT mt_3 92 (by decide +kernel) rfl)⟩
theorem flX3_19 : FL RX3 19 3 17 := ⟨(RX3, TX3, 21), rfl, by decide, Or.inl (inT mt_3 93 (by decide +kernel) rfl)⟩
theorem flX3_19o : FLo RX3 19 3 17 := ⟨(RX3, TX3, 21), rfl, by decide, rfl, inT mt_3 93 (by decide +kernel) rfl⟩
theorem flX3_198 : FL RX3 198 3 18 := ⟨(RX3, TX3, 21), rfl, by decide, Or.inl (inT mt_3 94 (by decide +kernel) rfl)⟩
theorem flX3_204 : FL RX3 204 3 19 := ⟨(RX3, TX3, 21), rfl, by decide, Or.inl (inT mt_3 95 (by decide +kernel) rfl)⟩
theorem flX3_22 : FL RX3 22 3 20 := ⟨(RX3, TX3, 21), rfl, by decide, Or.inl (inT mt_3 96 (by decide +kernel) rfl)⟩
theorem flX3_22o : FLo RX3 22 3 20 := ⟨(RX3, TX3, 21), rfl, by decide, rfl, inT mt_3 96 (by decide +kernel) rfl⟩
theorem ka_short : Cond.arrayClass .short ∈ TBL := inT mt_3 140 (by decide +kernel) rfl
theorem flX11_9 : FL RX11 9 11 0 := ⟨(RX11, TX11, 12), rfl, by decide, Or.inl (inT mt_3 141 (by decide +kernel) rfl)⟩
theorem flX11_9o : FLo RX11 9 11 0 := ⟨(RX11, TX11, 12), rfl, by decide, rfl, inT mt_3 141 (by decide +kernel) rfl⟩
theorem flX11_53 : FL RX11 53 11 1 := ⟨(RX11, TX11, 12), rfl, by decide, Or.inl (inT mt_3 142 (by decide +kernel) rfl)⟩
theorem flX11_13 : FL RX11 13 11 2 := ⟨(RX11, TX11, 12), rfl, by decide, Or.inl (inT mt_3 143 (by decide +kernel) rfl)⟩
theorem flX11_13o : FLo RX11 13 11 2 := ⟨(RX11, TX11, 12), rfl, by decide, rfl, inT mt_3 143 (by decide +kernel) rfl⟩
theorem flX11_16 : FL RX11 16 11 3 := ⟨(RX11, TX11, 12), rfl, by decide, Or.inl (inT mt_3 144 (by decide +kernel) rfl)⟩
theorem flX11_16o : FLo RX11 16 11 3 := ⟨(RX11, TX11, 12), rfl, by decide, rfl, inT mt_3 144 (by decide +kernel) rfl⟩
theorem flX11_20 : FL RX11 20 11 4 := ⟨(RX11, TX11, 12), rfl, by decide, Or.inl (inT mt_3 145 (by decide +kernel) rfl)⟩
theorem flX11_20o : FLo RX11 20 11 4 := ⟨(RX11, TX11, 12), rfl, by decide, rfl, inT mt_3 145 (by decide +kernel) rfl⟩
theorem flX11_60 : FL RX11 60 11 5 := ⟨(RX11, TX11, 12), rfl, by decide, Or.inl (inT mt_3 146 (by decide +kernel) rfl)⟩
theorem flX11_33 : FL RX11 33 11 6 := ⟨(RX11, TX11, 12), rfl, by decide, Or.inl (inT mt_3 147 (by decide +kernel) rfl)⟩
theorem flX11_33o : FLo RX11 33 11 6 := ⟨(RX11, TX11, 12), rfl, by decide, rfl, inT mt_3 147 (by decide +kernel) rfl⟩
theorem flX11_42 : FL RX11 42 11 7 := ⟨(RX11, TX11, 12), rfl, by decide, Or.inl (inT mt_3 148 (by decide +kernel) rfl)⟩
theorem flX11_42o : FLo RX11 42 11 7 := ⟨(RX11, TX11, 12), rfl, by decide, rfl, inT mt_3 148 (by decide +kernel) rfl⟩
theorem flX11_49 : FL RX11 49 11 8 := ⟨(RX11, TX11, 12), rfl, by decide, Or.inl (inT mt_3 149 (by decide +kernel) rfl)⟩
theorem flX11_49o : FLo RX11 49 11 8 := ⟨(RX11, TX11, 12), rfl, by decide, rfl, inT mt_3 149 (by decide +kernel) rfl⟩
theorem flX11_69 : FL RX11 69 11 9 := ⟨(RX11, TX11, 12), rfl, by decide, Or.inl (inT mt_3 150 (by decide +kernel) rfl)⟩
theorem flX11_23 : FL RX11 23 11 10 := ⟨(RX11, TX11, 12), rfl, by decide, Or.inl (inT mt_3 151 (by decide +kernel) rfl)⟩
theorem flX11_27 : FL RX11 27 11 11 := ⟨(RX11, TX11, 12), rfl, by decide, Or.inl (inT mt_3 152 (by decide +kernel) rfl)⟩
theorem mlL_13 : ML RL 13 yX11_feed := Or.inl (inT mt_3 178 (by decide +kernel) rfl)
set_option maxRecDepth 100000 in
theorem mcX11_feed : MCv yX11_feed cX11_feed 6 (some .int) 5 := ⟨⟨inT mt_1 1 (by decide +kernel) rfl, inT mt_3 181 rfl rfl, ⟨by decide +kernel, by decide +kernel⟩, by decide +kernel⟩, inT mt_3 179 (by decide +kernel) rfl, inT mt_3 180 (by decide +kernel) rfl⟩
theorem mlX11_56 : ML RX11 56 yX11_feedNumber := Or.inl (inT mt_3 182 (by decide +kernel) rfl)
set_option maxRecDepth 100000 in
theorem mcX11_feedNumber : MCv yX11_feedNumber cX11_feedNumber 3 none 1 := ⟨⟨inT mt_1 1 (by decide +kernel) rfl, inT mt_3 185 rfl rfl, ⟨by decide +kernel, by decide +kernel⟩, by decide +kernel⟩, inT mt_3 184 (by decide +kernel) rfl, inT mt_0 1 (by decide +kernel) rfl⟩
theorem mlL_18 : ML RL 18 yX11_cut := Or.inl (inT mt_3 186 (by decide +kernel) rfl)
set_option maxRecDepth 100000 in
theorem mcX11_cut : MCv yX11_cut cX11_cut 3 (some .int) 1 := ⟨⟨inT mt_1 1 (by decide +kernel) rfl, inT mt_3 189 rfl rfl, ⟨by decide +kernel, by decide +kernel⟩, by decide +kernel⟩, inT mt_3 187 (by decide +kernel) rfl, inT mt_3 188 (by decide +kernel) rfl⟩
theorem mlL_23 : ML RL 23 yX11_part := Or.inl (inT mt_3 190 (by decide +kernel) rfl)
set_option maxRecDepth 100000 in
theorem mcX11_part : MCv yX11_part cX11_part 4 (some .int) 1 := ⟨⟨inT mt_1 1 (by decide +kernel) rfl, inT mt_3 193 rfl rfl, ⟨by decide +kernel, by decide +kernel⟩, by decide +kernel⟩, inT mt_3 191 (by decide +kernel) rfl, inT mt_3 192 (by decide +kernel) rfl⟩
theorem mlX11_63 : Cond.methodLink RX11 63 ⟨"java/lang/System", "arraycopy", "(Ljava/lang/Object;ILjava/lang/Object;II)V"⟩ ∈ TBL := inT mt_3 194 (by decide +kernel) rfl
theorem mlL_27 : ML RL 27 yX11_drop := Or.inl (inT mt_3 195 (by decide +kernel) rfl)
set_option maxRecDepth 100000 in
theorem mcX11_drop : MCv yX11_drop cX11_drop 2 (some .int) 0 := ⟨⟨inT mt_1 1 (by decide +kernel) rfl, inT mt_3 198 rfl rfl, ⟨by decide +kernel, by decide +kernel⟩, by decide +kernel⟩, inT mt_3 196 (by decide +kernel) rfl, inT mt_3 197 (by decide +kernel) rfl⟩
theorem mlL_32 : ML RL 32 yX11_print := Or.inl (inT mt_3 199 (by decide +kernel) rfl)
set_option maxRecDepth 100000 in
theorem mcX11_print : MCv yX11_print cX11_print 3 (some .int) 1 := ⟨⟨inT mt_1 1 (by decide +kernel) rfl, inT mt_3 202 rfl rfl, ⟨by decide +kernel, by decide +kernel⟩, by decide +kernel⟩, inT mt_3 200 (by decide +kernel) rfl, inT mt_3 201 (by decide +kernel) rfl⟩
theorem mlX11_72 : ML RX11 72 yX6_clear := Or.inl (inT mt_3 203 (by decide +kernel) rfl)
set_option maxRecDepth 100000 in
theorem mcX6_clear : MCv yX6_clear cX6_clear 1 none 0 := ⟨⟨inT mt_1 2 (by decide +kernel) rfl, inT mt_3 206 rfl rfl, ⟨by decide +kernel, by decide +kernel⟩, by decide +kernel⟩, inT mt_3 204 (by decide +kernel) rfl, inT mt_3 205 (by decide +kernel) rfl⟩
theorem mlX11_75 : ML RX11 75 yX9_startJob := Or.inl (inT mt_3 207 (by decide +kernel) rfl)
set_option maxRecDepth 100000 in
theorem mcX9_startJob : MCv yX9_startJob cX9_startJob 1 none 0 := ⟨⟨inT mt_1 3 (by decide +kernel) rfl, inT mt_3 210 rfl rfl, ⟨by decide +kernel, by decide +kernel⟩, by decide +kernel⟩, inT mt_3 208 (by decide +kernel) rfl, inT mt_3 209 (by decide +kernel) rfl⟩
theorem mlX9_98 : ML RX9 98 yX0_startJob := Or.inl (inT mt_3 211 (by decide +kernel) rfl)
set_option maxRecDepth 100000 in
theorem mcX0_startJob : MCv yX0_startJob cX0_startJob 1 none 0 := ⟨⟨inT mt_1 4 (by decide +kernel) rfl, inT mt_3 214 rfl rfl, ⟨by decide +kernel, by decide +kernel⟩, by decide +kernel⟩, inT mt_3 212 (by decide +kernel) rfl, inT mt_3 213 (by decide +kernel) rfl⟩
theorem mlX0_36 : ML RX0 36 yX0_clear := Or.inl (inT mt_3 215 (by decide +kernel) rfl)
set_option maxRecDepth 100000 in
theorem mcX0_clear : MCv yX0_clear cX0_clear 1 none 0 := ⟨⟨inT mt_1 4 (by decide +kernel) rfl, inT mt_3 218 rfl rfl, ⟨by decide +kernel, by decide +kernel⟩, by decide +kernel⟩, inT mt_3 216 (by decide +kernel) rfl, inT mt_3 217 (by decide +kernel) rfl⟩
theorem mlX0_42 : ML RX0 42 yJ7_fill_53178 := Or.inl (inT mt_3 219 (by decide +kernel) rfl)
theorem mlX11_78 : ML RX11 78 yX9_run := Or.inl (inT mt_3 220 (by decide +kernel) rfl)
set_option maxRecDepth 100000 in
theorem mcX9_run : MCv yX9_run cX9_run 4 none 3 := ⟨⟨inT mt_1 3 (by decide +kernel) rfl, inT mt_3 223 rfl rfl, ⟨by decide +kernel, by decide +kernel⟩, by decide +kernel⟩, inT mt_3 221 (by decide +kernel) rfl, inT mt_3 222 (by decide +kernel) rfl⟩
theorem mlX9_101 : ML RX9 101 yX1_reset := Or.inl (inT mt_3 224 (by decide +kernel) rfl)
set_option maxRecDepth 100000 in
theorem mcX1_reset : MCv yX1_reset cX1_reset 3 none 2 := ⟨⟨inT mt_1 10 (by decide +kernel) rfl, inT mt_3 227 rfl rfl, ⟨by decide +kernel, by decide +kernel⟩, by decide +kernel⟩, inT mt_3 225 (by decide +kernel) rfl, inT mt_3 226 (by decide +kernel) rfl⟩
theorem mlX1_107 : ML RX1 107 yX7_reset := Or.inl (inT mt_3 228 (by decide +kernel) rfl)
set_option maxRecDepth 100000 in
theorem mcX7_reset : MCv yX7_reset cX7_reset 1 none 0 := ⟨⟨inT mt_1 11 (by decide +kernel) rfl, inT mt_3 231 rfl rfl, ⟨by decide +kernel, by decide +kernel⟩, by decide +kernel⟩, inT mt_3 229 (by decide +kernel) rfl, inT mt_3 230 (by decide +kernel) rfl⟩
theorem mlX1_110 : ML RX1 110 yX7_turn := Or.inl (inT mt_3 232 (by decide +kernel) rfl)
set_option maxRecDepth 100000 in
theorem mcX7_turn : MCv yX7_turn cX7_turn 3 none 2 := ⟨⟨inT mt_1 11 (by decide +kernel) rfl, inT mt_3 235 rfl rfl, ⟨by decide +kernel, by decide +kernel⟩, by decide +kernel⟩, inT mt_3 233 (by decide +kernel) rfl, inT mt_3 234 (by decide +kernel) rfl⟩
theorem mlX7_58 : ML RX7 58 yX7_down := Or.inl (inT mt_3 236 (by decide +kernel) rfl)
set_option maxRecDepth 100000 in
theorem mcX7_down : MCv yX7_down cX7_down 1 (some .int) 0 := ⟨⟨inT mt_1 11 (by decide +kernel) rfl, inT mt_3 239 rfl rfl, ⟨by decide +kernel, by decide +kernel⟩, by decide +kernel⟩, inT mt_3 237 (by decide +kernel) rfl, inT mt_3 238 (by decide +kernel) rfl⟩
theorem mlX7_84 : ML RX7 84 yX7_dotsDown := Or.inl (inT mt_4 0 (by decide +kernel) rfl)
set_option maxRecDepth 100000 in
theorem mcX7_dotsDown : MCv yX7_dotsDown cX7_dotsDown 1 (some .int) 0 := ⟨⟨inT mt_1 11 (by decide +kernel) rfl, inT mt_4 3 rfl rfl, ⟨by decide +kernel, by decide +kernel⟩, by decide +kernel⟩, inT mt_4 1 (by decide +kernel) rfl, inT mt_4 2 (by decide +kernel) rfl⟩
theorem gsX7_78 : Cond.fieldLinkNest RX7 78 "PrinterHouse" "FORMAT_HIGH" "[I" "PrinterHouse" ∈ NST := inN mt_4 4 (by decide +kernel) rfl
theorem gsX7_75 : Cond.fieldLinkNest RX7 75 "PrinterHouse" "FORMAT_WIDE" "[I" "PrinterHouse" ∈ NST := inN mt_4 6 (by decide +kernel) rfl
theorem mlX7_62 : ML RX7 62 yX7_clearMargins := Or.inl (inT mt_4 8 (by decide +kernel) rfl)
set_option maxRecDepth 100000 in
theorem mcX7_clearMargins : MCv yX7_clearMargins cX7_clearMargins 1 none 0 := ⟨⟨inT mt_1 11 (by decide +kernel) rfl, inT mt_4 11 rfl rfl, ⟨by decide +kernel, by decide +kernel⟩, by decide +kernel⟩, inT mt_4 9 (by decide +kernel) rfl, inT mt_4 10 (by decide +kernel) rfl⟩
theorem mlX7_72 : ML RX7 72 yX7_across := Or.inl (inT mt_4 12 (by decide +kernel) rfl)
set_option maxRecDepth 100000 in
theorem mcX7_across : MCv yX7_across cX7_across 1 (some .int) 0 := ⟨⟨inT mt_1 11 (by decide +kernel) rfl, inT mt_4 15 rfl rfl, ⟨by decide +kernel, by decide +kernel⟩, by decide +kernel⟩, inT mt_4 13 (by decide +kernel) rfl, inT mt_4 14 (by decide +kernel) rfl⟩
theorem mlX7_81 : ML RX7 81 yX7_dotsAcross := Or.inl (inT mt_4 16 (by decide +kernel) rfl)
set_option maxRecDepth 100000 in
theorem mcX7_dotsAcross : MCv yX7_dotsAcross cX7_dotsAcross 1 (some .int) 0 := ⟨⟨inT mt_1 11 (by decide +kernel) rfl, inT mt_4 19 rfl rfl, ⟨by decide +kernel, by decide +kernel⟩, by decide +kernel⟩, inT mt_4 17 (by decide +kernel) rfl, inT mt_4 18 (by decide +kernel) rfl⟩
theorem mlX7_65 : ML RX7 65 yX7_moveX := Or.inl (inT mt_4 20 (by decide +kernel) rfl)
set_option maxRecDepth 100000 in
theorem mcX7_moveX : MCv yX7_moveX cX7_moveX 3 none 1 := ⟨⟨inT mt_1 11 (by decide +kernel) rfl, inT mt_4 23 rfl rfl, ⟨by decide +kernel, by decide +kernel⟩, by decide +kernel⟩, inT mt_4 21 (by decide +kernel) rfl, inT mt_4 22 (by decide +kernel) rfl⟩
theorem mlX7_90 : ML RX7 90 yJ9_min_f86c9 := Or.inl (inT mt_4 24 (by decide +kernel) rfl)
set_option maxRecDepth 100000 in
theorem mcJ9_min_f86c9 : MCs yJ9_min_f86c9 cJ9_min_f86c9 4 (some .long) 2 := ⟨⟨inT mt_1 20 (by decide +kernel) rfl, inT mt_4 26 rfl rfl, ⟨by decide +kernel, by decide +kernel⟩, by decide +kernel⟩, inT mt_4 25 (by decide +kernel) rfl⟩
theorem mlX7_96 : ML RX7 96 yJ9_max_f86c9 := Or.inl (inT mt_4 27 (by decide +kernel) rfl)
set_option maxRecDepth 100000 in
theorem mcJ9_max_f86c9 : MCs yJ9_max_f86c9 cJ9_max_f86c9 4 (some .long) 2 := ⟨⟨inT mt_1 20 (by decide +kernel) rfl, inT mt_4 29 rfl rfl, ⟨by decide +kernel, by decide +kernel⟩, by decide +kernel⟩, inT mt_4 28 (by decide +kernel) rfl⟩
theorem mlX7_69 : ML RX7 69 yX7_homeY := Or.inl (inT mt_4 30 (by decide +kernel) rfl)
set_option maxRecDepth 100000 in
theorem mcX7_homeY : MCv yX7_homeY cX7_homeY 1 none 0 := ⟨⟨inT mt_1 11 (by decide +kernel) rfl, inT mt_4 33 rfl rfl, ⟨by decide +kernel, by decide +kernel⟩, by decide +kernel⟩, inT mt_4 31 (by decide +kernel) rfl, inT mt_4 32 (by decide +kernel) rfl⟩
theorem mlX7_87 : ML RX7 87 yX7_moveY := Or.inl (inT mt_4 34 (by decide +kernel) rfl)
set_option maxRecDepth 100000 in
theorem mcX7_moveY : MCv yX7_moveY cX7_moveY 3 none 1 := ⟨⟨inT mt_1 11 (by decide +kernel) rfl, inT mt_4 37 rfl rfl, ⟨by decide +kernel, by decide +kernel⟩, by decide +kernel⟩, inT mt_4 35 (by decide +kernel) rfl, inT mt_4 36 (by decide +kernel) rfl⟩
theorem mlX1_114 : ML RX1 114 yX4_reset := Or.inl (inT mt_4 38 (by decide +kernel) rfl)
set_option maxRecDepth 100000 in
theorem mcX4_reset : MCv yX4_reset cX4_reset 1 none 0 := ⟨⟨inT mt_1 12 (by decide +kernel) rfl, inT mt_4 41 rfl rfl, ⟨by decide +kernel, by decide +kernel⟩, by decide +kernel⟩, inT mt_4 39 (by decide +kernel) rfl, inT mt_4 40 (by decide +kernel) rfl⟩
theorem mlX4_42 : ML RX4 42 yX4_clearRow := Or.inl (inT mt_4 42 (by decide +kernel) rfl)
set_option maxRecDepth 100000 in
theorem mcX4_clearRow : MCv yX4_clearRow cX4_clearRow 1 none 0 := ⟨⟨inT mt_1 12 (by decide +kernel) rfl, inT mt_4 45 rfl rfl, ⟨by decide +kernel, by decide +kernel⟩, by decide +kernel⟩, inT mt_4 43 (by decide +kernel) rfl, inT mt_4 44 (by decide +kernel) rfl⟩
theorem mlX4_49 : ML RX4 49 yJ7_fill_53178 := Or.inl (inT mt_4 46 (by decide +kernel) rfl)
theorem mlX4_45 : ML RX4 45 yX4_end := Or.inl (inT mt_4 47 (by decide +kernel) rfl)
set_option maxRecDepth 100000 in
theorem mcX4_end : MCv yX4_end cX4_end 2 none 1 := ⟨⟨inT mt_1 12 (by decide +kernel) rfl, inT mt_4 50 rfl rfl, ⟨by decide +kernel, by decide +kernel⟩, by decide +kernel⟩, inT mt_4 48 (by decide +kernel) rfl, inT mt_4 49 (by decide +kernel) rfl⟩
theorem mlX1_115 : ML RX1 115 yX10_solid := Or.inl (inT mt_4 51 (by decide +kernel) rfl)
set_option maxRecDepth 100000 in
theorem mcX10_solid : MCv yX10_solid cX10_solid 1 none 0 := ⟨⟨inT mt_1 5 (by decide +kernel) rfl, inT mt_4 54 rfl rfl, ⟨by decide +kernel, by decide +kernel⟩, by decide +kernel⟩, inT mt_4 52 (by decide +kernel) rfl, inT mt_4 53 (by decide +kernel) rfl⟩
theorem mlX10_39 : ML RX10 39 yX10_size := Or.inl (inT mt_4 55 (by decide +kernel) rfl)
set_option maxRecDepth 100000 in
theorem mcX10_size : MCv yX10_size cX10_size 3 none 2 := ⟨⟨inT mt_1 5 (by decide +kernel) rfl, inT mt_4 58 rfl rfl, ⟨by decide +kernel, by decide +kernel⟩, by decide +kernel⟩, inT mt_4 56 (by decide +kernel) rfl, inT mt_4 57 (by decide +kernel) rfl⟩
theorem mlX10_30 : ML RX10 30 yJ9_min_7cf53 := Or.inl (inT mt_4 59 (by decide +kernel) rfl)
set_option maxRecDepth 100000 in
theorem mcJ9_min_7cf53 : MCs yJ9_min_7cf53 cJ9_min_7cf53 2 (some .int) 2 := ⟨⟨inT mt_1 20 (by decide +kernel) rfl, inT mt_4 61 rfl rfl, ⟨by decide +kernel, by decide +kernel⟩, by decide +kernel⟩, inT mt_4 60 (by decide +kernel) rfl⟩
theorem mlX10_36 : ML RX10 36 yJ9_max_7cf53 := Or.inl (inT mt_4 62 (by decide +kernel) rfl)
set_option maxRecDepth 100000 in
theorem mcJ9_max_7cf53 : MCs yJ9_max_7cf53 cJ9_max_7cf53 2 (some .int) 2 := ⟨⟨inT mt_1 20 (by decide +kernel) rfl, inT mt_4 64 rfl rfl, ⟨by decide +kernel, by decide +kernel⟩, by decide +kernel⟩, inT mt_4 63 (by decide +kernel) rfl⟩
theorem mlX10_43 : ML RX10 43 yX10_setRow := Or.inl (inT mt_4 65 (by decide +kernel) rfl)
set_option maxRecDepth 100000 in
theorem mcX10_setRow : MCv yX10_setRow cX10_setRow 6 none 2 := ⟨⟨inT mt_1 5 (by decide +kernel) rfl, inT mt_4 68 rfl rfl, ⟨by decide +kernel, by decide +kernel⟩, by decide +kernel⟩, inT mt_4 66 (by decide +kernel) rfl, inT mt_4 67 (by decide +kernel) rfl⟩
theorem mlX1_118 : ML RX1 118 yX2_firstWishes := Or.inl (inT mt_4 69 (by decide +kernel) rfl)
theorem mlX9_105 : ML RX9 105 yX0_clear := Or.inl (inT mt_4 70 (by decide +kernel) rfl)
theorem mlX9_114 : ML RX9 114 yX9_goThrough := Or.inl (inT mt_4 71 (by decide +kernel) rfl)
set_option maxRecDepth 100000 in
theorem mcX9_goThrough : MCv yX9_goThrough cX9_goThrough 7 none 3 := ⟨⟨inT mt_1 3 (by decide +kernel) rfl, inT mt_4 74 rfl rfl, ⟨by decide +kernel, by decide +kernel⟩, by decide +kernel⟩, inT mt_4 73 (by decide +kernel) rfl, inT mt_0 2 (by decide +kernel) rfl⟩
theorem mlX9_207 : ML RX9 207 yX5_open := Or.inl (inT mt_4 75 (by decide +kernel) rfl)
set_option maxRecDepth 100000 in
theorem mcX5_open : MCv yX5_open cX5_open 4 none 3 := ⟨⟨inT mt_1 13 (by decide +kernel) rfl, inT mt_4 78 rfl rfl, ⟨by decide +kernel, by decide +kernel⟩, by decide +kernel⟩, inT mt_4 76 (by decide +kernel) rfl, inT mt_4 77 (by decide +kernel) rfl⟩
theorem mlX5_15 : ML RX5 15 yJ9_max_7cf53 := Or.inl (inT mt_4 79 (by decide +kernel) rfl)
theorem mlX5_25 : ML RX5 25 yJ9_min_7cf53 := Or.inl (inT mt_4 80 (by decide +kernel) rfl)
theorem kcX9_210 : Cond.constant RX9 210 (1000000) ∈ TBL := inT mt_4 81 (by decide +kernel) rfl
theorem mlX9_211 : ML RX9 211 yX5_hasMore := Or.inl (inT mt_4 82 (by decide +kernel) rfl)
set_option maxRecDepth 100000 in
theorem mcX5_hasMore : MCv yX5_hasMore cX5_hasMore 1 (some .boolean) 0 := ⟨⟨inT mt_1 13 (by decide +kernel) rfl, inT mt_4 85 rfl rfl, ⟨by decide +kernel, by decide +kernel⟩, by decide +kernel⟩, inT mt_4 83 (by decide +kernel) rfl, inT mt_4 84 (by decide +kernel) rfl⟩
theorem mlX9_118 : ML RX9 118 yX9_isMuch := Or.inl (inT mt_4 86 (by decide +kernel) rfl)
set_option maxRecDepth 100000 in
theorem mcX9_isMuch : MCv yX9_isMuch cX9_isMuch 1 (some .boolean) 0 := ⟨⟨inT mt_1 3 (by decide +kernel) rfl, inT mt_4 89 rfl rfl, ⟨by decide +kernel, by decide +kernel⟩, by decide +kernel⟩, inT mt_4 87 (by decide +kernel) rfl, inT mt_4 88 (by decide +kernel) rfl⟩
theorem kcX9_90 : Cond.constant RX9 90 (60000) ∈ TBL := inT mt_4 90 (by decide +kernel) rfl
theorem mlX9_214 : ML RX9 214 yX5_next := Or.inl (inT mt_4 91 (by decide +kernel) rfl)
set_option maxRecDepth 100000 in
theorem mcX5_next : MCv yX5_next cX5_next 1 (some .int) 0 := ⟨⟨inT mt_1 13 (by decide +kernel) rfl, inT mt_4 94 rfl rfl, ⟨by decide +kernel, by decide +kernel⟩, by decide +kernel⟩, inT mt_4 92 (by decide +kernel) rfl, inT mt_4 93 (by decide +kernel) rfl⟩
theorem mlX5_34 : ML RX5 34 yX5_byteAt := Or.inl (inT mt_4 95 (by decide +kernel) rfl)
set_option maxRecDepth 100000 in
theorem mcX5_byteAt : MCv yX5_byteAt cX5_byteAt 2 (some .int) 1 := ⟨⟨inT mt_1 13 (by decide +kernel) rfl, inT mt_4 98 rfl rfl, ⟨by decide +kernel, by decide +kernel⟩, by decide +kernel⟩, inT mt_4 96 (by decide +kernel) rfl, inT mt_4 97 (by decide +kernel) rfl⟩
theorem mlX9_204 : ML RX9 204 yX9_pass := Or.inl (inT mt_4 99 (by decide +kernel) rfl)
set_option maxRecDepth 100000 in
theorem mcX9_pass : MCv yX9_pass cX9_pass 2 (some .boolean) 1 := ⟨⟨inT mt_1 3 (by decide +kernel) rfl, inT mt_4 102 rfl rfl, ⟨by decide +kernel, by decide +kernel⟩, by decide +kernel⟩, inT mt_4 101 (by decide +kernel) rfl, inT mt_0 3 (by decide +kernel) rfl⟩
theorem mlX9_220 : ML RX9 220 yX9_other := Or.inl (inT mt_4 103 (by decide +kernel) rfl)
set_option maxRecDepth 100000 in
theorem mcX9_other : MCv yX9_other cX9_other 2 none 1 := ⟨⟨inT mt_1 3 (by decide +kernel) rfl, inT mt_4 106 rfl rfl, ⟨by decide +kernel, by decide +kernel⟩, by decide +kernel⟩, inT mt_4 105 (by decide +kernel) rfl, inT mt_0 4 (by decide +kernel) rfl⟩
theorem mlX9_246 : ML RX9 246 yX7_moveX := Or.inl (inT mt_4 107 (by decide +kernel) rfl)
theorem mlX9_250 : ML RX9 250 yX7_tab := Or.inl (inT mt_4 108 (by decide +kernel) rfl)
set_option maxRecDepth 100000 in
theorem mcX7_tab : MCv yX7_tab cX7_tab 3 none 0 := ⟨⟨inT mt_1 11 (by decide +kernel) rfl, inT mt_4 111 rfl rfl, ⟨by decide +kernel, by decide +kernel⟩, by decide +kernel⟩, inT mt_4 109 (by decide +kernel) rfl, inT mt_4 110 (by decide +kernel) rfl⟩
theorem mlX7_99 : ML RX7 99 yJ9_min_7cf53 := Or.inl (inT mt_4 112 (by decide +kernel) rfl)
theorem mlX7_102 : ML RX7 102 yJ9_max_7cf53 := Or.inl (inT mt_4 113 (by decide +kernel) rfl)
theorem mlX9_253 : ML RX9 253 yX9_line := Or.inl (inT mt_4 114 (by decide +kernel) rfl)
set_option maxRecDepth 100000 in
theorem mcX9_line : MCv yX9_line cX9_line 3 none 1 := ⟨⟨inT mt_1 3 (by decide +kernel) rfl, inT mt_4 117 rfl rfl, ⟨by decide +kernel, by decide +kernel⟩, by decide +kernel⟩, inT mt_4 116 (by decide +kernel) rfl, inT mt_0 5 (by decide +kernel) rfl⟩
theorem mlX9_283 : ML RX9 283 yX7_down := Or.inl (inT mt_4 118 (by decide +kernel) rfl)
theorem mlX9_259 : ML RX9 259 yX9_form := Or.inl (inT mt_4 119 (by decide +kernel) rfl)
set_option maxRecDepth 100000 in
theorem mcX9_form : MCv yX9_form cX9_form 1 none 0 := ⟨⟨inT mt_1 3 (by decide +kernel) rfl, inT mt_4 122 rfl rfl, ⟨by decide +kernel, by decide +kernel⟩, by decide +kernel⟩, inT mt_4 121 (by decide +kernel) rfl, inT mt_0 6 (by decide +kernel) rfl⟩
theorem mlX9_240 : ML RX9 240 yX9_eject := Or.inl (inT mt_4 123 (by decide +kernel) rfl)
set_option maxRecDepth 100000 in
theorem mcX9_eject : MCv yX9_eject cX9_eject 3 none 0 := ⟨⟨inT mt_1 3 (by decide +kernel) rfl, inT mt_4 126 rfl rfl, ⟨by decide +kernel, by decide +kernel⟩, by decide +kernel⟩, inT mt_4 125 (by decide +kernel) rfl, inT mt_0 7 (by decide +kernel) rfl⟩
theorem mlX9_192 : ML RX9 192 yX8_has := Or.inl (inT mt_4 127 (by decide +kernel) rfl)
set_option maxRecDepth 100000 in
theorem mcX8_has : MCv yX8_has cX8_has 2 (some .boolean) 1 := ⟨⟨inT mt_1 7 (by decide +kernel) rfl, inT mt_4 130 rfl rfl, ⟨by decide +kernel, by decide +kernel⟩, by decide +kernel⟩, inT mt_4 128 (by decide +kernel) rfl, inT mt_4 129 (by decide +kernel) rfl⟩
theorem mlX9_233 : ML RX9 233 yX1_copy := Or.inl (inT mt_4 131 (by decide +kernel) rfl)
set_option maxRecDepth 100000 in
theorem mcX1_copy : MCv yX1_copy cX1_copy 2 none 1 := ⟨⟨inT mt_1 10 (by decide +kernel) rfl, inT mt_4 134 rfl rfl, ⟨by decide +kernel, by decide +kernel⟩, by decide +kernel⟩, inT mt_4 132 (by decide +kernel) rfl, inT mt_4 133 (by decide +kernel) rfl⟩
theorem mlX1_41 : ML RX1 41 yX7_copy := Or.inl (inT mt_4 135 (by decide +kernel) rfl)
set_option maxRecDepth 100000 in
theorem mcX7_copy : MCv yX7_copy cX7_copy 2 none 1 := ⟨⟨inT mt_1 11 (by decide +kernel) rfl, inT mt_4 138 rfl rfl, ⟨by decide +kernel, by decide +kernel⟩, by decide +kernel⟩, inT mt_4 136 (by decide +kernel) rfl, inT mt_4 137 (by decide +kernel) rfl⟩
theorem mlX7_52 : Cond.methodLink RX7 52 ⟨"java/lang/System", "arraycopy", "(Ljava/lang/Object;ILjava/lang/Object;II)V"⟩ ∈ TBL := inT mt_4 139 (by decide +kernel) rfl
theorem mlX1_45 : ML RX1 45 yX4_copy := Or.inl (inT mt_4 140 (by decide +kernel) rfl)
set_option maxRecDepth 100000 in
theorem mcX4_copy : MCv yX4_copy cX4_copy 2 none 1 := ⟨⟨inT mt_1 12 (by decide +kernel) rfl, inT mt_4 143 rfl rfl, ⟨by decide +kernel, by decide +kernel⟩, by decide +kernel⟩, inT mt_4 141 (by decide +kernel) rfl, inT mt_4 142 (by decide +kernel) rfl⟩
theorem mlX4_36 : Cond.methodLink RX4 36 ⟨"java/lang/System", "arraycopy", "(Ljava/lang/Object;ILjava/lang/Object;II)V"⟩ ∈ TBL := inT mt_4 144 (by decide +kernel) rfl
theorem mlX1_48 : ML RX1 48 yX10_copy := Or.inl (inT mt_4 145 (by decide +kernel) rfl)
set_option maxRecDepth 100000 in
theorem mcX10_copy : MCv yX10_copy cX10_copy 2 none 1 := ⟨⟨inT mt_1 5 (by decide +kernel) rfl, inT mt_4 148 rfl rfl, ⟨by decide +kernel, by decide +kernel⟩, by decide +kernel⟩, inT mt_4 146 (by decide +kernel) rfl, inT mt_4 147 (by decide +kernel) rfl⟩
theorem mlX10_24 : Cond.methodLink RX10 24 ⟨"java/lang/System", "arraycopy", "(Ljava/lang/Object;ILjava/lang/Object;II)V"⟩ ∈ TBL := inT mt_4 149 (by decide +kernel) rfl
theorem mlX1_51 : Cond.methodLink RX1 51 ⟨"java/lang/System", "arraycopy", "(Ljava/lang/Object;ILjava/lang/Object;II)V"⟩ ∈ TBL := inT mt_4 150 (by decide +kernel) rfl
theorem mlX9_237 : ML RX9 237 yX9_goMacro := Or.inl (inT mt_4 151 (by decide +kernel) rfl)
set_option maxRecDepth 100000 in
theorem mcX9_goMacro : MCv yX9_goMacro cX9_goMacro 3 none 1 := ⟨⟨inT mt_1 3 (by decide +kernel) rfl, inT mt_4 154 rfl rfl, ⟨by decide +kernel, by decide +kernel⟩, by decide +kernel⟩, inT mt_4 153 (by decide +kernel) rfl, inT mt_0 8 (by decide +kernel) rfl⟩
theorem mlX9_508 : ML RX9 508 yX6_nextPage := Or.inl (inT mt_4 155 (by decide +kernel) rfl)
set_option maxRecDepth 100000 in
theorem mcX6_nextPage : MCv yX6_nextPage cX6_nextPage 1 (some (.array .int)) 0 := ⟨⟨inT mt_1 2 (by decide +kernel) rfl, inT mt_4 158 rfl rfl, ⟨by decide +kernel, by decide +kernel⟩, by decide +kernel⟩, inT mt_4 156 (by decide +kernel) rfl, inT mt_4 157 (by decide +kernel) rfl⟩
theorem mlX6_49 : ML RX6 49 yJ9_min_7cf53 := Or.inl (inT mt_4 159 (by decide +kernel) rfl)
theorem mlX6_55 : ML RX6 55 yJ9_max_7cf53 := Or.inl (inT mt_4 160 (by decide +kernel) rfl)
theorem mlX9_511 : ML RX9 511 yX0_copyTo := Or.inl (inT mt_4 161 (by decide +kernel) rfl)
set_option maxRecDepth 100000 in
theorem mcX0_copyTo : MCv yX0_copyTo cX0_copyTo 7 none 2 := ⟨⟨inT mt_1 4 (by decide +kernel) rfl, inT mt_4 164 rfl rfl, ⟨by decide +kernel, by decide +kernel⟩, by decide +kernel⟩, inT mt_4 162 (by decide +kernel) rfl, inT mt_4 163 (by decide +kernel) rfl⟩
theorem mlX0_86 : ML RX0 86 yX7_dotsAcross := Or.inl (inT mt_4 165 (by decide +kernel) rfl)
theorem mlX0_92 : ML RX0 92 yJ9_min_7cf53 := Or.inl (inT mt_4 166 (by decide +kernel) rfl)
theorem mlX0_101 : ML RX0 101 yX7_dotsDown := Or.inl (inT mt_4 167 (by decide +kernel) rfl)
theorem mlX0_151 : ML RX0 151 yX7_pageHigh := Or.inl (inT mt_4 168 (by decide +kernel) rfl)
set_option maxRecDepth 100000 in
theorem mcX7_pageHigh : MCv yX7_pageHigh cX7_pageHigh 1 (some .int) 0 := ⟨⟨inT mt_1 11 (by decide +kernel) rfl, inT mt_4 171 rfl rfl, ⟨by decide +kernel, by decide +kernel⟩, by decide +kernel⟩, inT mt_4 169 (by decide +kernel) rfl, inT mt_4 170 (by decide +kernel) rfl⟩
theorem mlX0_154 : ML RX0 154 yX0_turnWord := Or.inl (inT mt_4 172 (by decide +kernel) rfl)
set_option maxRecDepth 100000 in
theorem mcX0_turnWord : MCs yX0_turnWord cX0_turnWord 7 none 4 := ⟨⟨inT mt_1 4 (by decide +kernel) rfl, inT mt_4 174 rfl rfl, ⟨by decide +kernel, by decide +kernel⟩, by decide +kernel⟩, inT mt_4 173 (by decide +kernel) rfl⟩
theorem mlX9_515 : ML RX9 515 yX7_pageWide := Or.inl (inT mt_4 175 (by decide +kernel) rfl)
set_option maxRecDepth 100000 in
theorem mcX7_pageWide : MCv yX7_pageWide cX7_pageWide 1 (some .int) 0 := ⟨⟨inT mt_1 11 (by decide +kernel) rfl, inT mt_4 178 rfl rfl, ⟨by decide +kernel, by decide +kernel⟩, by decide +kernel⟩, inT mt_4 176 (by decide +kernel) rfl, inT mt_4 177 (by decide +kernel) rfl⟩
theorem mlX9_518 : ML RX9 518 yX7_pageHigh := Or.inl (inT mt_4 179 (by decide +kernel) rfl)
theorem mlX9_521 : ML RX9 521 yX6_come := Or.inl (inT mt_4 180 (by decide +kernel) rfl)
set_option maxRecDepth 100000 in
theorem mcX6_come : MCv yX6_come cX6_come 6 none 2 := ⟨⟨inT mt_1 2 (by decide +kernel) rfl, inT mt_4 183 rfl rfl, ⟨by decide +kernel, by decide +kernel⟩, by decide +kernel⟩, inT mt_4 181 (by decide +kernel) rfl, inT mt_4 182 (by decide +kernel) rfl⟩
theorem kcX6_58 : Cond.constant RX6 58 (2771273) ∈ TBL := inT mt_4 184 (by decide +kernel) rfl
theorem mlX6_59 : ML RX6 59 yX6_putNumber := Or.inl (inT mt_4 185 (by decide +kernel) rfl)
set_option maxRecDepth 100000 in
theorem mcX6_putNumber : MCv yX6_putNumber cX6_putNumber 4 none 2 := ⟨⟨inT mt_1 2 (by decide +kernel) rfl, inT mt_4 188 rfl rfl, ⟨by decide +kernel, by decide +kernel⟩, by decide +kernel⟩, inT mt_4 187 (by decide +kernel) rfl, inT mt_0 9 (by decide +kernel) rfl⟩
theorem mlX6_83 : ML RX6 83 yX6_putByte := Or.inl (inT mt_4 189 (by decide +kernel) rfl)
set_option maxRecDepth 100000 in
theorem mcX6_putByte : MCv yX6_putByte cX6_putByte 2 none 1 := ⟨⟨inT mt_1 2 (by decide +kernel) rfl, inT mt_4 192 rfl rfl, ⟨by decide +kernel, by decide +kernel⟩, by decide +kernel⟩, inT mt_4 191 (by decide +kernel) rfl, inT mt_0 10 (by decide +kernel) rfl⟩
theorem mlX6_72 : ML RX6 72 yX6_nextPage := Or.inl (inT mt_4 193 (by decide +kernel) rfl)
theorem mlX6_76 : ML RX6 76 yX6_writeRow := Or.inl (inT mt_4 194 (by decide +kernel) rfl)
set_option maxRecDepth 100000 in
theorem mcX6_writeRow : MCv yX6_writeRow cX6_writeRow 15 none 3 := ⟨⟨inT mt_1 2 (by decide +kernel) rfl, inT mt_4 197 rfl rfl, ⟨by decide +kernel, by decide +kernel⟩, by decide +kernel⟩, inT mt_4 196 (by decide +kernel) rfl, inT mt_0 11 (by decide +kernel) rfl⟩
theorem mlX6_104 : ML RX6 104 yX11_firstOther := Or.inr ⟨"PrinterHouse", inN mt_4 198 (by decide +kernel) rfl⟩
set_option maxRecDepth 100000 in
theorem mcX11_firstOther : MCs yX11_firstOther cX11_firstOther 9 (some .int) 5 := ⟨⟨inT mt_1 1 (by decide +kernel) rfl, inT mt_4 200 rfl rfl, ⟨by decide +kernel, by decide +kernel⟩, by decide +kernel⟩, inT mt_4 199 (by decide +kernel) rfl⟩
theorem mlX11_153 : ML RX11 153 yX11_zerosAhead := Or.inl (inT mt_4 201 (by decide +kernel) rfl)
set_option maxRecDepth 100000 in
theorem mcX11_zerosAhead : MCs yX11_zerosAhead cX11_zerosAhead 2 (some .int) 1 := ⟨⟨inT mt_1 1 (by decide +kernel) rfl, inT mt_4 203 rfl rfl, ⟨by decide +kernel, by decide +kernel⟩, by decide +kernel⟩, inT mt_4 202 (by decide +kernel) rfl⟩
theorem mlX11_148 : ML RX11 148 yJ6_bitCount_0f7a4 := Or.inl (inT mt_4 204 (by decide +kernel) rfl)
set_option maxRecDepth 100000 in
theorem mcJ6_bitCount_0f7a4 : MCs yJ6_bitCount_0f7a4 cJ6_bitCount_0f7a4 1 (some .int) 1 := ⟨⟨inT mt_1 21 (by decide +kernel) rfl, inT mt_4 206 rfl rfl, ⟨by decide +kernel, by decide +kernel⟩, by decide +kernel⟩, inT mt_4 205 (by decide +kernel) rfl⟩
theorem kcJ6_265 : Cond.constant RJ6 265 (1431655765) ∈ TBL := inT mt_4 207 (by decide +kernel) rfl
theorem kcJ6_266 : Cond.constant RJ6 266 (858993459) ∈ TBL := inT mt_4 208 (by decide +kernel) rfl
theorem kcJ6_267 : Cond.constant RJ6 267 (252645135) ∈ TBL := inT mt_4 209 (by decide +kernel) rfl
theorem mlX11_156 : ML RX11 156 yJ9_min_7cf53 := Or.inl (inT mt_4 210 (by decide +kernel) rfl)
theorem mlX6_108 : ML RX6 108 yX11_firstChange := Or.inr ⟨"PrinterHouse", inN mt_4 211 (by decide +kernel) rfl⟩
set_option maxRecDepth 100000 in
theorem mcX11_firstChange : MCs yX11_firstChange cX11_firstChange 8 (some .int) 5 := ⟨⟨inT mt_1 1 (by decide +kernel) rfl, inT mt_4 213 rfl rfl, ⟨by decide +kernel, by decide +kernel⟩, by decide +kernel⟩, inT mt_4 212 (by decide +kernel) rfl⟩
theorem mlX11_131 : ML RX11 131 yX11_dotAt := Or.inl (inT mt_4 214 (by decide +kernel) rfl)
set_option maxRecDepth 100000 in
theorem mcX11_dotAt : MCs yX11_dotAt cX11_dotAt 4 (some .int) 3 := ⟨⟨inT mt_1 1 (by decide +kernel) rfl, inT mt_4 216 rfl rfl, ⟨by decide +kernel, by decide +kernel⟩, by decide +kernel⟩, inT mt_4 215 (by decide +kernel) rfl⟩
theorem mlX11_161 : ML RX11 161 yX11_firstOther := Or.inl (inT mt_4 217 (by decide +kernel) rfl)
theorem mlX6_80 : ML RX6 80 yX6_putBits := Or.inl (inT mt_4 218 (by decide +kernel) rfl)
set_option maxRecDepth 100000 in
theorem mcX6_putBits : MCv yX6_putBits cX6_putBits 3 none 2 := ⟨⟨inT mt_1 2 (by decide +kernel) rfl, inT mt_4 221 rfl rfl, ⟨by decide +kernel, by decide +kernel⟩, by decide +kernel⟩, inT mt_4 220 (by decide +kernel) rfl, inT mt_0 12 (by decide +kernel) rfl⟩
theorem gsX6_111 : Cond.fieldLinkNest RX6 111 "PrinterHouse" "NEAR_CODES" "[I" "PrinterHouse" ∈ NST := inN mt_4 222 (by decide +kernel) rfl
theorem gsX6_114 : Cond.fieldLinkNest RX6 114 "PrinterHouse" "NEAR_BITS" "[I" "PrinterHouse" ∈ NST := inN mt_4 224 (by decide +kernel) rfl
theorem mlX6_117 : ML RX6 117 yX6_putRun := Or.inl (inT mt_4 226 (by decide +kernel) rfl)
set_option maxRecDepth 100000 in
theorem mcX6_putRun : MCv yX6_putRun cX6_putRun 5 none 2 := ⟨⟨inT mt_1 2 (by decide +kernel) rfl, inT mt_4 229 rfl rfl, ⟨by decide +kernel, by decide +kernel⟩, by decide +kernel⟩, inT mt_4 228 (by decide +kernel) rfl, inT mt_0 13 (by decide +kernel) rfl⟩
theorem gsX6_98 : Cond.fieldLinkNest RX6 98 "PrinterHouse" "RUN_CODES" "[I" "PrinterHouse" ∈ NST := inN mt_4 230 (by decide +kernel) rfl
theorem gsX6_101 : Cond.fieldLinkNest RX6 101 "PrinterHouse" "RUN_BITS" "[I" "PrinterHouse" ∈ NST := inN mt_4 231 (by decide +kernel) rfl
theorem mlX6_87 : ML RX6 87 yX6_writeDirectory := Or.inl (inT mt_4 232 (by decide +kernel) rfl)
set_option maxRecDepth 100000 in
theorem mcX6_writeDirectory : MCv yX6_writeDirectory cX6_writeDirectory 6 none 4 := ⟨⟨inT mt_1 2 (by decide +kernel) rfl, inT mt_4 235 rfl rfl, ⟨by decide +kernel, by decide +kernel⟩, by decide +kernel⟩, inT mt_4 234 (by decide +kernel) rfl, inT mt_0 14 (by decide +kernel) rfl⟩
theorem mlX6_91 : ML RX6 91 yX6_setNumber := Or.inl (inT mt_4 236 (by decide +kernel) rfl)
set_option maxRecDepth 100000 in
theorem mcX6_setNumber : MCv yX6_setNumber cX6_setNumber 4 none 2 := ⟨⟨inT mt_1 2 (by decide +kernel) rfl, inT mt_4 239 rfl rfl, ⟨by decide +kernel, by decide +kernel⟩, by decide +kernel⟩, inT mt_4 238 (by decide +kernel) rfl, inT mt_0 15 (by decide +kernel) rfl⟩
theorem mlX6_94 : ML RX6 94 yX6_putEntry := Or.inl (inT mt_5 0 (by decide +kernel) rfl)
set_option maxRecDepth 100000 in
theorem mcX6_putEntry : MCv yX6_putEntry cX6_putEntry 4 none 3 := ⟨⟨inT mt_1 2 (by decide +kernel) rfl, inT mt_5 3 rfl rfl, ⟨by decide +kernel, by decide +kernel⟩, by decide +kernel⟩, inT mt_5 2 (by decide +kernel) rfl, inT mt_0 16 (by decide +kernel) rfl⟩
theorem mlX9_289 : ML RX9 289 yX7_homeY := Or.inl (inT mt_5 4 (by decide +kernel) rfl)
theorem mlX9_286 : ML RX9 286 yX7_moveY := Or.inl (inT mt_5 5 (by decide +kernel) rfl)
theorem mlX9_256 : ML RX9 256 yX9_endWithReturn := Or.inl (inT mt_5 6 (by decide +kernel) rfl)
set_option maxRecDepth 100000 in
theorem mcX9_endWithReturn : MCv yX9_endWithReturn cX9_endWithReturn 1 none 0 := ⟨⟨inT mt_1 3 (by decide +kernel) rfl, inT mt_5 9 rfl rfl, ⟨by decide +kernel, by decide +kernel⟩, by decide +kernel⟩, inT mt_5 8 (by decide +kernel) rfl, inT mt_0 17 (by decide +kernel) rfl⟩
theorem mlX9_262 : ML RX9 262 yX9_carriageReturn := Or.inl (inT mt_5 10 (by decide +kernel) rfl)
set_option maxRecDepth 100000 in
theorem mcX9_carriageReturn : MCv yX9_carriageReturn cX9_carriageReturn 1 none 0 := ⟨⟨inT mt_1 3 (by decide +kernel) rfl, inT mt_5 13 rfl rfl, ⟨by decide +kernel, by decide +kernel⟩, by decide +kernel⟩, inT mt_5 12 (by decide +kernel) rfl, inT mt_0 18 (by decide +kernel) rfl⟩
theorem mlX9_271 : ML RX9 271 yX9_followPitch := Or.inl (inT mt_5 14 (by decide +kernel) rfl)
set_option maxRecDepth 100000 in
theorem mcX9_followPitch : MCv yX9_followPitch cX9_followPitch 1 none 0 := ⟨⟨inT mt_1 3 (by decide +kernel) rfl, inT mt_5 17 rfl rfl, ⟨by decide +kernel, by decide +kernel⟩, by decide +kernel⟩, inT mt_5 16 (by decide +kernel) rfl, inT mt_0 19 (by decide +kernel) rfl⟩
theorem mlX9_159 : ML RX9 159 yX1_wishes := Or.inl (inT mt_5 18 (by decide +kernel) rfl)
set_option maxRecDepth 100000 in
theorem mcX1_wishes : MCv yX1_wishes cX1_wishes 1 (some (.array .int)) 0 := ⟨⟨inT mt_1 10 (by decide +kernel) rfl, inT mt_5 21 rfl rfl, ⟨by decide +kernel, by decide +kernel⟩, by decide +kernel⟩, inT mt_5 19 (by decide +kernel) rfl, inT mt_5 20 (by decide +kernel) rfl⟩
theorem mlX9_163 : ML RX9 163 yX2_inUse := Or.inl (inT mt_5 22 (by decide +kernel) rfl)
set_option maxRecDepth 100000 in
theorem mcX2_inUse : MCv yX2_inUse cX2_inUse 4 (some .int) 1 := ⟨⟨inT mt_1 6 (by decide +kernel) rfl, inT mt_5 25 rfl rfl, ⟨by decide +kernel, by decide +kernel⟩, by decide +kernel⟩, inT mt_5 23 (by decide +kernel) rfl, inT mt_5 24 (by decide +kernel) rfl⟩
theorem mlX2_62 : ML RX2 62 yX2_has := Or.inl (inT mt_5 26 (by decide +kernel) rfl)
set_option maxRecDepth 100000 in
theorem mcX2_has : MCv yX2_has cX2_has 2 (some .boolean) 1 := ⟨⟨inT mt_1 6 (by decide +kernel) rfl, inT mt_5 29 rfl rfl, ⟨by decide +kernel, by decide +kernel⟩, by decide +kernel⟩, inT mt_5 27 (by decide +kernel) rfl, inT mt_5 28 (by decide +kernel) rfl⟩
theorem mlX2_58 : ML RX2 58 yX8_has := Or.inl (inT mt_5 30 (by decide +kernel) rfl)
theorem mlX2_106 : ML RX2 106 yX2_choose := Or.inl (inT mt_5 31 (by decide +kernel) rfl)
set_option maxRecDepth 100000 in
theorem mcX2_choose : MCv yX2_choose cX2_choose 3 (some .int) 0 := ⟨⟨inT mt_1 6 (by decide +kernel) rfl, inT mt_5 34 rfl rfl, ⟨by decide +kernel, by decide +kernel⟩, by decide +kernel⟩, inT mt_5 33 (by decide +kernel) rfl, inT mt_0 20 (by decide +kernel) rfl⟩
theorem kcX2_113 : Cond.constant RX2 113 (65536) ∈ TBL := inT mt_5 35 (by decide +kernel) rfl
theorem mlX2_114 : ML RX2 114 yX2_alike := Or.inl (inT mt_5 36 (by decide +kernel) rfl)
set_option maxRecDepth 100000 in
theorem mcX2_alike : MCv yX2_alike cX2_alike 8 (some .int) 3 := ⟨⟨inT mt_1 6 (by decide +kernel) rfl, inT mt_5 39 rfl rfl, ⟨by decide +kernel, by decide +kernel⟩, by decide +kernel⟩, inT mt_5 38 (by decide +kernel) rfl, inT mt_0 21 (by decide +kernel) rfl⟩
theorem mlX2_118 : ML RX2 118 yX2_nearest := Or.inl (inT mt_5 40 (by decide +kernel) rfl)
set_option maxRecDepth 100000 in
theorem mcX2_nearest : MCv yX2_nearest cX2_nearest 10 (some .int) 2 := ⟨⟨inT mt_1 6 (by decide +kernel) rfl, inT mt_5 43 rfl rfl, ⟨by decide +kernel, by decide +kernel⟩, by decide +kernel⟩, inT mt_5 42 (by decide +kernel) rfl, inT mt_0 22 (by decide +kernel) rfl⟩
theorem mlX2_124 : ML RX2 124 yJ9_abs_0f7a4 := Or.inl (inT mt_5 44 (by decide +kernel) rfl)
set_option maxRecDepth 100000 in
theorem mcJ9_abs_0f7a4 : MCs yJ9_abs_0f7a4 cJ9_abs_0f7a4 1 (some .int) 1 := ⟨⟨inT mt_1 20 (by decide +kernel) rfl, inT mt_5 46 rfl rfl, ⟨by decide +kernel, by decide +kernel⟩, by decide +kernel⟩, inT mt_5 45 (by decide +kernel) rfl⟩
theorem mlX2_121 : ML RX2 121 yX11_zerosAhead := Or.inr ⟨"PrinterHouse", inN mt_5 47 (by decide +kernel) rfl⟩
theorem mlX9_292 : ML RX9 292 yX2_number := Or.inl (inT mt_5 48 (by decide +kernel) rfl)
set_option maxRecDepth 100000 in
theorem mcX2_number : MCv yX2_number cX2_number 4 (some .int) 2 := ⟨⟨inT mt_1 6 (by decide +kernel) rfl, inT mt_5 51 rfl rfl, ⟨by decide +kernel, by decide +kernel⟩, by decide +kernel⟩, inT mt_5 49 (by decide +kernel) rfl, inT mt_5 50 (by decide +kernel) rfl⟩
theorem mlX9_274 : ML RX9 274 yX9_beginSequence := Or.inl (inT mt_5 52 (by decide +kernel) rfl)
set_option maxRecDepth 100000 in
theorem mcX9_beginSequence : MCv yX9_beginSequence cX9_beginSequence 3 none 0 := ⟨⟨inT mt_1 3 (by decide +kernel) rfl, inT mt_5 55 rfl rfl, ⟨by decide +kernel, by decide +kernel⟩, by decide +kernel⟩, inT mt_5 54 (by decide +kernel) rfl, inT mt_0 23 (by decide +kernel) rfl⟩
theorem mlX9_296 : ML RX9 296 yX9_twoBytes := Or.inl (inT mt_5 56 (by decide +kernel) rfl)
set_option maxRecDepth 100000 in
theorem mcX9_twoBytes : MCv yX9_twoBytes cX9_twoBytes 2 none 1 := ⟨⟨inT mt_1 3 (by decide +kernel) rfl, inT mt_5 59 rfl rfl, ⟨by decide +kernel, by decide +kernel⟩, by decide +kernel⟩, inT mt_5 58 (by decide +kernel) rfl, inT mt_0 24 (by decide +kernel) rfl⟩
theorem mlX9_124 : ML RX9 124 yX9_reset := Or.inl (inT mt_5 60 (by decide +kernel) rfl)
set_option maxRecDepth 100000 in
theorem mcX9_reset : MCv yX9_reset cX9_reset 1 none 0 := ⟨⟨inT mt_1 3 (by decide +kernel) rfl, inT mt_5 63 rfl rfl, ⟨by decide +kernel, by decide +kernel⟩, by decide +kernel⟩, inT mt_5 62 (by decide +kernel) rfl, inT mt_0 25 (by decide +kernel) rfl⟩
theorem mlX9_308 : ML RX9 308 yX9_dropTemporary := Or.inl (inT mt_5 64 (by decide +kernel) rfl)
set_option maxRecDepth 100000 in
theorem mcX9_dropTemporary : MCv yX9_dropTemporary cX9_dropTemporary 1 none 0 := ⟨⟨inT mt_1 3 (by decide +kernel) rfl, inT mt_5 67 rfl rfl, ⟨by decide +kernel, by decide +kernel⟩, by decide +kernel⟩, inT mt_5 65 (by decide +kernel) rfl, inT mt_5 66 (by decide +kernel) rfl⟩
theorem mlX9_196 : ML RX9 196 yX2_removeMany := Or.inl (inT mt_5 68 (by decide +kernel) rfl)
set_option maxRecDepth 100000 in
theorem mcX2_removeMany : MCv yX2_removeMany cX2_removeMany 3 none 1 := ⟨⟨inT mt_1 6 (by decide +kernel) rfl, inT mt_5 71 rfl rfl, ⟨by decide +kernel, by decide +kernel⟩, by decide +kernel⟩, inT mt_5 69 (by decide +kernel) rfl, inT mt_5 70 (by decide +kernel) rfl⟩
theorem mlX2_103 : ML RX2 103 yX8_isTemporary := Or.inl (inT mt_5 72 (by decide +kernel) rfl)
set_option maxRecDepth 100000 in
theorem mcX8_isTemporary : MCv yX8_isTemporary cX8_isTemporary 2 (some .boolean) 1 := ⟨⟨inT mt_1 7 (by decide +kernel) rfl, inT mt_5 75 rfl rfl, ⟨by decide +kernel, by decide +kernel⟩, by decide +kernel⟩, inT mt_5 73 (by decide +kernel) rfl, inT mt_5 74 (by decide +kernel) rfl⟩
theorem mlX8_13 : ML RX8 13 yX8_has := Or.inl (inT mt_5 76 (by decide +kernel) rfl)
theorem mlX2_73 : ML RX2 73 yX2_remove := Or.inl (inT mt_5 77 (by decide +kernel) rfl)
set_option maxRecDepth 100000 in
theorem mcX2_remove : MCv yX2_remove cX2_remove 3 none 1 := ⟨⟨inT mt_1 6 (by decide +kernel) rfl, inT mt_5 80 rfl rfl, ⟨by decide +kernel, by decide +kernel⟩, by decide +kernel⟩, inT mt_5 78 (by decide +kernel) rfl, inT mt_5 79 (by decide +kernel) rfl⟩
theorem mlX2_98 : ML RX2 98 yX2_removeGlyph := Or.inl (inT mt_5 81 (by decide +kernel) rfl)
set_option maxRecDepth 100000 in
theorem mcX2_removeGlyph : MCv yX2_removeGlyph cX2_removeGlyph 5 none 2 := ⟨⟨inT mt_1 6 (by decide +kernel) rfl, inT mt_5 84 rfl rfl, ⟨by decide +kernel, by decide +kernel⟩, by decide +kernel⟩, inT mt_5 82 (by decide +kernel) rfl, inT mt_5 83 (by decide +kernel) rfl⟩
theorem mlX2_102 : ML RX2 102 yX8_remove := Or.inl (inT mt_5 85 (by decide +kernel) rfl)
set_option maxRecDepth 100000 in
theorem mcX8_remove : MCv yX8_remove cX8_remove 2 none 1 := ⟨⟨inT mt_1 7 (by decide +kernel) rfl, inT mt_5 88 rfl rfl, ⟨by decide +kernel, by decide +kernel⟩, by decide +kernel⟩, inT mt_5 86 (by decide +kernel) rfl, inT mt_5 87 (by decide +kernel) rfl⟩
theorem mlX9_200 : ML RX9 200 yX8_removeMany := Or.inl (inT mt_5 89 (by decide +kernel) rfl)
set_option maxRecDepth 100000 in
theorem mcX8_removeMany : MCv yX8_removeMany cX8_removeMany 3 none 1 := ⟨⟨inT mt_1 7 (by decide +kernel) rfl, inT mt_5 92 rfl rfl, ⟨by decide +kernel, by decide +kernel⟩, by decide +kernel⟩, inT mt_5 90 (by decide +kernel) rfl, inT mt_5 91 (by decide +kernel) rfl⟩
theorem mlX9_302 : ML RX9 302 yX7_clearMargins := Or.inl (inT mt_5 93 (by decide +kernel) rfl)
theorem mlX9_305 : ML RX9 305 yX9_showAll := Or.inl (inT mt_5 94 (by decide +kernel) rfl)
set_option maxRecDepth 100000 in
theorem mcX9_showAll : MCv yX9_showAll cX9_showAll 5 none 0 := ⟨⟨inT mt_1 3 (by decide +kernel) rfl, inT mt_5 97 rfl rfl, ⟨by decide +kernel, by decide +kernel⟩, by decide +kernel⟩, inT mt_5 96 (by decide +kernel) rfl, inT mt_0 26 (by decide +kernel) rfl⟩
theorem mlX9_311 : ML RX9 311 yX5_byteAt := Or.inl (inT mt_5 98 (by decide +kernel) rfl)
theorem mlX9_315 : ML RX9 315 yX9_passEach := Or.inl (inT mt_5 99 (by decide +kernel) rfl)
set_option maxRecDepth 100000 in
theorem mcX9_passEach : MCv yX9_passEach cX9_passEach 4 (some .boolean) 1 := ⟨⟨inT mt_1 3 (by decide +kernel) rfl, inT mt_5 102 rfl rfl, ⟨by decide +kernel, by decide +kernel⟩, by decide +kernel⟩, inT mt_5 101 (by decide +kernel) rfl, inT mt_0 27 (by decide +kernel) rfl⟩
theorem mlX9_277 : ML RX9 277 yX9_show := Or.inl (inT mt_5 103 (by decide +kernel) rfl)
set_option maxRecDepth 100000 in
theorem mcX9_show : MCv yX9_show cX9_show 6 none 1 := ⟨⟨inT mt_1 3 (by decide +kernel) rfl, inT mt_5 106 rfl rfl, ⟨by decide +kernel, by decide +kernel⟩, by decide +kernel⟩, inT mt_5 105 (by decide +kernel) rfl, inT mt_0 28 (by decide +kernel) rfl⟩
theorem mlX9_527 : ML RX9 527 yX2_glyphOf := Or.inl (inT mt_5 107 (by decide +kernel) rfl)
set_option maxRecDepth 100000 in
theorem mcX2_glyphOf : MCv yX2_glyphOf cX2_glyphOf 4 (some .int) 2 := ⟨⟨inT mt_1 6 (by decide +kernel) rfl, inT mt_5 110 rfl rfl, ⟨by decide +kernel, by decide +kernel⟩, by decide +kernel⟩, inT mt_5 108 (by decide +kernel) rfl, inT mt_5 109 (by decide +kernel) rfl⟩
theorem mlX9_530 : ML RX9 530 yX9_advance := Or.inl (inT mt_5 111 (by decide +kernel) rfl)
set_option maxRecDepth 100000 in
theorem mcX9_advance : MCv yX9_advance cX9_advance 4 (some .int) 2 := ⟨⟨inT mt_1 3 (by decide +kernel) rfl, inT mt_5 114 rfl rfl, ⟨by decide +kernel, by decide +kernel⟩, by decide +kernel⟩, inT mt_5 113 (by decide +kernel) rfl, inT mt_0 29 (by decide +kernel) rfl⟩
theorem mlX9_524 : ML RX9 524 yX2_head := Or.inl (inT mt_5 115 (by decide +kernel) rfl)
set_option maxRecDepth 100000 in
theorem mcX2_head : MCv yX2_head cX2_head 4 (some .int) 2 := ⟨⟨inT mt_1 6 (by decide +kernel) rfl, inT mt_5 118 rfl rfl, ⟨by decide +kernel, by decide +kernel⟩, by decide +kernel⟩, inT mt_5 116 (by decide +kernel) rfl, inT mt_5 117 (by decide +kernel) rfl⟩
theorem mlX9_533 : ML RX9 533 yX7_across := Or.inl (inT mt_5 119 (by decide +kernel) rfl)
theorem mlX9_536 : ML RX9 536 yX9_markGlyph := Or.inl (inT mt_5 120 (by decide +kernel) rfl)
set_option maxRecDepth 100000 in
theorem mcX9_markGlyph : MCv yX9_markGlyph cX9_markGlyph 7 none 1 := ⟨⟨inT mt_1 3 (by decide +kernel) rfl, inT mt_5 123 rfl rfl, ⟨by decide +kernel, by decide +kernel⟩, by decide +kernel⟩, inT mt_5 122 (by decide +kernel) rfl, inT mt_0 30 (by decide +kernel) rfl⟩
theorem mlX9_542 : ML RX9 542 yX0_ink := Or.inl (inT mt_5 124 (by decide +kernel) rfl)
set_option maxRecDepth 100000 in
theorem mcX0_ink : MCv yX0_ink cX0_ink 3 none 2 := ⟨⟨inT mt_1 4 (by decide +kernel) rfl, inT mt_5 127 rfl rfl, ⟨by decide +kernel, by decide +kernel⟩, by decide +kernel⟩, inT mt_5 125 (by decide +kernel) rfl, inT mt_5 126 (by decide +kernel) rfl⟩
theorem mlX9_546 : ML RX9 546 yX0_mark := Or.inl (inT mt_5 128 (by decide +kernel) rfl)
set_option maxRecDepth 100000 in
theorem mcX0_mark : MCv yX0_mark cX0_mark 7 (some .boolean) 5 := ⟨⟨inT mt_1 4 (by decide +kernel) rfl, inT mt_5 131 rfl rfl, ⟨by decide +kernel, by decide +kernel⟩, by decide +kernel⟩, inT mt_5 129 (by decide +kernel) rfl, inT mt_5 130 (by decide +kernel) rfl⟩
theorem mlX0_77 : ML RX0 77 yJ9_max_7cf53 := Or.inl (inT mt_5 132 (by decide +kernel) rfl)
theorem kcX0_107 : Cond.constant RX0 107 (5000000) ∈ TBL := inT mt_5 133 (by decide +kernel) rfl
theorem mlX9_555 : ML RX9 555 yX2_rowOf := Or.inl (inT mt_5 134 (by decide +kernel) rfl)
set_option maxRecDepth 100000 in
theorem mcX2_rowOf : MCv yX2_rowOf cX2_rowOf 4 (some .int) 2 := ⟨⟨inT mt_1 6 (by decide +kernel) rfl, inT mt_5 137 rfl rfl, ⟨by decide +kernel, by decide +kernel⟩, by decide +kernel⟩, inT mt_5 135 (by decide +kernel) rfl, inT mt_5 136 (by decide +kernel) rfl⟩
theorem mlX9_558 : ML RX9 558 yX0_layWord := Or.inl (inT mt_5 138 (by decide +kernel) rfl)
set_option maxRecDepth 100000 in
theorem mcX0_layWord : MCv yX0_layWord cX0_layWord 5 none 2 := ⟨⟨inT mt_1 4 (by decide +kernel) rfl, inT mt_5 141 rfl rfl, ⟨by decide +kernel, by decide +kernel⟩, by decide +kernel⟩, inT mt_5 139 (by decide +kernel) rfl, inT mt_5 140 (by decide +kernel) rfl⟩
theorem mlX0_108 : ML RX0 108 yJ9_floorDiv_7cf53 := Or.inl (inT mt_5 142 (by decide +kernel) rfl)
set_option maxRecDepth 100000 in
theorem mcJ9_floorDiv_7cf53 : MCs yJ9_floorDiv_7cf53 cJ9_floorDiv_7cf53 3 (some .int) 2 := ⟨⟨inT mt_1 20 (by decide +kernel) rfl, inT mt_5 144 rfl rfl, ⟨by decide +kernel, by decide +kernel⟩, by decide +kernel⟩, inT mt_5 143 (by decide +kernel) rfl⟩
theorem mlX0_111 : ML RX0 111 yJ9_floorMod_7cf53 := Or.inl (inT mt_5 145 (by decide +kernel) rfl)
set_option maxRecDepth 100000 in
theorem mcJ9_floorMod_7cf53 : MCs yJ9_floorMod_7cf53 cJ9_floorMod_7cf53 3 (some .int) 2 := ⟨⟨inT mt_1 20 (by decide +kernel) rfl, inT mt_5 147 rfl rfl, ⟨by decide +kernel, by decide +kernel⟩, by decide +kernel⟩, inT mt_5 146 (by decide +kernel) rfl⟩
theorem mlX9_561 : ML RX9 561 yX0_paintRow := Or.inl (inT mt_5 148 (by decide +kernel) rfl)
set_option maxRecDepth 100000 in
theorem mcX0_paintRow : MCv yX0_paintRow cX0_paintRow 14 none 1 := ⟨⟨inT mt_1 4 (by decide +kernel) rfl, inT mt_5 151 rfl rfl, ⟨by decide +kernel, by decide +kernel⟩, by decide +kernel⟩, inT mt_5 149 (by decide +kernel) rfl, inT mt_5 150 (by decide +kernel) rfl⟩
theorem mlX0_136 : ML RX0 136 yX10_rowAt := Or.inl (inT mt_5 152 (by decide +kernel) rfl)
set_option maxRecDepth 100000 in
theorem mcX10_rowAt : MCv yX10_rowAt cX10_rowAt 3 (some .long) 1 := ⟨⟨inT mt_1 5 (by decide +kernel) rfl, inT mt_5 155 rfl rfl, ⟨by decide +kernel, by decide +kernel⟩, by decide +kernel⟩, inT mt_5 153 (by decide +kernel) rfl, inT mt_5 154 (by decide +kernel) rfl⟩
theorem mlX10_54 : ML RX10 54 yJ9_floorMod_7cf53 := Or.inl (inT mt_5 156 (by decide +kernel) rfl)
theorem mlX0_140 : ML RX0 140 yX11_maskOf := Or.inr ⟨"PrinterHouse", inN mt_5 157 (by decide +kernel) rfl⟩
set_option maxRecDepth 100000 in
theorem mcX11_maskOf : MCs yX11_maskOf cX11_maskOf 5 (some .int) 3 := ⟨⟨inT mt_1 1 (by decide +kernel) rfl, inT mt_5 159 rfl rfl, ⟨by decide +kernel, by decide +kernel⟩, by decide +kernel⟩, inT mt_5 158 (by decide +kernel) rfl⟩
theorem mlX11_165 : ML RX11 165 yJ9_max_7cf53 := Or.inl (inT mt_5 160 (by decide +kernel) rfl)
theorem mlX0_144 : ML RX0 144 yX10_dotsFrom := Or.inl (inT mt_5 161 (by decide +kernel) rfl)
set_option maxRecDepth 100000 in
theorem mcX10_dotsFrom : MCv yX10_dotsFrom cX10_dotsFrom 4 (some .int) 2 := ⟨⟨inT mt_1 5 (by decide +kernel) rfl, inT mt_5 164 rfl rfl, ⟨by decide +kernel, by decide +kernel⟩, by decide +kernel⟩, inT mt_5 162 (by decide +kernel) rfl, inT mt_5 163 (by decide +kernel) rfl⟩
theorem mlX9_224 : ML RX9 224 yX9_readField := Or.inl (inT mt_5 165 (by decide +kernel) rfl)
set_option maxRecDepth 100000 in
theorem mcX9_readField : MCv yX9_readField cX9_readField 5 (some .boolean) 0 := ⟨⟨inT mt_1 3 (by decide +kernel) rfl, inT mt_5 168 rfl rfl, ⟨by decide +kernel, by decide +kernel⟩, by decide +kernel⟩, inT mt_5 167 (by decide +kernel) rfl, inT mt_0 31 (by decide +kernel) rfl⟩
theorem mlX9_324 : ML RX9 324 yX5_readValue := Or.inl (inT mt_5 169 (by decide +kernel) rfl)
set_option maxRecDepth 100000 in
theorem mcX5_readValue : MCv yX5_readValue cX5_readValue 4 (some .int) 0 := ⟨⟨inT mt_1 13 (by decide +kernel) rfl, inT mt_5 172 rfl rfl, ⟨by decide +kernel, by decide +kernel⟩, by decide +kernel⟩, inT mt_5 170 (by decide +kernel) rfl, inT mt_5 171 (by decide +kernel) rfl⟩
theorem mlX5_51 : ML RX5 51 yX5_isDigit := Or.inl (inT mt_5 173 (by decide +kernel) rfl)
set_option maxRecDepth 100000 in
theorem mcX5_isDigit : MCv yX5_isDigit cX5_isDigit 3 (some .boolean) 1 := ⟨⟨inT mt_1 13 (by decide +kernel) rfl, inT mt_5 176 rfl rfl, ⟨by decide +kernel, by decide +kernel⟩, by decide +kernel⟩, inT mt_5 175 (by decide +kernel) rfl, inT mt_0 32 (by decide +kernel) rfl⟩
theorem mlX9_333 : ML RX9 333 yX5_n := Or.inl (inT mt_5 177 (by decide +kernel) rfl)
set_option maxRecDepth 100000 in
theorem mcX5_n : MCv yX5_n cX5_n 1 (some .int) 0 := ⟨⟨inT mt_1 13 (by decide +kernel) rfl, inT mt_5 180 rfl rfl, ⟨by decide +kernel, by decide +kernel⟩, by decide +kernel⟩, inT mt_5 178 (by decide +kernel) rfl, inT mt_5 179 (by decide +kernel) rfl⟩
theorem mlX9_339 : ML RX9 339 yJ9_min_7cf53 := Or.inl (inT mt_5 181 (by decide +kernel) rfl)
theorem mlX9_344 : ML RX9 344 yJ9_max_7cf53 := Or.inl (inT mt_5 182 (by decide +kernel) rfl)
theorem mlX9_227 : ML RX9 227 yX9_obey := Or.inl (inT mt_5 183 (by decide +kernel) rfl)
set_option maxRecDepth 100000 in
theorem mcX9_obey : MCv yX9_obey cX9_obey 1 none 0 := ⟨⟨inT mt_1 3 (by decide +kernel) rfl, inT mt_5 186 rfl rfl, ⟨by decide +kernel, by decide +kernel⟩, by decide +kernel⟩, inT mt_5 185 (by decide +kernel) rfl, inT mt_0 33 (by decide +kernel) rfl⟩
theorem mlX9_347 : ML RX9 347 yX9_pageField := Or.inl (inT mt_5 187 (by decide +kernel) rfl)
set_option maxRecDepth 100000 in
theorem mcX9_pageField : MCv yX9_pageField cX9_pageField 3 none 1 := ⟨⟨inT mt_1 3 (by decide +kernel) rfl, inT mt_5 190 rfl rfl, ⟨by decide +kernel, by decide +kernel⟩, by decide +kernel⟩, inT mt_5 189 (by decide +kernel) rfl, inT mt_0 34 (by decide +kernel) rfl⟩
theorem gsX9_413 : Cond.fieldLinkNest RX9 413 "PrinterHouse" "FORMAT_WIDE" "[I" "PrinterHouse" ∈ NST := inN mt_5 191 (by decide +kernel) rfl
theorem mlX9_416 : ML RX9 416 yX7_turn := Or.inl (inT mt_5 192 (by decide +kernel) rfl)
theorem mlX9_422 : ML RX9 422 yX9_spacing := Or.inl (inT mt_5 193 (by decide +kernel) rfl)
set_option maxRecDepth 100000 in
theorem mcX9_spacing : MCv yX9_spacing cX9_spacing 5 (some .int) 2 := ⟨⟨inT mt_1 3 (by decide +kernel) rfl, inT mt_5 196 rfl rfl, ⟨by decide +kernel, by decide +kernel⟩, by decide +kernel⟩, inT mt_5 195 (by decide +kernel) rfl, inT mt_0 35 (by decide +kernel) rfl⟩
theorem mlX9_431 : ML RX9 431 yX5_units := Or.inl (inT mt_5 197 (by decide +kernel) rfl)
set_option maxRecDepth 100000 in
theorem mcX5_units : MCv yX5_units cX5_units 2 (some .long) 1 := ⟨⟨inT mt_1 13 (by decide +kernel) rfl, inT mt_5 200 rfl rfl, ⟨by decide +kernel, by decide +kernel⟩, by decide +kernel⟩, inT mt_5 198 (by decide +kernel) rfl, inT mt_5 199 (by decide +kernel) rfl⟩
theorem mlX5_57 : ML RX5 57 yX5_exact := Or.inl (inT mt_5 201 (by decide +kernel) rfl)
set_option maxRecDepth 100000 in
theorem mcX5_exact : MCv yX5_exact cX5_exact 3 (some .long) 0 := ⟨⟨inT mt_1 13 (by decide +kernel) rfl, inT mt_5 204 rfl rfl, ⟨by decide +kernel, by decide +kernel⟩, by decide +kernel⟩, inT mt_5 202 (by decide +kernel) rfl, inT mt_5 203 (by decide +kernel) rfl⟩
theorem kcX5_55 : Cond.constantLong RX5 55 (10000) ∈ TBL := inT mt_5 205 (by decide +kernel) rfl
theorem kcX9_435 : Cond.constantLong RX9 435 (32000) ∈ TBL := inT mt_5 206 (by decide +kernel) rfl
theorem mlX9_425 : ML RX9 425 yX7_topMargin := Or.inl (inT mt_5 207 (by decide +kernel) rfl)
set_option maxRecDepth 100000 in
theorem mcX7_topMargin : MCv yX7_topMargin cX7_topMargin 2 none 1 := ⟨⟨inT mt_1 11 (by decide +kernel) rfl, inT mt_5 210 rfl rfl, ⟨by decide +kernel, by decide +kernel⟩, by decide +kernel⟩, inT mt_5 208 (by decide +kernel) rfl, inT mt_5 209 (by decide +kernel) rfl⟩
theorem mlX9_428 : ML RX9 428 yX7_bottomMargin := Or.inl (inT mt_5 211 (by decide +kernel) rfl)
set_option maxRecDepth 100000 in
theorem mcX7_bottomMargin : MCv yX7_bottomMargin cX7_bottomMargin 3 none 1 := ⟨⟨inT mt_1 11 (by decide +kernel) rfl, inT mt_5 214 rfl rfl, ⟨by decide +kernel, by decide +kernel⟩, by decide +kernel⟩, inT mt_5 212 (by decide +kernel) rfl, inT mt_5 213 (by decide +kernel) rfl⟩
theorem mlX9_350 : ML RX9 350 yX9_placeField := Or.inl (inT mt_5 215 (by decide +kernel) rfl)
set_option maxRecDepth 100000 in
theorem mcX9_placeField : MCv yX9_placeField cX9_placeField 3 none 1 := ⟨⟨inT mt_1 3 (by decide +kernel) rfl, inT mt_5 218 rfl rfl, ⟨by decide +kernel, by decide +kernel⟩, by decide +kernel⟩, inT mt_5 217 (by decide +kernel) rfl, inT mt_0 36 (by decide +kernel) rfl⟩
theorem mlX9_437 : ML RX9 437 yX9_moveAcross := Or.inl (inT mt_5 219 (by decide +kernel) rfl)
set_option maxRecDepth 100000 in
theorem mcX9_moveAcross : MCv yX9_moveAcross cX9_moveAcross 3 none 1 := ⟨⟨inT mt_1 3 (by decide +kernel) rfl, inT mt_5 222 rfl rfl, ⟨by decide +kernel, by decide +kernel⟩, by decide +kernel⟩, inT mt_5 221 (by decide +kernel) rfl, inT mt_0 37 (by decide +kernel) rfl⟩
theorem mlX9_440 : ML RX9 440 yX9_moveDown := Or.inl (inT mt_5 223 (by decide +kernel) rfl)
set_option maxRecDepth 100000 in
theorem mcX9_moveDown : MCv yX9_moveDown cX9_moveDown 4 none 2 := ⟨⟨inT mt_1 3 (by decide +kernel) rfl, inT mt_5 226 rfl rfl, ⟨by decide +kernel, by decide +kernel⟩, by decide +kernel⟩, inT mt_5 225 (by decide +kernel) rfl, inT mt_0 38 (by decide +kernel) rfl⟩
theorem mlX9_444 : ML RX9 444 yX7_leftMargin := Or.inl (inT mt_5 227 (by decide +kernel) rfl)
set_option maxRecDepth 100000 in
theorem mcX7_leftMargin : MCv yX7_leftMargin cX7_leftMargin 2 none 1 := ⟨⟨inT mt_1 11 (by decide +kernel) rfl, inT mt_5 230 rfl rfl, ⟨by decide +kernel, by decide +kernel⟩, by decide +kernel⟩, inT mt_5 228 (by decide +kernel) rfl, inT mt_5 229 (by decide +kernel) rfl⟩
theorem mlX9_447 : ML RX9 447 yX7_rightMargin := Or.inl (inT mt_5 231 (by decide +kernel) rfl)
set_option maxRecDepth 100000 in
theorem mcX7_rightMargin : MCv yX7_rightMargin cX7_rightMargin 3 none 1 := ⟨⟨inT mt_1 11 (by decide +kernel) rfl, inT mt_5 234 rfl rfl, ⟨by decide +kernel, by decide +kernel⟩, by decide +kernel⟩, inT mt_5 232 (by decide +kernel) rfl, inT mt_5 233 (by decide +kernel) rfl⟩
theorem mlX9_353 : ML RX9 353 yX9_spaceField := Or.inl (inT mt_5 235 (by decide +kernel) rfl)
set_option maxRecDepth 100000 in
theorem mcX9_spaceField : MCv yX9_spaceField cX9_spaceField 2 none 1 := ⟨⟨inT mt_1 3 (by decide +kernel) rfl, inT mt_5 238 rfl rfl, ⟨by decide +kernel, by decide +kernel⟩, by decide +kernel⟩, inT mt_5 237 (by decide +kernel) rfl, inT mt_0 39 (by decide +kernel) rfl⟩
theorem mlX9_356 : ML RX9 356 yX9_wrapField := Or.inl (inT mt_5 239 (by decide +kernel) rfl)
set_option maxRecDepth 100000 in
theorem mcX9_wrapField : MCv yX9_wrapField cX9_wrapField 2 none 1 := ⟨⟨inT mt_1 3 (by decide +kernel) rfl, inT mt_6 2 rfl rfl, ⟨by decide +kernel, by decide +kernel⟩, by decide +kernel⟩, inT mt_6 1 (by decide +kernel) rfl, inT mt_0 40 (by decide +kernel) rfl⟩
theorem mlX9_359 : ML RX9 359 yX9_macroField := Or.inl (inT mt_6 3 (by decide +kernel) rfl)
set_option maxRecDepth 100000 in
theorem mcX9_macroField : MCv yX9_macroField cX9_macroField 2 none 1 := ⟨⟨inT mt_1 3 (by decide +kernel) rfl, inT mt_6 6 rfl rfl, ⟨by decide +kernel, by decide +kernel⟩, by decide +kernel⟩, inT mt_6 5 (by decide +kernel) rfl, inT mt_0 41 (by decide +kernel) rfl⟩
theorem mlX9_465 : ML RX9 465 yX7_keepPlace := Or.inl (inT mt_6 7 (by decide +kernel) rfl)
set_option maxRecDepth 100000 in
theorem mcX7_keepPlace : MCv yX7_keepPlace cX7_keepPlace 2 none 0 := ⟨⟨inT mt_1 11 (by decide +kernel) rfl, inT mt_6 10 rfl rfl, ⟨by decide +kernel, by decide +kernel⟩, by decide +kernel⟩, inT mt_6 8 (by decide +kernel) rfl, inT mt_6 9 (by decide +kernel) rfl⟩
theorem mlX9_468 : ML RX9 468 yX7_recallPlace := Or.inl (inT mt_6 11 (by decide +kernel) rfl)
set_option maxRecDepth 100000 in
theorem mcX7_recallPlace : MCv yX7_recallPlace cX7_recallPlace 2 none 0 := ⟨⟨inT mt_1 11 (by decide +kernel) rfl, inT mt_6 14 rfl rfl, ⟨by decide +kernel, by decide +kernel⟩, by decide +kernel⟩, inT mt_6 12 (by decide +kernel) rfl, inT mt_6 13 (by decide +kernel) rfl⟩
theorem mlX9_471 : ML RX9 471 yX9_macroTask := Or.inl (inT mt_6 15 (by decide +kernel) rfl)
set_option maxRecDepth 100000 in
theorem mcX9_macroTask : MCv yX9_macroTask cX9_macroTask 2 none 1 := ⟨⟨inT mt_1 3 (by decide +kernel) rfl, inT mt_6 18 rfl rfl, ⟨by decide +kernel, by decide +kernel⟩, by decide +kernel⟩, inT mt_6 17 (by decide +kernel) rfl, inT mt_0 42 (by decide +kernel) rfl⟩
theorem mlX9_474 : ML RX9 474 yX9_tellMacro := Or.inl (inT mt_6 19 (by decide +kernel) rfl)
set_option maxRecDepth 100000 in
theorem mcX9_tellMacro : MCv yX9_tellMacro cX9_tellMacro 6 none 1 := ⟨⟨inT mt_1 3 (by decide +kernel) rfl, inT mt_6 22 rfl rfl, ⟨by decide +kernel, by decide +kernel⟩, by decide +kernel⟩, inT mt_6 21 (by decide +kernel) rfl, inT mt_0 43 (by decide +kernel) rfl⟩
theorem mlX9_490 : ML RX9 490 yX9_isMacroEnd := Or.inl (inT mt_6 23 (by decide +kernel) rfl)
set_option maxRecDepth 100000 in
theorem mcX9_isMacroEnd : MCv yX9_isMacroEnd cX9_isMacroEnd 2 (some .boolean) 1 := ⟨⟨inT mt_1 3 (by decide +kernel) rfl, inT mt_6 26 rfl rfl, ⟨by decide +kernel, by decide +kernel⟩, by decide +kernel⟩, inT mt_6 25 (by decide +kernel) rfl, inT mt_0 44 (by decide +kernel) rfl⟩
theorem mlX9_496 : Cond.methodLink RX9 496 ⟨"java/lang/System", "arraycopy", "(Ljava/lang/Object;ILjava/lang/Object;II)V"⟩ ∈ TBL := inT mt_6 27 (by decide +kernel) rfl
theorem mlX9_502 : ML RX9 502 yX8_put := Or.inl (inT mt_6 28 (by decide +kernel) rfl)
set_option maxRecDepth 100000 in
theorem mcX8_put : MCv yX8_put cX8_put 2 none 1 := ⟨⟨inT mt_1 7 (by decide +kernel) rfl, inT mt_6 31 rfl rfl, ⟨by decide +kernel, by decide +kernel⟩, by decide +kernel⟩, inT mt_6 29 (by decide +kernel) rfl, inT mt_6 30 (by decide +kernel) rfl⟩
theorem mlX9_477 : ML RX9 477 yX9_callMacro := Or.inl (inT mt_6 32 (by decide +kernel) rfl)
set_option maxRecDepth 100000 in
theorem mcX9_callMacro : MCv yX9_callMacro cX9_callMacro 4 none 1 := ⟨⟨inT mt_1 3 (by decide +kernel) rfl, inT mt_6 35 rfl rfl, ⟨by decide +kernel, by decide +kernel⟩, by decide +kernel⟩, inT mt_6 34 (by decide +kernel) rfl, inT mt_0 45 (by decide +kernel) rfl⟩
theorem mlX9_483 : ML RX9 483 yX8_remove := Or.inl (inT mt_6 36 (by decide +kernel) rfl)
theorem mlX9_486 : ML RX9 486 yX8_mark := Or.inl (inT mt_6 37 (by decide +kernel) rfl)
set_option maxRecDepth 100000 in
theorem mcX8_mark : MCv yX8_mark cX8_mark 3 none 2 := ⟨⟨inT mt_1 7 (by decide +kernel) rfl, inT mt_6 40 rfl rfl, ⟨by decide +kernel, by decide +kernel⟩, by decide +kernel⟩, inT mt_6 38 (by decide +kernel) rfl, inT mt_6 39 (by decide +kernel) rfl⟩
theorem mlX9_362 : ML RX9 362 yX9_showData := Or.inl (inT mt_6 41 (by decide +kernel) rfl)
set_option maxRecDepth 100000 in
theorem mcX9_showData : MCv yX9_showData cX9_showData 3 none 0 := ⟨⟨inT mt_1 3 (by decide +kernel) rfl, inT mt_6 44 rfl rfl, ⟨by decide +kernel, by decide +kernel⟩, by decide +kernel⟩, inT mt_6 43 (by decide +kernel) rfl, inT mt_0 46 (by decide +kernel) rfl⟩
theorem mlX9_321 : ML RX9 321 yX5_dataByte := Or.inl (inT mt_6 45 (by decide +kernel) rfl)
set_option maxRecDepth 100000 in
theorem mcX5_dataByte : MCv yX5_dataByte cX5_dataByte 3 (some .int) 1 := ⟨⟨inT mt_1 13 (by decide +kernel) rfl, inT mt_6 48 rfl rfl, ⟨by decide +kernel, by decide +kernel⟩, by decide +kernel⟩, inT mt_6 46 (by decide +kernel) rfl, inT mt_6 47 (by decide +kernel) rfl⟩
theorem mlX9_365 : ML RX9 365 yX9_dotPlaceField := Or.inl (inT mt_6 49 (by decide +kernel) rfl)
set_option maxRecDepth 100000 in
theorem mcX9_dotPlaceField : MCv yX9_dotPlaceField cX9_dotPlaceField 1 none 0 := ⟨⟨inT mt_1 3 (by decide +kernel) rfl, inT mt_6 52 rfl rfl, ⟨by decide +kernel, by decide +kernel⟩, by decide +kernel⟩, inT mt_6 51 (by decide +kernel) rfl, inT mt_0 47 (by decide +kernel) rfl⟩
theorem mlX9_368 : ML RX9 368 yX9_controlField := Or.inl (inT mt_6 53 (by decide +kernel) rfl)
set_option maxRecDepth 100000 in
theorem mcX9_controlField : MCv yX9_controlField cX9_controlField 2 none 1 := ⟨⟨inT mt_1 3 (by decide +kernel) rfl, inT mt_6 56 rfl rfl, ⟨by decide +kernel, by decide +kernel⟩, by decide +kernel⟩, inT mt_6 55 (by decide +kernel) rfl, inT mt_0 48 (by decide +kernel) rfl⟩
theorem mlX9_584 : ML RX9 584 yX9_fontTask := Or.inl (inT mt_6 57 (by decide +kernel) rfl)
set_option maxRecDepth 100000 in
theorem mcX9_fontTask : MCv yX9_fontTask cX9_fontTask 2 none 1 := ⟨⟨inT mt_1 3 (by decide +kernel) rfl, inT mt_6 60 rfl rfl, ⟨by decide +kernel, by decide +kernel⟩, by decide +kernel⟩, inT mt_6 59 (by decide +kernel) rfl, inT mt_0 49 (by decide +kernel) rfl⟩
theorem mlX9_621 : ML RX9 621 yX2_remove := Or.inl (inT mt_6 61 (by decide +kernel) rfl)
theorem mlX9_622 : ML RX9 622 yX2_removeGlyph := Or.inl (inT mt_6 62 (by decide +kernel) rfl)
theorem mlX9_590 : ML RX9 590 yX9_tellTile := Or.inl (inT mt_6 63 (by decide +kernel) rfl)
set_option maxRecDepth 100000 in
theorem mcX9_tellTile : MCv yX9_tellTile cX9_tellTile 10 none 1 := ⟨⟨inT mt_1 3 (by decide +kernel) rfl, inT mt_6 66 rfl rfl, ⟨by decide +kernel, by decide +kernel⟩, by decide +kernel⟩, inT mt_6 65 (by decide +kernel) rfl, inT mt_0 50 (by decide +kernel) rfl⟩
theorem mlX9_625 : ML RX9 625 yX10_size := Or.inl (inT mt_6 67 (by decide +kernel) rfl)
theorem mlX9_628 : ML RX9 628 yX10_setRow := Or.inl (inT mt_6 68 (by decide +kernel) rfl)
theorem mlX9_593 : ML RX9 593 yX9_tileTask := Or.inl (inT mt_6 69 (by decide +kernel) rfl)
set_option maxRecDepth 100000 in
theorem mcX9_tileTask : MCv yX9_tileTask cX9_tileTask 2 none 1 := ⟨⟨inT mt_1 3 (by decide +kernel) rfl, inT mt_6 72 rfl rfl, ⟨by decide +kernel, by decide +kernel⟩, by decide +kernel⟩, inT mt_6 71 (by decide +kernel) rfl, inT mt_0 51 (by decide +kernel) rfl⟩
theorem mlX9_602 : ML RX9 602 yX9_boxSide := Or.inl (inT mt_6 73 (by decide +kernel) rfl)
set_option maxRecDepth 100000 in
theorem mcX9_boxSide : MCv yX9_boxSide cX9_boxSide 4 (some .int) 1 := ⟨⟨inT mt_1 3 (by decide +kernel) rfl, inT mt_6 76 rfl rfl, ⟨by decide +kernel, by decide +kernel⟩, by decide +kernel⟩, inT mt_6 75 (by decide +kernel) rfl, inT mt_0 52 (by decide +kernel) rfl⟩
theorem kcX9_608 : Cond.constantLong RX9 608 (96) ∈ TBL := inT mt_6 77 (by decide +kernel) rfl
theorem mlX9_605 : ML RX9 605 yX9_box := Or.inl (inT mt_6 78 (by decide +kernel) rfl)
set_option maxRecDepth 100000 in
theorem mcX9_box : MCv yX9_box cX9_box 5 none 1 := ⟨⟨inT mt_1 3 (by decide +kernel) rfl, inT mt_6 81 rfl rfl, ⟨by decide +kernel, by decide +kernel⟩, by decide +kernel⟩, inT mt_6 80 (by decide +kernel) rfl, inT mt_0 53 (by decide +kernel) rfl⟩
theorem mlX9_610 : ML RX9 610 yX9_setTile := Or.inl (inT mt_6 82 (by decide +kernel) rfl)
set_option maxRecDepth 100000 in
theorem mcX9_setTile : MCv yX9_setTile cX9_setTile 4 (some .boolean) 2 := ⟨⟨inT mt_1 3 (by decide +kernel) rfl, inT mt_6 85 rfl rfl, ⟨by decide +kernel, by decide +kernel⟩, by decide +kernel⟩, inT mt_6 84 (by decide +kernel) rfl, inT mt_0 54 (by decide +kernel) rfl⟩
theorem mlX9_631 : ML RX9 631 yX10_solid := Or.inl (inT mt_6 86 (by decide +kernel) rfl)
theorem mlX9_634 : ML RX9 634 yX10_white := Or.inl (inT mt_6 87 (by decide +kernel) rfl)
set_option maxRecDepth 100000 in
theorem mcX10_white : MCv yX10_white cX10_white 1 none 0 := ⟨⟨inT mt_1 5 (by decide +kernel) rfl, inT mt_6 90 rfl rfl, ⟨by decide +kernel, by decide +kernel⟩, by decide +kernel⟩, inT mt_6 88 (by decide +kernel) rfl, inT mt_6 89 (by decide +kernel) rfl⟩
theorem mlX9_637 : ML RX9 637 yX10_shade := Or.inl (inT mt_6 91 (by decide +kernel) rfl)
set_option maxRecDepth 100000 in
theorem mcX10_shade : MCv yX10_shade cX10_shade 6 none 1 := ⟨⟨inT mt_1 5 (by decide +kernel) rfl, inT mt_6 94 rfl rfl, ⟨by decide +kernel, by decide +kernel⟩, by decide +kernel⟩, inT mt_6 92 (by decide +kernel) rfl, inT mt_6 93 (by decide +kernel) rfl⟩
theorem gsX10_46 : Cond.fieldLink RX10 46 "PrinterHouse$Tile" "SHADES" "[I" ∈ TBL := inT mt_6 95 (by decide +kernel) rfl
theorem mlX9_640 : ML RX9 640 yX10_hatch := Or.inl (inT mt_6 97 (by decide +kernel) rfl)
set_option maxRecDepth 100000 in
theorem mcX10_hatch : MCv yX10_hatch cX10_hatch 5 none 1 := ⟨⟨inT mt_1 5 (by decide +kernel) rfl, inT mt_6 100 rfl rfl, ⟨by decide +kernel, by decide +kernel⟩, by decide +kernel⟩, inT mt_6 98 (by decide +kernel) rfl, inT mt_6 99 (by decide +kernel) rfl⟩
theorem mlX10_50 : ML RX10 50 yX10_isHatched := Or.inl (inT mt_6 101 (by decide +kernel) rfl)
set_option maxRecDepth 100000 in
theorem mcX10_isHatched : MCs yX10_isHatched cX10_isHatched 5 (some .boolean) 3 := ⟨⟨inT mt_1 5 (by decide +kernel) rfl, inT mt_6 103 rfl rfl, ⟨by decide +kernel, by decide +kernel⟩, by decide +kernel⟩, inT mt_6 102 (by decide +kernel) rfl⟩
theorem mlX9_643 : ML RX9 643 yX10_copy := Or.inl (inT mt_6 104 (by decide +kernel) rfl)
theorem mlX9_614 : ML RX9 614 yX0_layBlack := Or.inl (inT mt_6 105 (by decide +kernel) rfl)
set_option maxRecDepth 100000 in
theorem mcX0_layBlack : MCv yX0_layBlack cX0_layBlack 1 none 0 := ⟨⟨inT mt_1 4 (by decide +kernel) rfl, inT mt_6 108 rfl rfl, ⟨by decide +kernel, by decide +kernel⟩, by decide +kernel⟩, inT mt_6 106 (by decide +kernel) rfl, inT mt_6 107 (by decide +kernel) rfl⟩
theorem mlX9_617 : ML RX9 617 yX9_markBox := Or.inl (inT mt_6 109 (by decide +kernel) rfl)
set_option maxRecDepth 100000 in
theorem mcX9_markBox : MCv yX9_markBox cX9_markBox 7 none 5 := ⟨⟨inT mt_1 3 (by decide +kernel) rfl, inT mt_6 112 rfl rfl, ⟨by decide +kernel, by decide +kernel⟩, by decide +kernel⟩, inT mt_6 111 (by decide +kernel) rfl, inT mt_0 55 (by decide +kernel) rfl⟩
theorem mlX9_371 : ML RX9 371 yX9_inkField := Or.inl (inT mt_6 113 (by decide +kernel) rfl)
set_option maxRecDepth 100000 in
theorem mcX9_inkField : MCv yX9_inkField cX9_inkField 3 none 1 := ⟨⟨inT mt_1 3 (by decide +kernel) rfl, inT mt_6 116 rfl rfl, ⟨by decide +kernel, by decide +kernel⟩, by decide +kernel⟩, inT mt_6 115 (by decide +kernel) rfl, inT mt_0 56 (by decide +kernel) rfl⟩
theorem mlX9_374 : ML RX9 374 yX9_scaleField := Or.inl (inT mt_6 117 (by decide +kernel) rfl)
set_option maxRecDepth 100000 in
theorem mcX9_scaleField : MCv yX9_scaleField cX9_scaleField 3 none 1 := ⟨⟨inT mt_1 3 (by decide +kernel) rfl, inT mt_6 120 rfl rfl, ⟨by decide +kernel, by decide +kernel⟩, by decide +kernel⟩, inT mt_6 119 (by decide +kernel) rfl, inT mt_0 57 (by decide +kernel) rfl⟩
theorem mlX9_377 : ML RX9 377 yX9_rasterField := Or.inl (inT mt_6 121 (by decide +kernel) rfl)
set_option maxRecDepth 100000 in
theorem mcX9_rasterField : MCv yX9_rasterField cX9_rasterField 3 none 1 := ⟨⟨inT mt_1 3 (by decide +kernel) rfl, inT mt_6 124 rfl rfl, ⟨by decide +kernel, by decide +kernel⟩, by decide +kernel⟩, inT mt_6 123 (by decide +kernel) rfl, inT mt_0 58 (by decide +kernel) rfl⟩
theorem mlX9_664 : ML RX9 664 yX9_beginRaster := Or.inl (inT mt_6 125 (by decide +kernel) rfl)
set_option maxRecDepth 100000 in
theorem mcX9_beginRaster : MCv yX9_beginRaster cX9_beginRaster 2 none 1 := ⟨⟨inT mt_1 3 (by decide +kernel) rfl, inT mt_6 128 rfl rfl, ⟨by decide +kernel, by decide +kernel⟩, by decide +kernel⟩, inT mt_6 127 (by decide +kernel) rfl, inT mt_0 59 (by decide +kernel) rfl⟩
theorem mlX9_675 : ML RX9 675 yX4_begin := Or.inl (inT mt_6 129 (by decide +kernel) rfl)
set_option maxRecDepth 100000 in
theorem mcX4_begin : MCv yX4_begin cX4_begin 2 none 1 := ⟨⟨inT mt_1 12 (by decide +kernel) rfl, inT mt_6 132 rfl rfl, ⟨by decide +kernel, by decide +kernel⟩, by decide +kernel⟩, inT mt_6 130 (by decide +kernel) rfl, inT mt_6 131 (by decide +kernel) rfl⟩
theorem mlX9_667 : ML RX9 667 yX4_end := Or.inl (inT mt_6 133 (by decide +kernel) rfl)
theorem mlX9_380 : ML RX9 380 yX9_rowField := Or.inl (inT mt_6 134 (by decide +kernel) rfl)
set_option maxRecDepth 100000 in
theorem mcX9_rowField : MCv yX9_rowField cX9_rowField 4 none 1 := ⟨⟨inT mt_1 3 (by decide +kernel) rfl, inT mt_6 137 rfl rfl, ⟨by decide +kernel, by decide +kernel⟩, by decide +kernel⟩, inT mt_6 136 (by decide +kernel) rfl, inT mt_0 60 (by decide +kernel) rfl⟩
theorem mlX9_684 : ML RX9 684 yX4_clearRow := Or.inl (inT mt_6 138 (by decide +kernel) rfl)
theorem mlX9_687 : ML RX9 687 yX9_growRows := Or.inl (inT mt_6 139 (by decide +kernel) rfl)
set_option maxRecDepth 100000 in
theorem mcX9_growRows : MCv yX9_growRows cX9_growRows 3 none 1 := ⟨⟨inT mt_1 3 (by decide +kernel) rfl, inT mt_6 142 rfl rfl, ⟨by decide +kernel, by decide +kernel⟩, by decide +kernel⟩, inT mt_6 141 (by decide +kernel) rfl, inT mt_0 61 (by decide +kernel) rfl⟩
theorem mlX9_690 : ML RX9 690 yX9_rasterRow := Or.inl (inT mt_6 143 (by decide +kernel) rfl)
set_option maxRecDepth 100000 in
theorem mcX9_rasterRow : MCv yX9_rasterRow cX9_rasterRow 4 none 0 := ⟨⟨inT mt_1 3 (by decide +kernel) rfl, inT mt_6 146 rfl rfl, ⟨by decide +kernel, by decide +kernel⟩, by decide +kernel⟩, inT mt_6 145 (by decide +kernel) rfl, inT mt_0 62 (by decide +kernel) rfl⟩
theorem mlX9_693 : ML RX9 693 yX4_isFull := Or.inl (inT mt_6 147 (by decide +kernel) rfl)
set_option maxRecDepth 100000 in
theorem mcX4_isFull : MCv yX4_isFull cX4_isFull 1 (some .boolean) 0 := ⟨⟨inT mt_1 12 (by decide +kernel) rfl, inT mt_6 150 rfl rfl, ⟨by decide +kernel, by decide +kernel⟩, by decide +kernel⟩, inT mt_6 148 (by decide +kernel) rfl, inT mt_6 149 (by decide +kernel) rfl⟩
theorem mlX9_696 : ML RX9 696 yX4_unpack := Or.inl (inT mt_6 151 (by decide +kernel) rfl)
set_option maxRecDepth 100000 in
theorem mcX4_unpack : MCv yX4_unpack cX4_unpack 3 none 1 := ⟨⟨inT mt_1 12 (by decide +kernel) rfl, inT mt_6 154 rfl rfl, ⟨by decide +kernel, by decide +kernel⟩, by decide +kernel⟩, inT mt_6 152 (by decide +kernel) rfl, inT mt_6 153 (by decide +kernel) rfl⟩
theorem mlX4_61 : ML RX4 61 yX4_unpackPairs := Or.inl (inT mt_6 155 (by decide +kernel) rfl)
set_option maxRecDepth 100000 in
theorem mcX4_unpackPairs : MCv yX4_unpackPairs cX4_unpackPairs 5 none 1 := ⟨⟨inT mt_1 12 (by decide +kernel) rfl, inT mt_6 158 rfl rfl, ⟨by decide +kernel, by decide +kernel⟩, by decide +kernel⟩, inT mt_6 157 (by decide +kernel) rfl, inT mt_0 63 (by decide +kernel) rfl⟩
theorem mlX4_76 : ML RX4 76 yX5_dataByte := Or.inl (inT mt_6 159 (by decide +kernel) rfl)
theorem mlX4_80 : ML RX4 80 yX4_put := Or.inl (inT mt_6 160 (by decide +kernel) rfl)
set_option maxRecDepth 100000 in
theorem mcX4_put : MCv yX4_put cX4_put 7 none 3 := ⟨⟨inT mt_1 12 (by decide +kernel) rfl, inT mt_6 163 rfl rfl, ⟨by decide +kernel, by decide +kernel⟩, by decide +kernel⟩, inT mt_6 162 (by decide +kernel) rfl, inT mt_0 64 (by decide +kernel) rfl⟩
theorem mlX4_65 : ML RX4 65 yX4_unpackMixed := Or.inl (inT mt_6 164 (by decide +kernel) rfl)
set_option maxRecDepth 100000 in
theorem mcX4_unpackMixed : MCv yX4_unpackMixed cX4_unpackMixed 6 none 1 := ⟨⟨inT mt_1 12 (by decide +kernel) rfl, inT mt_6 167 rfl rfl, ⟨by decide +kernel, by decide +kernel⟩, by decide +kernel⟩, inT mt_6 166 (by decide +kernel) rfl, inT mt_0 65 (by decide +kernel) rfl⟩
theorem mlX4_68 : ML RX4 68 yX4_unpackChanges := Or.inl (inT mt_6 168 (by decide +kernel) rfl)
set_option maxRecDepth 100000 in
theorem mcX4_unpackChanges : MCv yX4_unpackChanges cX4_unpackChanges 8 none 1 := ⟨⟨inT mt_1 12 (by decide +kernel) rfl, inT mt_6 171 rfl rfl, ⟨by decide +kernel, by decide +kernel⟩, by decide +kernel⟩, inT mt_6 170 (by decide +kernel) rfl, inT mt_0 66 (by decide +kernel) rfl⟩
theorem mlX9_700 : ML RX9 700 yX0_layRow := Or.inl (inT mt_6 172 (by decide +kernel) rfl)
set_option maxRecDepth 100000 in
theorem mcX0_layRow : MCv yX0_layRow cX0_layRow 8 none 1 := ⟨⟨inT mt_1 4 (by decide +kernel) rfl, inT mt_6 175 rfl rfl, ⟨by decide +kernel, by decide +kernel⟩, by decide +kernel⟩, inT mt_6 173 (by decide +kernel) rfl, inT mt_6 174 (by decide +kernel) rfl⟩
theorem mlX0_114 : ML RX0 114 yX4_dotsInRow := Or.inl (inT mt_6 176 (by decide +kernel) rfl)
set_option maxRecDepth 100000 in
theorem mcX4_dotsInRow : MCv yX4_dotsInRow cX4_dotsInRow 1 (some .int) 0 := ⟨⟨inT mt_1 12 (by decide +kernel) rfl, inT mt_6 179 rfl rfl, ⟨by decide +kernel, by decide +kernel⟩, by decide +kernel⟩, inT mt_6 177 (by decide +kernel) rfl, inT mt_6 178 (by decide +kernel) rfl⟩
theorem mlX4_55 : ML RX4 55 yJ9_min_7cf53 := Or.inl (inT mt_6 180 (by decide +kernel) rfl)
theorem mlX0_122 : ML RX0 122 yX11_firstOther := Or.inr ⟨"PrinterHouse", inN mt_6 181 (by decide +kernel) rfl⟩
theorem mlX0_132 : ML RX0 132 yX11_blacken := Or.inr ⟨"PrinterHouse", inN mt_6 182 (by decide +kernel) rfl⟩
set_option maxRecDepth 100000 in
theorem mcX11_blacken : MCs yX11_blacken cX11_blacken 6 none 4 := ⟨⟨inT mt_1 1 (by decide +kernel) rfl, inT mt_6 184 rfl rfl, ⟨by decide +kernel, by decide +kernel⟩, by decide +kernel⟩, inT mt_6 183 (by decide +kernel) rfl⟩
theorem mlX11_168 : ML RX11 168 yX11_maskOf := Or.inl (inT mt_6 185 (by decide +kernel) rfl)
theorem mlX9_704 : ML RX9 704 yX4_dotsInRow := Or.inl (inT mt_6 186 (by decide +kernel) rfl)
theorem mlX9_383 : ML RX9 383 yX9_obeyFont := Or.inl (inT mt_6 187 (by decide +kernel) rfl)
set_option maxRecDepth 100000 in
theorem mcX9_obeyFont : MCv yX9_obeyFont cX9_obeyFont 4 none 0 := ⟨⟨inT mt_1 3 (by decide +kernel) rfl, inT mt_6 190 rfl rfl, ⟨by decide +kernel, by decide +kernel⟩, by decide +kernel⟩, inT mt_6 189 (by decide +kernel) rfl, inT mt_0 67 (by decide +kernel) rfl⟩
theorem mlX9_392 : ML RX9 392 yX9_fontField := Or.inl (inT mt_6 191 (by decide +kernel) rfl)
set_option maxRecDepth 100000 in
theorem mcX9_fontField : MCv yX9_fontField cX9_fontField 5 (some .boolean) 2 := ⟨⟨inT mt_1 3 (by decide +kernel) rfl, inT mt_6 194 rfl rfl, ⟨by decide +kernel, by decide +kernel⟩, by decide +kernel⟩, inT mt_6 193 (by decide +kernel) rfl, inT mt_0 68 (by decide +kernel) rfl⟩
theorem mlX9_564 : ML RX9 564 yX2_wishFor := Or.inl (inT mt_6 195 (by decide +kernel) rfl)
set_option maxRecDepth 100000 in
theorem mcX2_wishFor : MCv yX2_wishFor cX2_wishFor 3 (some .boolean) 2 := ⟨⟨inT mt_1 6 (by decide +kernel) rfl, inT mt_6 198 rfl rfl, ⟨by decide +kernel, by decide +kernel⟩, by decide +kernel⟩, inT mt_6 196 (by decide +kernel) rfl, inT mt_6 197 (by decide +kernel) rfl⟩
theorem mlX9_568 : ML RX9 568 yX9_wish := Or.inl (inT mt_6 199 (by decide +kernel) rfl)
set_option maxRecDepth 100000 in
theorem mcX9_wish : MCs yX9_wish cX9_wish 3 (some .boolean) 3 := ⟨⟨inT mt_1 3 (by decide +kernel) rfl, inT mt_6 201 rfl rfl, ⟨by decide +kernel, by decide +kernel⟩, by decide +kernel⟩, inT mt_6 200 (by decide +kernel) rfl⟩
theorem mlX9_396 : ML RX9 396 yX9_styleField := Or.inl (inT mt_6 202 (by decide +kernel) rfl)
set_option maxRecDepth 100000 in
theorem mcX9_styleField : MCv yX9_styleField cX9_styleField 4 (some .boolean) 2 := ⟨⟨inT mt_1 3 (by decide +kernel) rfl, inT mt_6 205 rfl rfl, ⟨by decide +kernel, by decide +kernel⟩, by decide +kernel⟩, inT mt_6 204 (by decide +kernel) rfl, inT mt_0 69 (by decide +kernel) rfl⟩
theorem mlX9_572 : ML RX9 572 yX9_wishPitch := Or.inl (inT mt_6 206 (by decide +kernel) rfl)
set_option maxRecDepth 100000 in
theorem mcX9_wishPitch : MCv yX9_wishPitch cX9_wishPitch 7 (some .boolean) 1 := ⟨⟨inT mt_1 3 (by decide +kernel) rfl, inT mt_6 209 rfl rfl, ⟨by decide +kernel, by decide +kernel⟩, by decide +kernel⟩, inT mt_6 208 (by decide +kernel) rfl, inT mt_0 70 (by decide +kernel) rfl⟩
theorem mlX9_576 : ML RX9 576 yX5_exact := Or.inl (inT mt_6 210 (by decide +kernel) rfl)
theorem kcX9_580 : Cond.constantLong RX9 580 (72000000) ∈ TBL := inT mt_6 211 (by decide +kernel) rfl
theorem kcX9_582 : Cond.constantLong RX9 582 (7200) ∈ TBL := inT mt_6 212 (by decide +kernel) rfl
theorem mlX9_405 : ML RX9 405 yX2_sendGlyph := Or.inl (inT mt_6 213 (by decide +kernel) rfl)
set_option maxRecDepth 100000 in
theorem mcX2_sendGlyph : MCv yX2_sendGlyph cX2_sendGlyph 12 none 3 := ⟨⟨inT mt_1 6 (by decide +kernel) rfl, inT mt_6 216 rfl rfl, ⟨by decide +kernel, by decide +kernel⟩, by decide +kernel⟩, inT mt_6 214 (by decide +kernel) rfl, inT mt_6 215 (by decide +kernel) rfl⟩
theorem mlX2_80 : ML RX2 80 yX5_dataByte := Or.inl (inT mt_6 217 (by decide +kernel) rfl)
theorem mlX2_63 : ML RX2 63 yX5_dataTwo := Or.inl (inT mt_6 218 (by decide +kernel) rfl)
set_option maxRecDepth 100000 in
theorem mcX5_dataTwo : MCv yX5_dataTwo cX5_dataTwo 2 (some .int) 1 := ⟨⟨inT mt_1 13 (by decide +kernel) rfl, inT mt_6 221 rfl rfl, ⟨by decide +kernel, by decide +kernel⟩, by decide +kernel⟩, inT mt_6 219 (by decide +kernel) rfl, inT mt_6 220 (by decide +kernel) rfl⟩
theorem mlX5_67 : ML RX5 67 yX5_dataByte := Or.inl (inT mt_6 222 (by decide +kernel) rfl)
theorem mlX2_87 : ML RX2 87 yX2_slotFor := Or.inl (inT mt_6 223 (by decide +kernel) rfl)
set_option maxRecDepth 100000 in
theorem mcX2_slotFor : MCv yX2_slotFor cX2_slotFor 5 (some .int) 2 := ⟨⟨inT mt_1 6 (by decide +kernel) rfl, inT mt_6 226 rfl rfl, ⟨by decide +kernel, by decide +kernel⟩, by decide +kernel⟩, inT mt_6 225 (by decide +kernel) rfl, inT mt_0 71 (by decide +kernel) rfl⟩
theorem mlX9_409 : ML RX9 409 yX2_send := Or.inl (inT mt_6 227 (by decide +kernel) rfl)
set_option maxRecDepth 100000 in
theorem mcX2_send : MCv yX2_send cX2_send 5 none 2 := ⟨⟨inT mt_1 6 (by decide +kernel) rfl, inT mt_6 230 rfl rfl, ⟨by decide +kernel, by decide +kernel⟩, by decide +kernel⟩, inT mt_6 228 (by decide +kernel) rfl, inT mt_6 229 (by decide +kernel) rfl⟩
theorem mlX2_77 : ML RX2 77 yX8_put := Or.inl (inT mt_6 231 (by decide +kernel) rfl)
theorem mlX2_83 : ML RX2 83 yX2_setNumber := Or.inl (inT mt_6 232 (by decide +kernel) rfl)
set_option maxRecDepth 100000 in
theorem mcX2_setNumber : MCv yX2_setNumber cX2_setNumber 5 none 3 := ⟨⟨inT mt_1 6 (by decide +kernel) rfl, inT mt_6 235 rfl rfl, ⟨by decide +kernel, by decide +kernel⟩, by decide +kernel⟩, inT mt_6 234 (by decide +kernel) rfl, inT mt_0 72 (by decide +kernel) rfl⟩
theorem mlX9_121 : ML RX9 121 yX9_keepStates := Or.inl (inT mt_6 236 (by decide +kernel) rfl)
set_option maxRecDepth 100000 in
theorem mcX9_keepStates : MCv yX9_keepStates cX9_keepStates 2 none 0 := ⟨⟨inT mt_1 3 (by decide +kernel) rfl, inT mt_6 239 rfl rfl, ⟨by decide +kernel, by decide +kernel⟩, by decide +kernel⟩, inT mt_6 238 (by decide +kernel) rfl, inT mt_0 73 (by decide +kernel) rfl⟩
theorem mlX11_82 : ML RX11 82 yX9_isMuch := Or.inl (inT mt_7 0 (by decide +kernel) rfl)
theorem mlX11_86 : ML RX11 86 yX3_read := Or.inl (inT mt_7 1 (by decide +kernel) rfl)
set_option maxRecDepth 100000 in
theorem mcX3_read : MCv yX3_read cX3_read 7 none 3 := ⟨⟨inT mt_1 14 (by decide +kernel) rfl, inT mt_7 4 rfl rfl, ⟨by decide +kernel, by decide +kernel⟩, by decide +kernel⟩, inT mt_7 2 (by decide +kernel) rfl, inT mt_7 3 (by decide +kernel) rfl⟩
theorem mlX3_53 : ML RX3 53 yX3_readHeader := Or.inl (inT mt_7 5 (by decide +kernel) rfl)
set_option maxRecDepth 100000 in
theorem mcX3_readHeader : MCv yX3_readHeader cX3_readHeader 4 none 0 := ⟨⟨inT mt_1 14 (by decide +kernel) rfl, inT mt_7 8 rfl rfl, ⟨by decide +kernel, by decide +kernel⟩, by decide +kernel⟩, inT mt_7 7 (by decide +kernel) rfl, inT mt_0 74 (by decide +kernel) rfl⟩
theorem mlX3_76 : ML RX3 76 yX3_byteAt := Or.inl (inT mt_7 9 (by decide +kernel) rfl)
set_option maxRecDepth 100000 in
theorem mcX3_byteAt : MCv yX3_byteAt cX3_byteAt 5 (some .int) 1 := ⟨⟨inT mt_1 14 (by decide +kernel) rfl, inT mt_7 12 rfl rfl, ⟨by decide +kernel, by decide +kernel⟩, by decide +kernel⟩, inT mt_7 11 (by decide +kernel) rfl, inT mt_0 75 (by decide +kernel) rfl⟩
theorem mlX3_80 : ML RX3 80 yX3_fail := Or.inl (inT mt_7 13 (by decide +kernel) rfl)
set_option maxRecDepth 100000 in
theorem mcX3_fail : MCv yX3_fail cX3_fail 4 none 2 := ⟨⟨inT mt_1 14 (by decide +kernel) rfl, inT mt_7 16 rfl rfl, ⟨by decide +kernel, by decide +kernel⟩, by decide +kernel⟩, inT mt_7 15 (by decide +kernel) rfl, inT mt_0 76 (by decide +kernel) rfl⟩
theorem mlX3_66 : ML RX3 66 yJ9_min_f86c9 := Or.inl (inT mt_7 17 (by decide +kernel) rfl)
theorem kcX3_56 : Cond.constantLong RX3 56 (4) ∈ TBL := inT mt_7 18 (by decide +kernel) rfl
theorem mlX3_58 : ML RX3 58 yX3_number := Or.inl (inT mt_7 19 (by decide +kernel) rfl)
set_option maxRecDepth 100000 in
theorem mcX3_number : MCv yX3_number cX3_number 7 (some .long) 2 := ⟨⟨inT mt_1 14 (by decide +kernel) rfl, inT mt_7 22 rfl rfl, ⟨by decide +kernel, by decide +kernel⟩, by decide +kernel⟩, inT mt_7 21 (by decide +kernel) rfl, inT mt_0 77 (by decide +kernel) rfl⟩
theorem mlX3_62 : ML RX3 62 yX3_readDirectory := Or.inl (inT mt_7 23 (by decide +kernel) rfl)
set_option maxRecDepth 100000 in
theorem mcX3_readDirectory : MCv yX3_readDirectory cX3_readDirectory 7 (some .long) 1 := ⟨⟨inT mt_1 14 (by decide +kernel) rfl, inT mt_7 26 rfl rfl, ⟨by decide +kernel, by decide +kernel⟩, by decide +kernel⟩, inT mt_7 25 (by decide +kernel) rfl, inT mt_0 78 (by decide +kernel) rfl⟩
theorem kcX3_84 : Cond.constantLong RX3 84 (2) ∈ TBL := inT mt_7 27 (by decide +kernel) rfl
theorem kcX3_86 : Cond.constantLong RX3 86 (12) ∈ TBL := inT mt_7 28 (by decide +kernel) rfl
theorem mlX3_88 : ML RX3 88 yX3_isDirectory := Or.inl (inT mt_7 29 (by decide +kernel) rfl)
set_option maxRecDepth 100000 in
theorem mcX3_isDirectory : MCv yX3_isDirectory cX3_isDirectory 7 (some .boolean) 2 := ⟨⟨inT mt_1 14 (by decide +kernel) rfl, inT mt_7 32 rfl rfl, ⟨by decide +kernel, by decide +kernel⟩, by decide +kernel⟩, inT mt_7 31 (by decide +kernel) rfl, inT mt_0 79 (by decide +kernel) rfl⟩
theorem mlX3_92 : ML RX3 92 yX3_startEntries := Or.inl (inT mt_7 33 (by decide +kernel) rfl)
set_option maxRecDepth 100000 in
theorem mcX3_startEntries : MCv yX3_startEntries cX3_startEntries 1 none 0 := ⟨⟨inT mt_1 14 (by decide +kernel) rfl, inT mt_7 36 rfl rfl, ⟨by decide +kernel, by decide +kernel⟩, by decide +kernel⟩, inT mt_7 35 (by decide +kernel) rfl, inT mt_0 80 (by decide +kernel) rfl⟩
theorem kcX3_121 : Cond.constantLong RX3 121 (-1) ∈ TBL := inT mt_7 37 (by decide +kernel) rfl
theorem mlX3_95 : ML RX3 95 yX3_readEntry := Or.inl (inT mt_7 38 (by decide +kernel) rfl)
set_option maxRecDepth 100000 in
theorem mcX3_readEntry : MCv yX3_readEntry cX3_readEntry 10 none 1 := ⟨⟨inT mt_1 14 (by decide +kernel) rfl, inT mt_7 41 rfl rfl, ⟨by decide +kernel, by decide +kernel⟩, by decide +kernel⟩, inT mt_7 40 (by decide +kernel) rfl, inT mt_0 81 (by decide +kernel) rfl⟩
theorem mlX3_141 : ML RX3 141 yX3_isOfOne := Or.inl (inT mt_7 42 (by decide +kernel) rfl)
set_option maxRecDepth 100000 in
theorem mcX3_isOfOne : MCs yX3_isOfOne cX3_isOfOne 1 (some .boolean) 1 := ⟨⟨inT mt_1 14 (by decide +kernel) rfl, inT mt_7 44 rfl rfl, ⟨by decide +kernel, by decide +kernel⟩, by decide +kernel⟩, inT mt_7 43 (by decide +kernel) rfl⟩
theorem kcX3_145 : Cond.constantLong RX3 145 (8) ∈ TBL := inT mt_7 45 (by decide +kernel) rfl
theorem mlX3_147 : ML RX3 147 yX3_tell := Or.inl (inT mt_7 46 (by decide +kernel) rfl)
set_option maxRecDepth 100000 in
theorem mcX3_tell : MCv yX3_tell cX3_tell 4 (some .boolean) 2 := ⟨⟨inT mt_1 14 (by decide +kernel) rfl, inT mt_7 49 rfl rfl, ⟨by decide +kernel, by decide +kernel⟩, by decide +kernel⟩, inT mt_7 48 (by decide +kernel) rfl, inT mt_0 82 (by decide +kernel) rfl⟩
theorem kcX3_151 : Cond.constantLong RX3 151 (640) ∈ TBL := inT mt_7 50 (by decide +kernel) rfl
theorem kcX3_153 : Cond.constantLong RX3 153 (800) ∈ TBL := inT mt_7 51 (by decide +kernel) rfl
theorem mlX3_99 : ML RX3 99 yX3_checkEntries := Or.inl (inT mt_7 52 (by decide +kernel) rfl)
set_option maxRecDepth 100000 in
theorem mcX3_checkEntries : MCv yX3_checkEntries cX3_checkEntries 3 none 1 := ⟨⟨inT mt_1 14 (by decide +kernel) rfl, inT mt_7 55 rfl rfl, ⟨by decide +kernel, by decide +kernel⟩, by decide +kernel⟩, inT mt_7 54 (by decide +kernel) rfl, inT mt_0 83 (by decide +kernel) rfl⟩
theorem mlX3_155 : ML RX3 155 yX3_isList := Or.inl (inT mt_7 56 (by decide +kernel) rfl)
set_option maxRecDepth 100000 in
theorem mcX3_isList : MCv yX3_isList cX3_isList 9 (some .boolean) 1 := ⟨⟨inT mt_1 14 (by decide +kernel) rfl, inT mt_7 59 rfl rfl, ⟨by decide +kernel, by decide +kernel⟩, by decide +kernel⟩, inT mt_7 58 (by decide +kernel) rfl, inT mt_0 84 (by decide +kernel) rfl⟩
theorem kcX3_162 : Cond.constantLong RX3 162 (3) ∈ TBL := inT mt_7 60 (by decide +kernel) rfl
theorem mlX3_164 : ML RX3 164 yX3_strips := Or.inl (inT mt_7 61 (by decide +kernel) rfl)
set_option maxRecDepth 100000 in
theorem mcX3_strips : MCv yX3_strips cX3_strips 1 (some .long) 0 := ⟨⟨inT mt_1 14 (by decide +kernel) rfl, inT mt_7 64 rfl rfl, ⟨by decide +kernel, by decide +kernel⟩, by decide +kernel⟩, inT mt_7 63 (by decide +kernel) rfl, inT mt_0 85 (by decide +kernel) rfl⟩
theorem mlX3_159 : ML RX3 159 yJ9_max_f86c9 := Or.inl (inT mt_7 65 (by decide +kernel) rfl)
theorem kcX3_168 : Cond.constantLong RX3 168 (40) ∈ TBL := inT mt_7 66 (by decide +kernel) rfl
theorem mlX3_102 : ML RX3 102 yX3_readStrips := Or.inl (inT mt_7 67 (by decide +kernel) rfl)
set_option maxRecDepth 100000 in
theorem mcX3_readStrips : MCv yX3_readStrips cX3_readStrips 11 none 0 := ⟨⟨inT mt_1 14 (by decide +kernel) rfl, inT mt_7 70 rfl rfl, ⟨by decide +kernel, by decide +kernel⟩, by decide +kernel⟩, inT mt_7 69 (by decide +kernel) rfl, inT mt_0 86 (by decide +kernel) rfl⟩
theorem mlX3_170 : ML RX3 170 yX6_nextPage := Or.inl (inT mt_7 71 (by decide +kernel) rfl)
theorem mlX3_174 : ML RX3 174 yJ7_fill_53178 := Or.inl (inT mt_7 72 (by decide +kernel) rfl)
theorem mlX3_180 : ML RX3 180 yX3_listed := Or.inl (inT mt_7 73 (by decide +kernel) rfl)
set_option maxRecDepth 100000 in
theorem mcX3_listed : MCv yX3_listed cX3_listed 7 (some .long) 2 := ⟨⟨inT mt_1 14 (by decide +kernel) rfl, inT mt_7 76 rfl rfl, ⟨by decide +kernel, by decide +kernel⟩, by decide +kernel⟩, inT mt_7 75 (by decide +kernel) rfl, inT mt_0 87 (by decide +kernel) rfl⟩
theorem mlX3_183 : ML RX3 183 yX3_openStrip := Or.inl (inT mt_7 77 (by decide +kernel) rfl)
set_option maxRecDepth 100000 in
theorem mcX3_openStrip : MCv yX3_openStrip cX3_openStrip 5 none 2 := ⟨⟨inT mt_1 14 (by decide +kernel) rfl, inT mt_7 80 rfl rfl, ⟨by decide +kernel, by decide +kernel⟩, by decide +kernel⟩, inT mt_7 79 (by decide +kernel) rfl, inT mt_0 88 (by decide +kernel) rfl⟩
theorem mlX3_201 : ML RX3 201 yJ9_min_7cf53 := Or.inl (inT mt_7 81 (by decide +kernel) rfl)
theorem mlX3_186 : ML RX3 186 yX3_readRow := Or.inl (inT mt_7 82 (by decide +kernel) rfl)
set_option maxRecDepth 100000 in
theorem mcX3_readRow : MCv yX3_readRow cX3_readRow 14 (some .boolean) 3 := ⟨⟨inT mt_1 14 (by decide +kernel) rfl, inT mt_7 85 rfl rfl, ⟨by decide +kernel, by decide +kernel⟩, by decide +kernel⟩, inT mt_7 84 (by decide +kernel) rfl, inT mt_0 89 (by decide +kernel) rfl⟩
theorem kcX3_220 : Cond.constant RX3 220 (1000000) ∈ TBL := inT mt_7 86 (by decide +kernel) rfl
theorem mlX3_221 : ML RX3 221 yJ9_max_7cf53 := Or.inl (inT mt_7 87 (by decide +kernel) rfl)
theorem mlX3_223 : ML RX3 223 yX11_firstChange := Or.inr ⟨"PrinterHouse", inN mt_7 88 (by decide +kernel) rfl⟩
theorem mlX3_227 : ML RX3 227 yX3_readMode := Or.inl (inT mt_7 89 (by decide +kernel) rfl)
set_option maxRecDepth 100000 in
theorem mcX3_readMode : MCv yX3_readMode cX3_readMode 3 (some .int) 0 := ⟨⟨inT mt_1 14 (by decide +kernel) rfl, inT mt_7 92 rfl rfl, ⟨by decide +kernel, by decide +kernel⟩, by decide +kernel⟩, inT mt_7 91 (by decide +kernel) rfl, inT mt_0 90 (by decide +kernel) rfl⟩
theorem mlX3_207 : ML RX3 207 yX3_peek := Or.inl (inT mt_7 93 (by decide +kernel) rfl)
set_option maxRecDepth 100000 in
theorem mcX3_peek : MCv yX3_peek cX3_peek 6 (some .int) 1 := ⟨⟨inT mt_1 14 (by decide +kernel) rfl, inT mt_7 96 rfl rfl, ⟨by decide +kernel, by decide +kernel⟩, by decide +kernel⟩, inT mt_7 95 (by decide +kernel) rfl, inT mt_0 91 (by decide +kernel) rfl⟩
theorem mlX3_211 : ML RX3 211 yX3_skipBits := Or.inl (inT mt_7 97 (by decide +kernel) rfl)
set_option maxRecDepth 100000 in
theorem mcX3_skipBits : MCv yX3_skipBits cX3_skipBits 2 (some .boolean) 1 := ⟨⟨inT mt_1 14 (by decide +kernel) rfl, inT mt_7 100 rfl rfl, ⟨by decide +kernel, by decide +kernel⟩, by decide +kernel⟩, inT mt_7 99 (by decide +kernel) rfl, inT mt_0 92 (by decide +kernel) rfl⟩
theorem gsX3_214 : Cond.fieldLinkNest RX3 214 "PrinterHouse" "NEAR_CODES" "[I" "PrinterHouse" ∈ NST := inN mt_7 101 (by decide +kernel) rfl
theorem gsX3_217 : Cond.fieldLinkNest RX3 217 "PrinterHouse" "NEAR_BITS" "[I" "PrinterHouse" ∈ NST := inN mt_7 102 (by decide +kernel) rfl
theorem mlX3_231 : ML RX3 231 yX11_firstOther := Or.inr ⟨"PrinterHouse", inN mt_7 103 (by decide +kernel) rfl⟩
theorem mlX3_234 : ML RX3 234 yX3_readRun := Or.inl (inT mt_7 104 (by decide +kernel) rfl)
set_option maxRecDepth 100000 in
theorem mcX3_readRun : MCv yX3_readRun cX3_readRun 7 (some .int) 1 := ⟨⟨inT mt_1 14 (by decide +kernel) rfl, inT mt_7 107 rfl rfl, ⟨by decide +kernel, by decide +kernel⟩, by decide +kernel⟩, inT mt_7 106 (by decide +kernel) rfl, inT mt_0 93 (by decide +kernel) rfl⟩
theorem mlX3_237 : ML RX3 237 yX11_blacken := Or.inr ⟨"PrinterHouse", inN mt_7 108 (by decide +kernel) rfl⟩
theorem mlX3_190 : ML RX3 190 yX3_invert := Or.inl (inT mt_7 109 (by decide +kernel) rfl)
set_option maxRecDepth 100000 in
theorem mcX3_invert : MCv yX3_invert cX3_invert 5 none 1 := ⟨⟨inT mt_1 14 (by decide +kernel) rfl, inT mt_7 112 rfl rfl, ⟨by decide +kernel, by decide +kernel⟩, by decide +kernel⟩, inT mt_7 111 (by decide +kernel) rfl, inT mt_0 94 (by decide +kernel) rfl⟩
theorem mlX3_194 : ML RX3 194 yX11_maskOf := Or.inr ⟨"PrinterHouse", inN mt_7 113 (by decide +kernel) rfl⟩
theorem mlX3_112 : ML RX3 112 yX6_come := Or.inl (inT mt_7 114 (by decide +kernel) rfl)
theorem mlX11_96 : ML RX11 96 yX9_dropTemporary := Or.inl (inT mt_7 115 (by decide +kernel) rfl)
theorem mlL_36 : ML RL 36 yX11_fault := Or.inl (inT mt_7 116 (by decide +kernel) rfl)
set_option maxRecDepth 100000 in
theorem mcX11_fault : MCv yX11_fault cX11_fault 2 (some .int) 1 := ⟨⟨inT mt_1 1 (by decide +kernel) rfl, inT mt_7 119 rfl rfl, ⟨by decide +kernel, by decide +kernel⟩, by decide +kernel⟩, inT mt_7 117 (by decide +kernel) rfl, inT mt_7 118 (by decide +kernel) rfl⟩
theorem mlL_40 : ML RL 40 yX11_outs := Or.inl (inT mt_7 120 (by decide +kernel) rfl)
set_option maxRecDepth 100000 in
theorem mcX11_outs : MCv yX11_outs cX11_outs 1 (some .int) 0 := ⟨⟨inT mt_1 1 (by decide +kernel) rfl, inT mt_7 123 rfl rfl, ⟨by decide +kernel, by decide +kernel⟩, by decide +kernel⟩, inT mt_7 121 (by decide +kernel) rfl, inT mt_7 122 (by decide +kernel) rfl⟩
theorem mlL_44 : ML RL 44 yX11_out := Or.inl (inT mt_7 124 (by decide +kernel) rfl)
set_option maxRecDepth 100000 in
theorem mcX11_out : MCv yX11_out cX11_out 2 (some .int) 1 := ⟨⟨inT mt_1 1 (by decide +kernel) rfl, inT mt_7 127 rfl rfl, ⟨by decide +kernel, by decide +kernel⟩, by decide +kernel⟩, inT mt_7 125 (by decide +kernel) rfl, inT mt_7 126 (by decide +kernel) rfl⟩
theorem mlX11_102 : ML RX11 102 yX6_byteAt := Or.inl (inT mt_7 128 (by decide +kernel) rfl)
set_option maxRecDepth 100000 in
theorem mcX6_byteAt : MCv yX6_byteAt cX6_byteAt 2 (some .int) 1 := ⟨⟨inT mt_1 2 (by decide +kernel) rfl, inT mt_7 131 rfl rfl, ⟨by decide +kernel, by decide +kernel⟩, by decide +kernel⟩, inT mt_7 129 (by decide +kernel) rfl, inT mt_7 130 (by decide +kernel) rfl⟩
theorem mlL_48 : ML RL 48 yX11_sum := Or.inl (inT mt_7 132 (by decide +kernel) rfl)
set_option maxRecDepth 100000 in
theorem mcX11_sum : MCv yX11_sum cX11_sum 1 (some .int) 0 := ⟨⟨inT mt_1 1 (by decide +kernel) rfl, inT mt_7 135 rfl rfl, ⟨by decide +kernel, by decide +kernel⟩, by decide +kernel⟩, inT mt_7 133 (by decide +kernel) rfl, inT mt_7 134 (by decide +kernel) rfl⟩
theorem mlX11_106 : ML RX11 106 yX6_sumOfBytes := Or.inl (inT mt_7 136 (by decide +kernel) rfl)
set_option maxRecDepth 100000 in
theorem mcX6_sumOfBytes : MCv yX6_sumOfBytes cX6_sumOfBytes 3 (some .int) 0 := ⟨⟨inT mt_1 2 (by decide +kernel) rfl, inT mt_7 139 rfl rfl, ⟨by decide +kernel, by decide +kernel⟩, by decide +kernel⟩, inT mt_7 137 (by decide +kernel) rfl, inT mt_7 138 (by decide +kernel) rfl⟩
theorem mlL_52 : ML RL 52 yX11_take := Or.inl (inT mt_7 140 (by decide +kernel) rfl)
set_option maxRecDepth 100000 in
theorem mcX11_take : MCv yX11_take cX11_take 2 (some .int) 0 := ⟨⟨inT mt_1 1 (by decide +kernel) rfl, inT mt_7 143 rfl rfl, ⟨by decide +kernel, by decide +kernel⟩, by decide +kernel⟩, inT mt_7 141 (by decide +kernel) rfl, inT mt_7 142 (by decide +kernel) rfl⟩
theorem mlL_56 : ML RL 56 yX11_pages := Or.inl (inT mt_7 144 (by decide +kernel) rfl)
set_option maxRecDepth 100000 in
theorem mcX11_pages : MCv yX11_pages cX11_pages 1 (some .int) 0 := ⟨⟨inT mt_1 1 (by decide +kernel) rfl, inT mt_7 147 rfl rfl, ⟨by decide +kernel, by decide +kernel⟩, by decide +kernel⟩, inT mt_7 145 (by decide +kernel) rfl, inT mt_7 146 (by decide +kernel) rfl⟩
theorem mlL_60 : ML RL 60 yX11_width := Or.inl (inT mt_7 148 (by decide +kernel) rfl)
set_option maxRecDepth 100000 in
theorem mcX11_width : MCv yX11_width cX11_width 2 (some .int) 1 := ⟨⟨inT mt_1 1 (by decide +kernel) rfl, inT mt_7 151 rfl rfl, ⟨by decide +kernel, by decide +kernel⟩, by decide +kernel⟩, inT mt_7 149 (by decide +kernel) rfl, inT mt_7 150 (by decide +kernel) rfl⟩
theorem mlX11_113 : ML RX11 113 yX6_hasPage := Or.inl (inT mt_7 152 (by decide +kernel) rfl)
set_option maxRecDepth 100000 in
theorem mcX6_hasPage : MCv yX6_hasPage cX6_hasPage 2 (some .boolean) 1 := ⟨⟨inT mt_1 2 (by decide +kernel) rfl, inT mt_7 155 rfl rfl, ⟨by decide +kernel, by decide +kernel⟩, by decide +kernel⟩, inT mt_7 153 (by decide +kernel) rfl, inT mt_7 154 (by decide +kernel) rfl⟩
theorem mlL_64 : ML RL 64 yX11_height := Or.inl (inT mt_7 156 (by decide +kernel) rfl)
set_option maxRecDepth 100000 in
theorem mcX11_height : MCv yX11_height cX11_height 2 (some .int) 1 := ⟨⟨inT mt_1 1 (by decide +kernel) rfl, inT mt_7 159 rfl rfl, ⟨by decide +kernel, by decide +kernel⟩, by decide +kernel⟩, inT mt_7 157 (by decide +kernel) rfl, inT mt_7 158 (by decide +kernel) rfl⟩
theorem mlL_68 : ML RL 68 yX11_dot := Or.inl (inT mt_7 160 (by decide +kernel) rfl)
set_option maxRecDepth 100000 in
theorem mcX11_dot : MCv yX11_dot cX11_dot 4 (some .int) 3 := ⟨⟨inT mt_1 1 (by decide +kernel) rfl, inT mt_7 163 rfl rfl, ⟨by decide +kernel, by decide +kernel⟩, by decide +kernel⟩, inT mt_7 161 (by decide +kernel) rfl, inT mt_7 162 (by decide +kernel) rfl⟩
theorem mlX11_123 : ML RX11 123 yX6_hasRow := Or.inl (inT mt_7 164 (by decide +kernel) rfl)
set_option maxRecDepth 100000 in
theorem mcX6_hasRow : MCv yX6_hasRow cX6_hasRow 3 (some .boolean) 2 := ⟨⟨inT mt_1 2 (by decide +kernel) rfl, inT mt_7 167 rfl rfl, ⟨by decide +kernel, by decide +kernel⟩, by decide +kernel⟩, inT mt_7 165 (by decide +kernel) rfl, inT mt_7 166 (by decide +kernel) rfl⟩
theorem mlX6_39 : ML RX6 39 yX6_hasPage := Or.inl (inT mt_7 168 (by decide +kernel) rfl)
theorem mlL_73 : ML RL 73 yX11_black := Or.inl (inT mt_7 169 (by decide +kernel) rfl)
set_option maxRecDepth 100000 in
theorem mcX11_black : MCv yX11_black cX11_black 3 (some .int) 2 := ⟨⟨inT mt_1 1 (by decide +kernel) rfl, inT mt_7 172 rfl rfl, ⟨by decide +kernel, by decide +kernel⟩, by decide +kernel⟩, inT mt_7 170 (by decide +kernel) rfl, inT mt_7 171 (by decide +kernel) rfl⟩
theorem mlX11_135 : ML RX11 135 yX6_blackDots := Or.inl (inT mt_7 173 (by decide +kernel) rfl)
set_option maxRecDepth 100000 in
theorem mcX6_blackDots : MCv yX6_blackDots cX6_blackDots 7 (some .int) 2 := ⟨⟨inT mt_1 2 (by decide +kernel) rfl, inT mt_7 176 rfl rfl, ⟨by decide +kernel, by decide +kernel⟩, by decide +kernel⟩, inT mt_7 174 (by decide +kernel) rfl, inT mt_7 175 (by decide +kernel) rfl⟩
theorem mlX6_43 : ML RX6 43 yJ6_bitCount_0f7a4 := Or.inl (inT mt_7 177 (by decide +kernel) rfl)
theorem mlL_78 : ML RL 78 yX11_state := Or.inl (inT mt_7 178 (by decide +kernel) rfl)
set_option maxRecDepth 100000 in
theorem mcX11_state : MCv yX11_state cX11_state 2 (some .int) 1 := ⟨⟨inT mt_1 1 (by decide +kernel) rfl, inT mt_7 181 rfl rfl, ⟨by decide +kernel, by decide +kernel⟩, by decide +kernel⟩, inT mt_7 179 (by decide +kernel) rfl, inT mt_7 180 (by decide +kernel) rfl⟩
theorem mlX11_139 : ML RX11 139 yX9_lastState := Or.inl (inT mt_7 182 (by decide +kernel) rfl)
set_option maxRecDepth 100000 in
theorem mcX9_lastState : MCv yX9_lastState cX9_lastState 2 (some .int) 1 := ⟨⟨inT mt_1 3 (by decide +kernel) rfl, inT mt_7 185 rfl rfl, ⟨by decide +kernel, by decide +kernel⟩, by decide +kernel⟩, inT mt_7 183 (by decide +kernel) rfl, inT mt_7 184 (by decide +kernel) rfl⟩
theorem mlL_82 : ML RL 82 yX11_held := Or.inl (inT mt_7 186 (by decide +kernel) rfl)
set_option maxRecDepth 100000 in
theorem mcX11_held : MCv yX11_held cX11_held 2 (some .int) 1 := ⟨⟨inT mt_1 1 (by decide +kernel) rfl, inT mt_7 189 rfl rfl, ⟨by decide +kernel, by decide +kernel⟩, by decide +kernel⟩, inT mt_7 187 (by decide +kernel) rfl, inT mt_7 188 (by decide +kernel) rfl⟩
theorem mlX11_142 : ML RX11 142 yX9_number := Or.inl (inT mt_7 190 (by decide +kernel) rfl)
set_option maxRecDepth 100000 in
theorem mcX9_number : MCv yX9_number cX9_number 2 (some .int) 1 := ⟨⟨inT mt_1 3 (by decide +kernel) rfl, inT mt_7 193 rfl rfl, ⟨by decide +kernel, by decide +kernel⟩, by decide +kernel⟩, inT mt_7 191 (by decide +kernel) rfl, inT mt_7 192 (by decide +kernel) rfl⟩
theorem mlX9_179 : ML RX9 179 yX8_count := Or.inl (inT mt_7 194 (by decide +kernel) rfl)
set_option maxRecDepth 100000 in
theorem mcX8_count : MCv yX8_count cX8_count 3 (some .int) 0 := ⟨⟨inT mt_1 7 (by decide +kernel) rfl, inT mt_7 197 rfl rfl, ⟨by decide +kernel, by decide +kernel⟩, by decide +kernel⟩, inT mt_7 195 (by decide +kernel) rfl, inT mt_7 196 (by decide +kernel) rfl⟩
theorem mlX9_186 : ML RX9 186 yX9_bytesOfMacros := Or.inl (inT mt_7 198 (by decide +kernel) rfl)
set_option maxRecDepth 100000 in
theorem mcX9_bytesOfMacros : MCv yX9_bytesOfMacros cX9_bytesOfMacros 3 (some .int) 0 := ⟨⟨inT mt_1 3 (by decide +kernel) rfl, inT mt_7 201 rfl rfl, ⟨by decide +kernel, by decide +kernel⟩, by decide +kernel⟩, inT mt_7 200 (by decide +kernel) rfl, inT mt_0 95 (by decide +kernel) rfl⟩
theorem mlL_86 : ML RL 86 yX11_off := Or.inl (inT mt_7 202 (by decide +kernel) rfl)
set_option maxRecDepth 100000 in
theorem mcX11_off : MCv yX11_off cX11_off 1 (some .int) 0 := ⟨⟨inT mt_1 1 (by decide +kernel) rfl, inT mt_7 205 rfl rfl, ⟨by decide +kernel, by decide +kernel⟩, by decide +kernel⟩, inT mt_7 203 (by decide +kernel) rfl, inT mt_7 204 (by decide +kernel) rfl⟩
theorem mlX11_145 : ML RX11 145 yX9_dropAll := Or.inl (inT mt_7 206 (by decide +kernel) rfl)
set_option maxRecDepth 100000 in
theorem mcX9_dropAll : MCv yX9_dropAll cX9_dropAll 2 (some .int) 0 := ⟨⟨inT mt_1 3 (by decide +kernel) rfl, inT mt_7 209 rfl rfl, ⟨by decide +kernel, by decide +kernel⟩, by decide +kernel⟩, inT mt_7 207 (by decide +kernel) rfl, inT mt_7 208 (by decide +kernel) rfl⟩
theorem klL_10 : Cond.classLink RL 10 RX12 ∈ TBL := inT mt_7 210 (by decide +kernel) rfl
theorem knX12 : Cond.instantiable RX12 80 ∈ TBL := inT mt_7 211 (by decide +kernel) rfl
theorem mlL_12 : ML RL 12 yX12_init := Or.inl (inT mt_7 212 (by decide +kernel) rfl)
set_option maxRecDepth 100000 in
theorem mcX12_init : MCi yX12_init cX12_init 2 0 := ⟨⟨inT mt_1 15 (by decide +kernel) rfl, inT mt_7 214 rfl rfl, ⟨by decide +kernel, by decide +kernel⟩, by decide +kernel⟩, inT mt_7 213 (by decide +kernel) rfl, rfl⟩
theorem mlX12_1 : ML RX12 1 objectInit := Or.inl (inT mt_7 215 (by decide +kernel) rfl)
theorem kcX12_81 : Cond.constant RX12 81 (64000) ∈ TBL := inT mt_7 216 (by decide +kernel) rfl
theorem kcX12_85 : Cond.constant RX12 85 (768000) ∈ TBL := inT mt_7 217 (by decide +kernel) rfl
theorem kcX12_95 : Cond.constant RX12 95 (60008) ∈ TBL := inT mt_7 218 (by decide +kernel) rfl
theorem mlX12_143 : ML RX12 143 yX12_readCodes := Or.inl (inT mt_7 219 (by decide +kernel) rfl)
set_option maxRecDepth 100000 in
theorem mcX12_readCodes : MCv yX12_readCodes cX12_readCodes 1 none 0 := ⟨⟨inT mt_1 15 (by decide +kernel) rfl, inT mt_7 222 rfl rfl, ⟨by decide +kernel, by decide +kernel⟩, by decide +kernel⟩, inT mt_7 221 (by decide +kernel) rfl, inT mt_0 96 (by decide +kernel) rfl⟩
theorem mlX12_507 : ML RX12 507 yX12_readRow := Or.inl (inT mt_7 224 (by decide +kernel) rfl)
set_option maxRecDepth 100000 in
theorem mcX12_readRow : MCv yX12_readRow cX12_readRow 9 none 2 := ⟨⟨inT mt_1 15 (by decide +kernel) rfl, inT mt_7 227 rfl rfl, ⟨by decide +kernel, by decide +kernel⟩, by decide +kernel⟩, inT mt_7 226 (by decide +kernel) rfl, inT mt_0 97 (by decide +kernel) rfl⟩
theorem mlX12_513 : ML RX12 513 yJ0_length_8abf5 := Or.inl (inT mt_7 228 (by decide +kernel) rfl)
set_option maxRecDepth 100000 in
theorem mcJ0_length_8abf5 : MCv yJ0_length_8abf5 cJ0_length_8abf5 1 (some .int) 0 := ⟨⟨inT mt_1 16 (by decide +kernel) rfl, inT mt_7 231 rfl rfl, ⟨by decide +kernel, by decide +kernel⟩, by decide +kernel⟩, inT mt_7 229 (by decide +kernel) rfl, inT mt_7 230 (by decide +kernel) rfl⟩
theorem mlJ0_335 : ML RJ0 335 yJ0_coder_7d493 := Or.inl (inT mt_7 232 (by decide +kernel) rfl)
set_option maxRecDepth 100000 in
theorem mcJ0_coder_7d493 : MCv yJ0_coder_7d493 cJ0_coder_7d493 1 (some .byte) 0 := ⟨⟨inT mt_1 16 (by decide +kernel) rfl, inT mt_7 235 rfl rfl, ⟨by decide +kernel, by decide +kernel⟩, by decide +kernel⟩, inT mt_7 233 (by decide +kernel) rfl, inT mt_7 234 (by decide +kernel) rfl⟩
theorem gsJ0_38 : Cond.fieldLink RJ0 38 "java/lang/String" "COMPACT_STRINGS" "Z" ∈ TBL := inT mt_7 236 (by decide +kernel) rfl
theorem mlX12_518 : ML RX12 518 yJ0_charAt_5068e := Or.inl (inT mt_7 238 (by decide +kernel) rfl)
set_option maxRecDepth 100000 in
theorem mcJ0_charAt_5068e : MCv yJ0_charAt_5068e cJ0_charAt_5068e 2 (some .char) 1 := ⟨⟨inT mt_1 16 (by decide +kernel) rfl, inT mt_8 1 rfl rfl, ⟨by decide +kernel, by decide +kernel⟩, by decide +kernel⟩, inT mt_7 239 (by decide +kernel) rfl, inT mt_8 0 (by decide +kernel) rfl⟩
theorem mlJ0_492 : ML RJ0 492 yJ0_isLatin1_aae02 := Or.inl (inT mt_8 2 (by decide +kernel) rfl)
set_option maxRecDepth 100000 in
theorem mcJ0_isLatin1_aae02 : MCv yJ0_isLatin1_aae02 cJ0_isLatin1_aae02 1 (some .boolean) 0 := ⟨⟨inT mt_1 16 (by decide +kernel) rfl, inT mt_8 5 rfl rfl, ⟨by decide +kernel, by decide +kernel⟩, by decide +kernel⟩, inT mt_8 3 (by decide +kernel) rfl, inT mt_8 4 (by decide +kernel) rfl⟩
theorem mlJ0_495 : ML RJ0 495 yJ1_charAt_3b067 := Or.inl (inT mt_8 6 (by decide +kernel) rfl)
set_option maxRecDepth 100000 in
theorem mcJ1_charAt_3b067 : MCs yJ1_charAt_3b067 cJ1_charAt_3b067 2 (some .char) 2 := ⟨⟨inT mt_1 17 (by decide +kernel) rfl, inT mt_8 8 rfl rfl, ⟨by decide +kernel, by decide +kernel⟩, by decide +kernel⟩, inT mt_8 7 (by decide +kernel) rfl⟩
theorem mlJ1_9 : ML RJ1 9 yJ0_checkIndex_df160 := Or.inl (inT mt_8 9 (by decide +kernel) rfl)
set_option maxRecDepth 100000 in
theorem mcJ0_checkIndex_df160 : MCs yJ0_checkIndex_df160 cJ0_checkIndex_df160 2 none 2 := ⟨⟨inT mt_1 16 (by decide +kernel) rfl, inT mt_8 11 rfl rfl, ⟨by decide +kernel, by decide +kernel⟩, by decide +kernel⟩, inT mt_8 10 (by decide +kernel) rfl⟩
theorem gsJ0_1053 : Cond.fieldLink RJ0 1053 "jdk/internal/util/Preconditions" "SIOOBE_FORMATTER" "Ljava/util/function/BiFunction;" ∈ TBL := inT mt_8 12 (by decide +kernel) rfl
theorem mlJ0_1059 : ML RJ0 1059 yJ3_checkIndex_8e157 := Or.inl (inT mt_8 14 (by decide +kernel) rfl)
set_option maxRecDepth 100000 in
theorem mcJ3_checkIndex_8e157 : MCs yJ3_checkIndex_8e157 cJ3_checkIndex_8e157 3 (some .int) 3 := ⟨⟨inT mt_1 18 (by decide +kernel) rfl, inT mt_8 16 rfl rfl, ⟨by decide +kernel, by decide +kernel⟩, by decide +kernel⟩, inT mt_8 15 (by decide +kernel) rfl⟩
theorem mlJ0_498 : ML RJ0 498 yJ2_charAt_3b067 := Or.inl (inT mt_8 17 (by decide +kernel) rfl)
set_option maxRecDepth 100000 in
theorem mcJ2_charAt_3b067 : MCs yJ2_charAt_3b067 cJ2_charAt_3b067 2 (some .char) 2 := ⟨⟨inT mt_1 19 (by decide +kernel) rfl, inT mt_8 19 rfl rfl, ⟨by decide +kernel, by decide +kernel⟩, by decide +kernel⟩, inT mt_8 18 (by decide +kernel) rfl⟩
theorem mlJ2_67 : ML RJ2 67 yJ2_checkIndex_2214a := Or.inl (inT mt_8 20 (by decide +kernel) rfl)
set_option maxRecDepth 100000 in
theorem mcJ2_checkIndex_2214a : MCs yJ2_checkIndex_2214a cJ2_checkIndex_2214a 2 none 2 := ⟨⟨inT mt_1 19 (by decide +kernel) rfl, inT mt_8 22 rfl rfl, ⟨by decide +kernel, by decide +kernel⟩, by decide +kernel⟩, inT mt_8 21 (by decide +kernel) rfl⟩
theorem mlJ2_48 : ML RJ2 48 yJ2_length_9d52b := Or.inl (inT mt_8 23 (by decide +kernel) rfl)
set_option maxRecDepth 100000 in
theorem mcJ2_length_9d52b : MCs yJ2_length_9d52b cJ2_length_9d52b 1 (some .int) 1 := ⟨⟨inT mt_1 19 (by decide +kernel) rfl, inT mt_8 25 rfl rfl, ⟨by decide +kernel, by decide +kernel⟩, by decide +kernel⟩, inT mt_8 24 (by decide +kernel) rfl⟩
theorem mlJ2_414 : ML RJ2 414 yJ0_checkIndex_df160 := Or.inl (inT mt_8 26 (by decide +kernel) rfl)
theorem mlJ2_71 : ML RJ2 71 yJ2_getChar_3b067 := Or.inl (inT mt_8 27 (by decide +kernel) rfl)
set_option maxRecDepth 100000 in
theorem mcJ2_getChar_3b067 : MCs yJ2_getChar_3b067 cJ2_getChar_3b067 2 (some .char) 2 := ⟨⟨inT mt_1 19 (by decide +kernel) rfl, inT mt_8 29 rfl rfl, ⟨by decide +kernel, by decide +kernel⟩, by decide +kernel⟩, inT mt_8 28 (by decide +kernel) rfl⟩
theorem gsJ2_44 : Cond.fieldLink RJ2 44 "java/lang/StringUTF16" "$assertionsDisabled" "Z" ∈ TBL := inT mt_8 30 (by decide +kernel) rfl
theorem gsJ2_59 : Cond.fieldLink RJ2 59 "java/lang/StringUTF16" "HI_BYTE_SHIFT" "I" ∈ TBL := inT mt_8 32 (by decide +kernel) rfl
theorem gsJ2_63 : Cond.fieldLink RJ2 63 "java/lang/StringUTF16" "LO_BYTE_SHIFT" "I" ∈ TBL := inT mt_8 34 (by decide +kernel) rfl
theorem flX12_9 : FL RX12 9 12 0 := ⟨(RX12, TX12, 80), rfl, by decide, Or.inl (inT mt_8 37 (by decide +kernel) rfl)⟩
theorem flX12_9o : FLo RX12 9 12 0 := ⟨(RX12, TX12, 80), rfl, by decide, rfl, inT mt_8 37 (by decide +kernel) rfl⟩
theorem flX12_13 : FL RX12 13 12 1 := ⟨(RX12, TX12, 80), rfl, by decide, Or.inl (inT mt_8 38 (by decide +kernel) rfl)⟩
theorem flX12_13o : FLo RX12 13 12 1 := ⟨(RX12, TX12, 80), rfl, by decide, rfl, inT mt_8 38 (by decide +kernel) rfl⟩
theorem flX12_16 : FL RX12 16 12 2 := ⟨(RX12, TX12, 80), rfl, by decide, Or.inl (inT mt_8 39 (by decide +kernel) rfl)⟩
theorem flX12_16o : FLo RX12 16 12 2 := ⟨(RX12, TX12, 80), rfl, by decide, rfl, inT mt_8 39 (by decide +kernel) rfl⟩
theorem flX12_20 : FL RX12 20 12 3 := ⟨(RX12, TX12, 80), rfl, by decide, Or.inl (inT mt_8 40 (by decide +kernel) rfl)⟩
theorem flX12_20o : FLo RX12 20 12 3 := ⟨(RX12, TX12, 80), rfl, by decide, rfl, inT mt_8 40 (by decide +kernel) rfl⟩
theorem flX12_23 : FL RX12 23 12 4 := ⟨(RX12, TX12, 80), rfl, by decide, Or.inl (inT mt_8 41 (by decide +kernel) rfl)⟩
theorem flX12_23o : FLo RX12 23 12 4 := ⟨(RX12, TX12, 80), rfl, by decide, rfl, inT mt_8 41 (by decide +kernel) rfl⟩
theorem flX12_26 : FL RX12 26 12 5 := ⟨(RX12, TX12, 80), rfl, by decide, Or.inl (inT mt_8 42 (by decide +kernel) rfl)⟩
theorem flX12_26o : FLo RX12 26 12 5 := ⟨(RX12, TX12, 80), rfl, by decide, rfl, inT mt_8 42 (by decide +kernel) rfl⟩
theorem flX12_29 : FL RX12 29 12 6 := ⟨(RX12, TX12, 80), rfl, by decide, Or.inl (inT mt_8 43 (by decide +kernel) rfl)⟩
theorem flX12_29o : FLo RX12 29 12 6 := ⟨(RX12, TX12, 80), rfl, by decide, rfl, inT mt_8 43 (by decide +kernel) rfl⟩
theorem flX12_32 : FL RX12 32 12 7 := ⟨(RX12, TX12, 80), rfl, by decide, Or.inl (inT mt_8 44 (by decide +kernel) rfl)⟩
theorem flX12_32o : FLo RX12 32 12 7 := ⟨(RX12, TX12, 80), rfl, by decide, rfl, inT mt_8 44 (by decide +kernel) rfl⟩
theorem flX12_35 : FL RX12 35 12 8 := ⟨(RX12, TX12, 80), rfl, by decide, Or.inl (inT mt_8 45 (by decide +kernel) rfl)⟩
theorem flX12_35o : FLo RX12 35 12 8 := ⟨(RX12, TX12, 80), rfl, by decide, rfl, inT mt_8 45 (by decide +kernel) rfl⟩
theorem flX12_260 : FL RX12 260 12 9 := ⟨(RX12, TX12, 80), rfl, by decide, Or.inl (inT mt_8 46 (by decide +kernel) rfl)⟩
theorem flX12_38 : FL RX12 38 12 10 := ⟨(RX12, TX12, 80), rfl, by decide, Or.inl (inT mt_8 47 (by decide +kernel) rfl)⟩
theorem flX12_38o : FLo RX12 38 12 10 := ⟨(RX12, TX12, 80), rfl, by decide, rfl, inT mt_8 47 (by decide +kernel) rfl⟩
theorem flX12_41 : FL RX12 41 12 11 := ⟨(RX12, TX12, 80), rfl, by decide, Or.inl (inT mt_8 48 (by decide +kernel) rfl)⟩
theorem flX12_41o : FLo RX12 41 12 11 := ⟨(RX12, TX12, 80), rfl, by decide, rfl, inT mt_8 48 (by decide +kernel) rfl⟩
theorem flX12_44 : FL RX12 44 12 12 := ⟨(RX12, TX12, 80), rfl, by decide, Or.inl (inT mt_8 49 (by decide +kernel) rfl)⟩
theorem flX12_44o : FLo RX12 44 12 12 := ⟨(RX12, TX12, 80), rfl, by decide, rfl, inT mt_8 49 (by decide +kernel) rfl⟩
theorem flX12_47 : FL RX12 47 12 13 := ⟨(RX12, TX12, 80), rfl, by decide, Or.inl (inT mt_8 50 (by decide +kernel) rfl)⟩
theorem flX12_47o : FLo RX12 47 12 13 := ⟨(RX12, TX12, 80), rfl, by decide, rfl, inT mt_8 50 (by decide +kernel) rfl⟩
theorem flX12_50 : FL RX12 50 12 14 := ⟨(RX12, TX12, 80), rfl, by decide, Or.inl (inT mt_8 51 (by decide +kernel) rfl)⟩
theorem flX12_50o : FLo RX12 50 12 14 := ⟨(RX12, TX12, 80), rfl, by decide, rfl, inT mt_8 51 (by decide +kernel) rfl⟩
theorem flX12_53 : FL RX12 53 12 15 := ⟨(RX12, TX12, 80), rfl, by decide, Or.inl (inT mt_8 52 (by decide +kernel) rfl)⟩
theorem flX12_53o : FLo RX12 53 12 15 := ⟨(RX12, TX12, 80), rfl, by decide, rfl, inT mt_8 52 (by decide +kernel) rfl⟩
theorem flX12_56 : FL RX12 56 12 16 := ⟨(RX12, TX12, 80), rfl, by decide, Or.inl (inT mt_8 53 (by decide +kernel) rfl)⟩
theorem flX12_56o : FLo RX12 56 12 16 := ⟨(RX12, TX12, 80), rfl, by decide, rfl, inT mt_8 53 (by decide +kernel) rfl⟩
theorem flX12_59 : FL RX12 59 12 17 := ⟨(RX12, TX12, 80), rfl, by decide, Or.inl (inT mt_8 54 (by decide +kernel) rfl)⟩
theorem flX12_59o : FLo RX12 59 12 17 := ⟨(RX12, TX12, 80), rfl, by decide, rfl, inT mt_8 54 (by decide +kernel) rfl⟩
theorem flX12_62 : FL RX12 62 12 18 := ⟨(RX12, TX12, 80), rfl, by decide, Or.inl (inT mt_8 55 (by decide +kernel) rfl)⟩
theorem flX12_62o : FLo RX12 62 12 18 := ⟨(RX12, TX12, 80), rfl, by decide, rfl, inT mt_8 55 (by decide +kernel) rfl⟩
theorem flX12_66 : FL RX12 66 12 19 := ⟨(RX12, TX12, 80), rfl, by decide, Or.inl (inT mt_8 56 (by decide +kernel) rfl)⟩
theorem flX12_66o : FLo RX12 66 12 19 := ⟨(RX12, TX12, 80), rfl, by decide, rfl, inT mt_8 56 (by decide +kernel) rfl⟩
theorem flX12_69 : FL RX12 69 12 20 := ⟨(RX12, TX12, 80), rfl, by decide, Or.inl (inT mt_8 57 (by decide +kernel) rfl)⟩
theorem flX12_69o : FLo RX12 69 12 20 := ⟨(RX12, TX12, 80), rfl, by decide, rfl, inT mt_8 57 (by decide +kernel) rfl⟩
theorem flX12_72 : FL RX12 72 12 21 := ⟨(RX12, TX12, 80), rfl, by decide, Or.inl (inT mt_8 58 (by decide +kernel) rfl)⟩
theorem flX12_72o : FLo RX12 72 12 21 := ⟨(RX12, TX12, 80), rfl, by decide, rfl, inT mt_8 58 (by decide +kernel) rfl⟩
theorem flX12_153 : FL RX12 153 12 22 := ⟨(RX12, TX12, 80), rfl, by decide, Or.inl (inT mt_8 59 (by decide +kernel) rfl)⟩
theorem flX12_75 : FL RX12 75 12 23 := ⟨(RX12, TX12, 80), rfl, by decide, Or.inl (inT mt_8 60 (by decide +kernel) rfl)⟩
theorem flX12_75o : FLo RX12 75 12 23 := ⟨(RX12, TX12, 80), rfl, by decide, rfl, inT mt_8 60 (by decide +kernel) rfl⟩
theorem flX12_146 : FL RX12 146 12 24 := ⟨(RX12, TX12, 80), rfl, by decide, Or.inl (inT mt_8 61 (by decide +kernel) rfl)⟩
theorem flX12_78 : FL RX12 78 12 25 := ⟨(RX12, TX12, 80), rfl, by decide, Or.inl (inT mt_8 62 (by decide +kernel) rfl)⟩
theorem flX12_78o : FLo RX12 78 12 25 := ⟨(RX12, TX12, 80), rfl, by decide, rfl, inT mt_8 62 (by decide +kernel) rfl⟩
theorem flX12_272 : FL RX12 272 12 26 := ⟨(RX12, TX12, 80), rfl, by decide, Or.inl (inT mt_8 63 (by decide +kernel) rfl)⟩
theorem flX12_263 : FL RX12 263 12 27 := ⟨(RX12, TX12, 80), rfl, by decide, Or.inl (inT mt_8 64 (by decide +kernel) rfl)⟩
theorem flX12_266 : FL RX12 266 12 28 := ⟨(RX12, TX12, 80), rfl, by decide, Or.inl (inT mt_8 65 (by decide +kernel) rfl)⟩
theorem flX12_222 : FL RX12 222 12 29 := ⟨(RX12, TX12, 80), rfl, by decide, Or.inl (inT mt_8 66 (by decide +kernel) rfl)⟩
theorem flX12_279 : FL RX12 279 12 30 := ⟨(RX12, TX12, 80), rfl, by decide, Or.inl (inT mt_8 67 (by decide +kernel) rfl)⟩
theorem flX12_219 : FL RX12 219 12 31 := ⟨(RX12, TX12, 80), rfl, by decide, Or.inl (inT mt_8 68 (by decide +kernel) rfl)⟩
theorem flX12_275 : FL RX12 275 12 32 := ⟨(RX12, TX12, 80), rfl, by decide, Or.inl (inT mt_8 69 (by decide +kernel) rfl)⟩
theorem flX12_191 : FL RX12 191 12 33 := ⟨(RX12, TX12, 80), rfl, by decide, Or.inl (inT mt_8 70 (by decide +kernel) rfl)⟩
theorem flX12_82 : FL RX12 82 12 34 := ⟨(RX12, TX12, 80), rfl, by decide, Or.inl (inT mt_8 71 (by decide +kernel) rfl)⟩
theorem flX12_82o : FLo RX12 82 12 34 := ⟨(RX12, TX12, 80), rfl, by decide, rfl, inT mt_8 71 (by decide +kernel) rfl⟩
theorem flX12_182 : FL RX12 182 12 35 := ⟨(RX12, TX12, 80), rfl, by decide, Or.inl (inT mt_8 72 (by decide +kernel) rfl)⟩
theorem flX12_195 : FL RX12 195 12 36 := ⟨(RX12, TX12, 80), rfl, by decide, Or.inl (inT mt_8 73 (by decide +kernel) rfl)⟩
theorem flX12_86 : FL RX12 86 12 37 := ⟨(RX12, TX12, 80), rfl, by decide, Or.inl (inT mt_8 74 (by decide +kernel) rfl)⟩
theorem flX12_86o : FLo RX12 86 12 37 := ⟨(RX12, TX12, 80), rfl, by decide, rfl, inT mt_8 74 (by decide +kernel) rfl⟩
theorem flX12_89 : FL RX12 89 12 38 := ⟨(RX12, TX12, 80), rfl, by decide, Or.inl (inT mt_8 75 (by decide +kernel) rfl)⟩
theorem flX12_89o : FLo RX12 89 12 38 := ⟨(RX12, TX12, 80), rfl, by decide, rfl, inT mt_8 75 (by decide +kernel) rfl⟩
theorem flX12_92 : FL RX12 92 12 39 := ⟨(RX12, TX12, 80), rfl, by decide, Or.inl (inT mt_8 76 (by decide +kernel) rfl)⟩
theorem flX12_92o : FLo RX12 92 12 39 := ⟨(RX12, TX12, 80), rfl, by decide, rfl, inT mt_8 76 (by decide +kernel) rfl⟩
theorem flX12_198 : FL RX12 198 12 40 := ⟨(RX12, TX12, 80), rfl, by decide, Or.inl (inT mt_8 77 (by decide +kernel) rfl)⟩
theorem flX12_96 : FL RX12 96 12 41 := ⟨(RX12, TX12, 80), rfl, by decide, Or.inl (inT mt_8 78 (by decide +kernel) rfl)⟩
theorem flX12_96o : FLo RX12 96 12 41 := ⟨(RX12, TX12, 80), rfl, by decide, rfl, inT mt_8 78 (by decide +kernel) rfl⟩
theorem flX12_543 : FL RX12 543 12 42 := ⟨(RX12, TX12, 80), rfl, by decide, Or.inl (inT mt_8 79 (by decide +kernel) rfl)⟩
theorem flX12_586 : FL RX12 586 12 43 := ⟨(RX12, TX12, 80), rfl, by decide, Or.inl (inT mt_8 80 (by decide +kernel) rfl)⟩
theorem flX12_136 : FL RX12 136 12 44 := ⟨(RX12, TX12, 80), rfl, by decide, Or.inl (inT mt_8 81 (by decide +kernel) rfl)⟩
theorem flX12_140 : FL RX12 140 12 45 := ⟨(RX12, TX12, 80), rfl, by decide, Or.inl (inT mt_8 82 (by decide +kernel) rfl)⟩
theorem flX12_99 : FL RX12 99 12 46 := ⟨(RX12, TX12, 80), rfl, by decide, Or.inl (inT mt_8 83 (by decide +kernel) rfl)⟩
theorem flX12_99o : FLo RX12 99 12 46 := ⟨(RX12, TX12, 80), rfl, by decide, rfl, inT mt_8 83 (by decide +kernel) rfl⟩
theorem flX12_661 : FL RX12 661 12 47 := ⟨(RX12, TX12, 80), rfl, by decide, Or.inl (inT mt_8 84 (by decide +kernel) rfl)⟩
theorem flX12_102 : FL RX12 102 12 48 := ⟨(RX12, TX12, 80), rfl, by decide, Or.inl (inT mt_8 85 (by decide +kernel) rfl)⟩
theorem flX12_102o : FLo RX12 102 12 48 := ⟨(RX12, TX12, 80), rfl, by decide, rfl, inT mt_8 85 (by decide +kernel) rfl⟩
theorem flX12_185 : FL RX12 185 12 49 := ⟨(RX12, TX12, 80), rfl, by decide, Or.inl (inT mt_8 86 (by decide +kernel) rfl)⟩
theorem flX12_105 : FL RX12 105 12 50 := ⟨(RX12, TX12, 80), rfl, by decide, Or.inl (inT mt_8 87 (by decide +kernel) rfl)⟩
theorem flX12_105o : FLo RX12 105 12 50 := ⟨(RX12, TX12, 80), rfl, by decide, rfl, inT mt_8 87 (by decide +kernel) rfl⟩
theorem flX12_379 : FL RX12 379 12 51 := ⟨(RX12, TX12, 80), rfl, by decide, Or.inl (inT mt_8 88 (by decide +kernel) rfl)⟩
theorem flX12_370 : FL RX12 370 12 52 := ⟨(RX12, TX12, 80), rfl, by decide, Or.inl (inT mt_8 89 (by decide +kernel) rfl)⟩
theorem flX12_384 : FL RX12 384 12 53 := ⟨(RX12, TX12, 80), rfl, by decide, Or.inl (inT mt_8 90 (by decide +kernel) rfl)⟩
theorem flX12_376 : FL RX12 376 12 54 := ⟨(RX12, TX12, 80), rfl, by decide, Or.inl (inT mt_8 91 (by decide +kernel) rfl)⟩
theorem flX12_496 : FL RX12 496 12 55 := ⟨(RX12, TX12, 80), rfl, by decide, Or.inl (inT mt_8 92 (by decide +kernel) rfl)⟩
theorem flX12_108 : FL RX12 108 12 56 := ⟨(RX12, TX12, 80), rfl, by decide, Or.inl (inT mt_8 93 (by decide +kernel) rfl)⟩
theorem flX12_108o : FLo RX12 108 12 56 := ⟨(RX12, TX12, 80), rfl, by decide, rfl, inT mt_8 93 (by decide +kernel) rfl⟩
theorem flX12_111 : FL RX12 111 12 57 := ⟨(RX12, TX12, 80), rfl, by decide, Or.inl (inT mt_8 94 (by decide +kernel) rfl)⟩
theorem flX12_111o : FLo RX12 111 12 57 := ⟨(RX12, TX12, 80), rfl, by decide, rfl, inT mt_8 94 (by decide +kernel) rfl⟩
theorem flX12_114 : FL RX12 114 12 58 := ⟨(RX12, TX12, 80), rfl, by decide, Or.inl (inT mt_8 95 (by decide +kernel) rfl)⟩
theorem flX12_114o : FLo RX12 114 12 58 := ⟨(RX12, TX12, 80), rfl, by decide, rfl, inT mt_8 95 (by decide +kernel) rfl⟩
theorem flX12_117 : FL RX12 117 12 59 := ⟨(RX12, TX12, 80), rfl, by decide, Or.inl (inT mt_8 96 (by decide +kernel) rfl)⟩
theorem flX12_117o : FLo RX12 117 12 59 := ⟨(RX12, TX12, 80), rfl, by decide, rfl, inT mt_8 96 (by decide +kernel) rfl⟩
theorem flX12_528 : FL RX12 528 12 60 := ⟨(RX12, TX12, 80), rfl, by decide, Or.inl (inT mt_8 97 (by decide +kernel) rfl)⟩
theorem flX12_525 : FL RX12 525 12 61 := ⟨(RX12, TX12, 80), rfl, by decide, Or.inl (inT mt_8 98 (by decide +kernel) rfl)⟩
theorem flX12_522 : FL RX12 522 12 62 := ⟨(RX12, TX12, 80), rfl, by decide, Or.inl (inT mt_8 99 (by decide +kernel) rfl)⟩
theorem flX12_531 : FL RX12 531 12 63 := ⟨(RX12, TX12, 80), rfl, by decide, Or.inl (inT mt_8 100 (by decide +kernel) rfl)⟩
theorem flX12_537 : FL RX12 537 12 64 := ⟨(RX12, TX12, 80), rfl, by decide, Or.inl (inT mt_8 101 (by decide +kernel) rfl)⟩
theorem flX12_534 : FL RX12 534 12 65 := ⟨(RX12, TX12, 80), rfl, by decide, Or.inl (inT mt_8 102 (by decide +kernel) rfl)⟩
theorem flX12_567 : FL RX12 567 12 66 := ⟨(RX12, TX12, 80), rfl, by decide, Or.inl (inT mt_8 103 (by decide +kernel) rfl)⟩
theorem flX12_580 : FL RX12 580 12 67 := ⟨(RX12, TX12, 80), rfl, by decide, Or.inl (inT mt_8 104 (by decide +kernel) rfl)⟩
theorem flX12_589 : FL RX12 589 12 68 := ⟨(RX12, TX12, 80), rfl, by decide, Or.inl (inT mt_8 105 (by decide +kernel) rfl)⟩
theorem flX12_583 : FL RX12 583 12 69 := ⟨(RX12, TX12, 80), rfl, by decide, Or.inl (inT mt_8 106 (by decide +kernel) rfl)⟩
theorem flX12_120 : FL RX12 120 12 70 := ⟨(RX12, TX12, 80), rfl, by decide, Or.inl (inT mt_8 107 (by decide +kernel) rfl)⟩
theorem flX12_120o : FLo RX12 120 12 70 := ⟨(RX12, TX12, 80), rfl, by decide, rfl, inT mt_8 107 (by decide +kernel) rfl⟩
theorem flX12_598 : FL RX12 598 12 71 := ⟨(RX12, TX12, 80), rfl, by decide, Or.inl (inT mt_8 108 (by decide +kernel) rfl)⟩
theorem flX12_123 : FL RX12 123 12 72 := ⟨(RX12, TX12, 80), rfl, by decide, Or.inl (inT mt_8 109 (by decide +kernel) rfl)⟩
theorem flX12_123o : FLo RX12 123 12 72 := ⟨(RX12, TX12, 80), rfl, by decide, rfl, inT mt_8 109 (by decide +kernel) rfl⟩
theorem flX12_126 : FL RX12 126 12 73 := ⟨(RX12, TX12, 80), rfl, by decide, Or.inl (inT mt_8 110 (by decide +kernel) rfl)⟩
theorem flX12_126o : FLo RX12 126 12 73 := ⟨(RX12, TX12, 80), rfl, by decide, rfl, inT mt_8 110 (by decide +kernel) rfl⟩
theorem flX12_130 : FL RX12 130 12 74 := ⟨(RX12, TX12, 80), rfl, by decide, Or.inl (inT mt_8 111 (by decide +kernel) rfl)⟩
theorem flX12_130o : FLo RX12 130 12 74 := ⟨(RX12, TX12, 80), rfl, by decide, rfl, inT mt_8 111 (by decide +kernel) rfl⟩
theorem flX12_133 : FL RX12 133 12 75 := ⟨(RX12, TX12, 80), rfl, by decide, Or.inl (inT mt_8 112 (by decide +kernel) rfl)⟩
theorem flX12_133o : FLo RX12 133 12 75 := ⟨(RX12, TX12, 80), rfl, by decide, rfl, inT mt_8 112 (by decide +kernel) rfl⟩
theorem flX12_626 : FL RX12 626 12 76 := ⟨(RX12, TX12, 80), rfl, by decide, Or.inl (inT mt_8 113 (by decide +kernel) rfl)⟩
theorem flX12_629 : FL RX12 629 12 77 := ⟨(RX12, TX12, 80), rfl, by decide, Or.inl (inT mt_8 114 (by decide +kernel) rfl)⟩
theorem flX12_632 : FL RX12 632 12 78 := ⟨(RX12, TX12, 80), rfl, by decide, Or.inl (inT mt_8 115 (by decide +kernel) rfl)⟩
theorem flX12_635 : FL RX12 635 12 79 := ⟨(RX12, TX12, 80), rfl, by decide, Or.inl (inT mt_8 116 (by decide +kernel) rfl)⟩
theorem mlL_17 : ML RL 17 yX12_feed := Or.inl (inT mt_9 38 (by decide +kernel) rfl)
set_option maxRecDepth 100000 in
theorem mcX12_feed : MCv yX12_feed cX12_feed 6 (some .int) 5 := ⟨⟨inT mt_1 15 (by decide +kernel) rfl, inT mt_9 41 rfl rfl, ⟨by decide +kernel, by decide +kernel⟩, by decide +kernel⟩, inT mt_9 39 (by decide +kernel) rfl, inT mt_9 40 (by decide +kernel) rfl⟩
theorem mlX12_149 : ML RX12 149 yX12_lay := Or.inl (inT mt_9 42 (by decide +kernel) rfl)
set_option maxRecDepth 100000 in
theorem mcX12_lay : MCv yX12_lay cX12_lay 3 none 1 := ⟨⟨inT mt_1 15 (by decide +kernel) rfl, inT mt_9 45 rfl rfl, ⟨by decide +kernel, by decide +kernel⟩, by decide +kernel⟩, inT mt_9 44 (by decide +kernel) rfl, inT mt_0 98 (by decide +kernel) rfl⟩
theorem mlL_22 : ML RL 22 yX12_cut := Or.inl (inT mt_9 46 (by decide +kernel) rfl)
set_option maxRecDepth 100000 in
theorem mcX12_cut : MCv yX12_cut cX12_cut 3 (some .int) 1 := ⟨⟨inT mt_1 15 (by decide +kernel) rfl, inT mt_9 49 rfl rfl, ⟨by decide +kernel, by decide +kernel⟩, by decide +kernel⟩, inT mt_9 47 (by decide +kernel) rfl, inT mt_9 48 (by decide +kernel) rfl⟩
theorem mlL_26 : ML RL 26 yX12_part := Or.inl (inT mt_9 50 (by decide +kernel) rfl)
set_option maxRecDepth 100000 in
theorem mcX12_part : MCv yX12_part cX12_part 4 (some .int) 1 := ⟨⟨inT mt_1 15 (by decide +kernel) rfl, inT mt_9 53 rfl rfl, ⟨by decide +kernel, by decide +kernel⟩, by decide +kernel⟩, inT mt_9 51 (by decide +kernel) rfl, inT mt_9 52 (by decide +kernel) rfl⟩
theorem mlL_31 : ML RL 31 yX12_drop := Or.inl (inT mt_9 54 (by decide +kernel) rfl)
set_option maxRecDepth 100000 in
theorem mcX12_drop : MCv yX12_drop cX12_drop 2 (some .int) 0 := ⟨⟨inT mt_1 15 (by decide +kernel) rfl, inT mt_9 57 rfl rfl, ⟨by decide +kernel, by decide +kernel⟩, by decide +kernel⟩, inT mt_9 55 (by decide +kernel) rfl, inT mt_9 56 (by decide +kernel) rfl⟩
theorem mlL_35 : ML RL 35 yX12_print := Or.inl (inT mt_9 58 (by decide +kernel) rfl)
set_option maxRecDepth 100000 in
theorem mcX12_print : MCv yX12_print cX12_print 4 (some .int) 1 := ⟨⟨inT mt_1 15 (by decide +kernel) rfl, inT mt_9 61 rfl rfl, ⟨by decide +kernel, by decide +kernel⟩, by decide +kernel⟩, inT mt_9 59 (by decide +kernel) rfl, inT mt_9 60 (by decide +kernel) rfl⟩
theorem mlX12_241 : ML RX12 241 yX12_white := Or.inl (inT mt_9 62 (by decide +kernel) rfl)
set_option maxRecDepth 100000 in
theorem mcX12_white : MCv yX12_white cX12_white 2 none 0 := ⟨⟨inT mt_1 15 (by decide +kernel) rfl, inT mt_9 65 rfl rfl, ⟨by decide +kernel, by decide +kernel⟩, by decide +kernel⟩, inT mt_9 64 (by decide +kernel) rfl, inT mt_0 99 (by decide +kernel) rfl⟩
theorem mlX12_655 : ML RX12 655 yX12_stream := Or.inl (inT mt_9 66 (by decide +kernel) rfl)
set_option maxRecDepth 100000 in
theorem mcX12_stream : MCv yX12_stream cX12_stream 2 none 1 := ⟨⟨inT mt_1 15 (by decide +kernel) rfl, inT mt_9 69 rfl rfl, ⟨by decide +kernel, by decide +kernel⟩, by decide +kernel⟩, inT mt_9 68 (by decide +kernel) rfl, inT mt_0 100 (by decide +kernel) rfl⟩
theorem mlX12_228 : ML RX12 228 yX12_reset := Or.inl (inT mt_9 70 (by decide +kernel) rfl)
set_option maxRecDepth 100000 in
theorem mcX12_reset : MCv yX12_reset cX12_reset 4 none 2 := ⟨⟨inT mt_1 15 (by decide +kernel) rfl, inT mt_9 73 rfl rfl, ⟨by decide +kernel, by decide +kernel⟩, by decide +kernel⟩, inT mt_9 72 (by decide +kernel) rfl, inT mt_0 101 (by decide +kernel) rfl⟩
theorem mlX12_216 : ML RX12 216 yX12_pagesOwn := Or.inl (inT mt_9 74 (by decide +kernel) rfl)
set_option maxRecDepth 100000 in
theorem mcX12_pagesOwn : MCv yX12_pagesOwn cX12_pagesOwn 1 none 0 := ⟨⟨inT mt_1 15 (by decide +kernel) rfl, inT mt_9 77 rfl rfl, ⟨by decide +kernel, by decide +kernel⟩, by decide +kernel⟩, inT mt_9 76 (by decide +kernel) rfl, inT mt_0 102 (by decide +kernel) rfl⟩
theorem mlX12_172 : ML RX12 172 yX12_wide := Or.inl (inT mt_9 78 (by decide +kernel) rfl)
set_option maxRecDepth 100000 in
theorem mcX12_wide : MCv yX12_wide cX12_wide 1 (some .int) 0 := ⟨⟨inT mt_1 15 (by decide +kernel) rfl, inT mt_9 81 rfl rfl, ⟨by decide +kernel, by decide +kernel⟩, by decide +kernel⟩, inT mt_9 80 (by decide +kernel) rfl, inT mt_0 103 (by decide +kernel) rfl⟩
theorem mlX12_156 : ML RX12 156 yX12_pageWide := Or.inl (inT mt_9 82 (by decide +kernel) rfl)
set_option maxRecDepth 100000 in
theorem mcX12_pageWide : MCs yX12_pageWide cX12_pageWide 1 (some .int) 1 := ⟨⟨inT mt_1 15 (by decide +kernel) rfl, inT mt_9 84 rfl rfl, ⟨by decide +kernel, by decide +kernel⟩, by decide +kernel⟩, inT mt_9 83 (by decide +kernel) rfl⟩
theorem mlX12_160 : ML RX12 160 yX12_pageHigh := Or.inl (inT mt_9 85 (by decide +kernel) rfl)
set_option maxRecDepth 100000 in
theorem mcX12_pageHigh : MCs yX12_pageHigh cX12_pageHigh 1 (some .int) 1 := ⟨⟨inT mt_1 15 (by decide +kernel) rfl, inT mt_9 87 rfl rfl, ⟨by decide +kernel, by decide +kernel⟩, by decide +kernel⟩, inT mt_9 86 (by decide +kernel) rfl⟩
theorem mlX12_176 : ML RX12 176 yX12_high := Or.inl (inT mt_9 88 (by decide +kernel) rfl)
set_option maxRecDepth 100000 in
theorem mcX12_high : MCv yX12_high cX12_high 1 (some .int) 0 := ⟨⟨inT mt_1 15 (by decide +kernel) rfl, inT mt_9 91 rfl rfl, ⟨by decide +kernel, by decide +kernel⟩, by decide +kernel⟩, inT mt_9 90 (by decide +kernel) rfl, inT mt_0 104 (by decide +kernel) rfl⟩
theorem mlX12_210 : ML RX12 210 yX12_setX := Or.inl (inT mt_9 92 (by decide +kernel) rfl)
set_option maxRecDepth 100000 in
theorem mcX12_setX : MCv yX12_setX cX12_setX 5 none 1 := ⟨⟨inT mt_1 15 (by decide +kernel) rfl, inT mt_9 95 rfl rfl, ⟨by decide +kernel, by decide +kernel⟩, by decide +kernel⟩, inT mt_9 94 (by decide +kernel) rfl, inT mt_0 105 (by decide +kernel) rfl⟩
theorem kcX12_204 : Cond.constantLong RX12 204 (96) ∈ TBL := inT mt_9 96 (by decide +kernel) rfl
theorem mlX12_213 : ML RX12 213 yX12_homeY := Or.inl (inT mt_9 97 (by decide +kernel) rfl)
set_option maxRecDepth 100000 in
theorem mcX12_homeY : MCv yX12_homeY cX12_homeY 1 none 0 := ⟨⟨inT mt_1 15 (by decide +kernel) rfl, inT mt_9 100 rfl rfl, ⟨by decide +kernel, by decide +kernel⟩, by decide +kernel⟩, inT mt_9 99 (by decide +kernel) rfl, inT mt_0 106 (by decide +kernel) rfl⟩
theorem mlX12_206 : ML RX12 206 yX12_setY := Or.inl (inT mt_9 101 (by decide +kernel) rfl)
set_option maxRecDepth 100000 in
theorem mcX12_setY : MCv yX12_setY cX12_setY 5 none 1 := ⟨⟨inT mt_1 15 (by decide +kernel) rfl, inT mt_9 104 rfl rfl, ⟨by decide +kernel, by decide +kernel⟩, by decide +kernel⟩, inT mt_9 103 (by decide +kernel) rfl, inT mt_0 107 (by decide +kernel) rfl⟩
theorem mlX12_282 : ML RX12 282 yX12_run := Or.inl (inT mt_9 105 (by decide +kernel) rfl)
set_option maxRecDepth 100000 in
theorem mcX12_run : MCv yX12_run cX12_run 2 none 0 := ⟨⟨inT mt_1 15 (by decide +kernel) rfl, inT mt_9 108 rfl rfl, ⟨by decide +kernel, by decide +kernel⟩, by decide +kernel⟩, inT mt_9 107 (by decide +kernel) rfl, inT mt_0 108 (by decide +kernel) rfl⟩
theorem mlX12_285 : ML RX12 285 yX12_hasMore := Or.inl (inT mt_9 109 (by decide +kernel) rfl)
set_option maxRecDepth 100000 in
theorem mcX12_hasMore : MCv yX12_hasMore cX12_hasMore 1 (some .boolean) 0 := ⟨⟨inT mt_1 15 (by decide +kernel) rfl, inT mt_9 112 rfl rfl, ⟨by decide +kernel, by decide +kernel⟩, by decide +kernel⟩, inT mt_9 111 (by decide +kernel) rfl, inT mt_0 109 (by decide +kernel) rfl⟩
theorem mlX12_289 : ML RX12 289 yX12_next := Or.inl (inT mt_9 113 (by decide +kernel) rfl)
set_option maxRecDepth 100000 in
theorem mcX12_next : MCv yX12_next cX12_next 2 (some .int) 0 := ⟨⟨inT mt_1 15 (by decide +kernel) rfl, inT mt_9 116 rfl rfl, ⟨by decide +kernel, by decide +kernel⟩, by decide +kernel⟩, inT mt_9 115 (by decide +kernel) rfl, inT mt_0 110 (by decide +kernel) rfl⟩
theorem mlX12_269 : ML RX12 269 yX12_count := Or.inl (inT mt_9 117 (by decide +kernel) rfl)
set_option maxRecDepth 100000 in
theorem mcX12_count : MCv yX12_count cX12_count 2 none 1 := ⟨⟨inT mt_1 15 (by decide +kernel) rfl, inT mt_9 120 rfl rfl, ⟨by decide +kernel, by decide +kernel⟩, by decide +kernel⟩, inT mt_9 119 (by decide +kernel) rfl, inT mt_0 111 (by decide +kernel) rfl⟩
theorem kcX12_278 : Cond.constant RX12 278 (60000) ∈ TBL := inT mt_9 121 (by decide +kernel) rfl
theorem mlX12_292 : ML RX12 292 yX12_escape := Or.inl (inT mt_9 122 (by decide +kernel) rfl)
set_option maxRecDepth 100000 in
theorem mcX12_escape : MCv yX12_escape cX12_escape 7 none 0 := ⟨⟨inT mt_1 15 (by decide +kernel) rfl, inT mt_9 125 rfl rfl, ⟨by decide +kernel, by decide +kernel⟩, by decide +kernel⟩, inT mt_9 124 (by decide +kernel) rfl, inT mt_0 112 (by decide +kernel) rfl⟩
theorem mlX12_358 : ML RX12 358 yX12_peek := Or.inl (inT mt_9 126 (by decide +kernel) rfl)
set_option maxRecDepth 100000 in
theorem mcX12_peek : MCv yX12_peek cX12_peek 1 (some .int) 0 := ⟨⟨inT mt_1 15 (by decide +kernel) rfl, inT mt_9 129 rfl rfl, ⟨by decide +kernel, by decide +kernel⟩, by decide +kernel⟩, inT mt_9 128 (by decide +kernel) rfl, inT mt_0 113 (by decide +kernel) rfl⟩
theorem mlX12_361 : ML RX12 361 yX12_pair := Or.inl (inT mt_9 130 (by decide +kernel) rfl)
set_option maxRecDepth 100000 in
theorem mcX12_pair : MCv yX12_pair cX12_pair 2 none 1 := ⟨⟨inT mt_1 15 (by decide +kernel) rfl, inT mt_9 133 rfl rfl, ⟨by decide +kernel, by decide +kernel⟩, by decide +kernel⟩, inT mt_9 132 (by decide +kernel) rfl, inT mt_0 114 (by decide +kernel) rfl⟩
theorem mlX12_307 : ML RX12 307 yX12_eject := Or.inl (inT mt_9 134 (by decide +kernel) rfl)
set_option maxRecDepth 100000 in
theorem mcX12_eject : MCv yX12_eject cX12_eject 4 none 0 := ⟨⟨inT mt_1 15 (by decide +kernel) rfl, inT mt_9 137 rfl rfl, ⟨by decide +kernel, by decide +kernel⟩, by decide +kernel⟩, inT mt_9 136 (by decide +kernel) rfl, inT mt_0 115 (by decide +kernel) rfl⟩
theorem mlX12_225 : ML RX12 225 yX12_save := Or.inl (inT mt_9 138 (by decide +kernel) rfl)
set_option maxRecDepth 100000 in
theorem mcX12_save : MCv yX12_save cX12_save 3 none 1 := ⟨⟨inT mt_1 15 (by decide +kernel) rfl, inT mt_9 141 rfl rfl, ⟨by decide +kernel, by decide +kernel⟩, by decide +kernel⟩, inT mt_9 140 (by decide +kernel) rfl, inT mt_0 116 (by decide +kernel) rfl⟩
theorem mlX12_232 : ML RX12 232 yX12_through := Or.inl (inT mt_9 142 (by decide +kernel) rfl)
set_option maxRecDepth 100000 in
theorem mcX12_through : MCv yX12_through cX12_through 8 none 1 := ⟨⟨inT mt_1 15 (by decide +kernel) rfl, inT mt_9 145 rfl rfl, ⟨by decide +kernel, by decide +kernel⟩, by decide +kernel⟩, inT mt_9 144 (by decide +kernel) rfl, inT mt_0 117 (by decide +kernel) rfl⟩
theorem mlX12_235 : ML RX12 235 yX12_back := Or.inl (inT mt_9 146 (by decide +kernel) rfl)
set_option maxRecDepth 100000 in
theorem mcX12_back : MCv yX12_back cX12_back 3 none 1 := ⟨⟨inT mt_1 15 (by decide +kernel) rfl, inT mt_9 149 rfl rfl, ⟨by decide +kernel, by decide +kernel⟩, by decide +kernel⟩, inT mt_9 148 (by decide +kernel) rfl, inT mt_0 118 (by decide +kernel) rfl⟩
theorem mlX12_238 : ML RX12 238 yX12_comes := Or.inl (inT mt_9 150 (by decide +kernel) rfl)
set_option maxRecDepth 100000 in
theorem mcX12_comes : MCv yX12_comes cX12_comes 4 none 2 := ⟨⟨inT mt_1 15 (by decide +kernel) rfl, inT mt_9 153 rfl rfl, ⟨by decide +kernel, by decide +kernel⟩, by decide +kernel⟩, inT mt_9 152 (by decide +kernel) rfl, inT mt_0 119 (by decide +kernel) rfl⟩
theorem mlX12_201 : ML RX12 201 yX12_written := Or.inl (inT mt_9 154 (by decide +kernel) rfl)
set_option maxRecDepth 100000 in
theorem mcX12_written : MCv yX12_written cX12_written 6 none 1 := ⟨⟨inT mt_1 15 (by decide +kernel) rfl, inT mt_9 157 rfl rfl, ⟨by decide +kernel, by decide +kernel⟩, by decide +kernel⟩, inT mt_9 156 (by decide +kernel) rfl, inT mt_0 120 (by decide +kernel) rfl⟩
theorem mlX12_540 : ML RX12 540 yX12_outByte := Or.inl (inT mt_9 158 (by decide +kernel) rfl)
set_option maxRecDepth 100000 in
theorem mcX12_outByte : MCv yX12_outByte cX12_outByte 2 none 1 := ⟨⟨inT mt_1 15 (by decide +kernel) rfl, inT mt_9 161 rfl rfl, ⟨by decide +kernel, by decide +kernel⟩, by decide +kernel⟩, inT mt_9 160 (by decide +kernel) rfl, inT mt_0 121 (by decide +kernel) rfl⟩
theorem kcX12_561 : Cond.constantLong RX12 561 (42) ∈ TBL := inT mt_9 162 (by decide +kernel) rfl
theorem mlX12_563 : ML RX12 563 yX12_outNumber := Or.inl (inT mt_9 163 (by decide +kernel) rfl)
set_option maxRecDepth 100000 in
theorem mcX12_outNumber : MCv yX12_outNumber cX12_outNumber 5 none 2 := ⟨⟨inT mt_1 15 (by decide +kernel) rfl, inT mt_9 166 rfl rfl, ⟨by decide +kernel, by decide +kernel⟩, by decide +kernel⟩, inT mt_9 165 (by decide +kernel) rfl, inT mt_0 122 (by decide +kernel) rfl⟩
theorem mlX12_570 : ML RX12 570 yX12_writeRow := Or.inl (inT mt_9 167 (by decide +kernel) rfl)
set_option maxRecDepth 100000 in
theorem mcX12_writeRow : MCv yX12_writeRow cX12_writeRow 5 none 0 := ⟨⟨inT mt_1 15 (by decide +kernel) rfl, inT mt_9 170 rfl rfl, ⟨by decide +kernel, by decide +kernel⟩, by decide +kernel⟩, inT mt_9 169 (by decide +kernel) rfl, inT mt_0 123 (by decide +kernel) rfl⟩
theorem mlX12_549 : ML RX12 549 yX12_change := Or.inl (inT mt_9 171 (by decide +kernel) rfl)
set_option maxRecDepth 100000 in
theorem mcX12_change : MCv yX12_change cX12_change 4 (some .int) 2 := ⟨⟨inT mt_1 15 (by decide +kernel) rfl, inT mt_9 174 rfl rfl, ⟨by decide +kernel, by decide +kernel⟩, by decide +kernel⟩, inT mt_9 173 (by decide +kernel) rfl, inT mt_0 124 (by decide +kernel) rfl⟩
theorem mlX12_552 : ML RX12 552 yX12_b1 := Or.inl (inT mt_9 175 (by decide +kernel) rfl)
set_option maxRecDepth 100000 in
theorem mcX12_b1 : MCv yX12_b1 cX12_b1 3 (some .int) 0 := ⟨⟨inT mt_1 15 (by decide +kernel) rfl, inT mt_9 178 rfl rfl, ⟨by decide +kernel, by decide +kernel⟩, by decide +kernel⟩, inT mt_9 177 (by decide +kernel) rfl, inT mt_0 125 (by decide +kernel) rfl⟩
theorem mlX12_555 : ML RX12 555 yX12_b2 := Or.inl (inT mt_9 179 (by decide +kernel) rfl)
set_option maxRecDepth 100000 in
theorem mcX12_b2 : MCv yX12_b2 cX12_b2 3 (some .int) 1 := ⟨⟨inT mt_1 15 (by decide +kernel) rfl, inT mt_9 182 rfl rfl, ⟨by decide +kernel, by decide +kernel⟩, by decide +kernel⟩, inT mt_9 181 (by decide +kernel) rfl, inT mt_0 126 (by decide +kernel) rfl⟩
theorem mlX12_546 : ML RX12 546 yX12_bits := Or.inl (inT mt_9 183 (by decide +kernel) rfl)
set_option maxRecDepth 100000 in
theorem mcX12_bits : MCv yX12_bits cX12_bits 4 none 2 := ⟨⟨inT mt_1 15 (by decide +kernel) rfl, inT mt_9 186 rfl rfl, ⟨by decide +kernel, by decide +kernel⟩, by decide +kernel⟩, inT mt_9 185 (by decide +kernel) rfl, inT mt_0 127 (by decide +kernel) rfl⟩
theorem mlX12_558 : ML RX12 558 yX12_writeRun := Or.inl (inT mt_9 187 (by decide +kernel) rfl)
set_option maxRecDepth 100000 in
theorem mcX12_writeRun : MCv yX12_writeRun cX12_writeRun 3 none 2 := ⟨⟨inT mt_1 15 (by decide +kernel) rfl, inT mt_9 190 rfl rfl, ⟨by decide +kernel, by decide +kernel⟩, by decide +kernel⟩, inT mt_9 189 (by decide +kernel) rfl, inT mt_0 128 (by decide +kernel) rfl⟩
theorem kcX12_573 : Cond.constantLong RX12 573 (13) ∈ TBL := inT mt_9 191 (by decide +kernel) rfl
theorem mlX12_575 : ML RX12 575 yX12_entry := Or.inl (inT mt_9 192 (by decide +kernel) rfl)
set_option maxRecDepth 100000 in
theorem mcX12_entry : MCv yX12_entry cX12_entry 4 none 3 := ⟨⟨inT mt_1 15 (by decide +kernel) rfl, inT mt_9 195 rfl rfl, ⟨by decide +kernel, by decide +kernel⟩, by decide +kernel⟩, inT mt_9 194 (by decide +kernel) rfl, inT mt_0 129 (by decide +kernel) rfl⟩
theorem kcX12_578 : Cond.constantLong RX12 578 (75) ∈ TBL := inT mt_9 196 (by decide +kernel) rfl
theorem mlX12_387 : ML RX12 387 yX12_temporaryGo := Or.inl (inT mt_9 197 (by decide +kernel) rfl)
set_option maxRecDepth 100000 in
theorem mcX12_temporaryGo : MCv yX12_temporaryGo cX12_temporaryGo 1 none 0 := ⟨⟨inT mt_1 15 (by decide +kernel) rfl, inT mt_9 200 rfl rfl, ⟨by decide +kernel, by decide +kernel⟩, by decide +kernel⟩, inT mt_9 199 (by decide +kernel) rfl, inT mt_0 130 (by decide +kernel) rfl⟩
theorem mlX12_244 : ML RX12 244 yX12_fontsGo := Or.inl (inT mt_9 201 (by decide +kernel) rfl)
set_option maxRecDepth 100000 in
theorem mcX12_fontsGo : MCv yX12_fontsGo cX12_fontsGo 3 none 1 := ⟨⟨inT mt_1 15 (by decide +kernel) rfl, inT mt_9 204 rfl rfl, ⟨by decide +kernel, by decide +kernel⟩, by decide +kernel⟩, inT mt_9 203 (by decide +kernel) rfl, inT mt_0 131 (by decide +kernel) rfl⟩
theorem mlX12_254 : ML RX12 254 yX12_fontGoes := Or.inl (inT mt_9 205 (by decide +kernel) rfl)
set_option maxRecDepth 100000 in
theorem mcX12_fontGoes : MCv yX12_fontGoes cX12_fontGoes 3 none 1 := ⟨⟨inT mt_1 15 (by decide +kernel) rfl, inT mt_9 208 rfl rfl, ⟨by decide +kernel, by decide +kernel⟩, by decide +kernel⟩, inT mt_9 207 (by decide +kernel) rfl, inT mt_0 132 (by decide +kernel) rfl⟩
theorem mlX12_257 : ML RX12 257 yX12_glyphGoes := Or.inl (inT mt_9 209 (by decide +kernel) rfl)
set_option maxRecDepth 100000 in
theorem mcX12_glyphGoes : MCv yX12_glyphGoes cX12_glyphGoes 4 none 2 := ⟨⟨inT mt_1 15 (by decide +kernel) rfl, inT mt_9 212 rfl rfl, ⟨by decide +kernel, by decide +kernel⟩, by decide +kernel⟩, inT mt_9 211 (by decide +kernel) rfl, inT mt_0 133 (by decide +kernel) rfl⟩
theorem mlX12_248 : ML RX12 248 yX12_usersGo := Or.inl (inT mt_9 213 (by decide +kernel) rfl)
set_option maxRecDepth 100000 in
theorem mcX12_usersGo : MCv yX12_usersGo cX12_usersGo 3 none 1 := ⟨⟨inT mt_1 15 (by decide +kernel) rfl, inT mt_9 216 rfl rfl, ⟨by decide +kernel, by decide +kernel⟩, by decide +kernel⟩, inT mt_9 215 (by decide +kernel) rfl, inT mt_0 134 (by decide +kernel) rfl⟩
theorem mlX12_251 : ML RX12 251 yX12_macrosGo := Or.inl (inT mt_9 217 (by decide +kernel) rfl)
set_option maxRecDepth 100000 in
theorem mcX12_macrosGo : MCv yX12_macrosGo cX12_macrosGo 3 none 1 := ⟨⟨inT mt_1 15 (by decide +kernel) rfl, inT mt_9 220 rfl rfl, ⟨by decide +kernel, by decide +kernel⟩, by decide +kernel⟩, inT mt_9 219 (by decide +kernel) rfl, inT mt_0 135 (by decide +kernel) rfl⟩
theorem mlX12_304 : ML RX12 304 yX12_line := Or.inl (inT mt_9 221 (by decide +kernel) rfl)
set_option maxRecDepth 100000 in
theorem mcX12_line : MCv yX12_line cX12_line 4 none 1 := ⟨⟨inT mt_1 15 (by decide +kernel) rfl, inT mt_9 224 rfl rfl, ⟨by decide +kernel, by decide +kernel⟩, by decide +kernel⟩, inT mt_9 223 (by decide +kernel) rfl, inT mt_0 136 (by decide +kernel) rfl⟩
theorem mlX12_390 : ML RX12 390 yX12_transparent := Or.inl (inT mt_9 225 (by decide +kernel) rfl)
set_option maxRecDepth 100000 in
theorem mcX12_transparent : MCv yX12_transparent cX12_transparent 3 none 0 := ⟨⟨inT mt_1 15 (by decide +kernel) rfl, inT mt_9 228 rfl rfl, ⟨by decide +kernel, by decide +kernel⟩, by decide +kernel⟩, inT mt_9 227 (by decide +kernel) rfl, inT mt_0 137 (by decide +kernel) rfl⟩
theorem mlX12_393 : ML RX12 393 yX12_shown := Or.inl (inT mt_9 229 (by decide +kernel) rfl)
set_option maxRecDepth 100000 in
theorem mcX12_shown : MCv yX12_shown cX12_shown 2 none 1 := ⟨⟨inT mt_1 15 (by decide +kernel) rfl, inT mt_9 232 rfl rfl, ⟨by decide +kernel, by decide +kernel⟩, by decide +kernel⟩, inT mt_9 231 (by decide +kernel) rfl, inT mt_0 138 (by decide +kernel) rfl⟩
theorem mlX12_298 : ML RX12 298 yX12_show := Or.inl (inT mt_9 233 (by decide +kernel) rfl)
set_option maxRecDepth 100000 in
theorem mcX12_show : MCv yX12_show cX12_show 11 none 1 := ⟨⟨inT mt_1 15 (by decide +kernel) rfl, inT mt_9 236 rfl rfl, ⟨by decide +kernel, by decide +kernel⟩, by decide +kernel⟩, inT mt_9 235 (by decide +kernel) rfl, inT mt_0 139 (by decide +kernel) rfl⟩
theorem mlX12_310 : ML RX12 310 yX12_fontInUse := Or.inl (inT mt_9 237 (by decide +kernel) rfl)
set_option maxRecDepth 100000 in
theorem mcX12_fontInUse : MCv yX12_fontInUse cX12_fontInUse 3 (some .int) 0 := ⟨⟨inT mt_1 15 (by decide +kernel) rfl, inT mt_10 0 rfl rfl, ⟨by decide +kernel, by decide +kernel⟩, by decide +kernel⟩, inT mt_9 239 (by decide +kernel) rfl, inT mt_0 140 (by decide +kernel) rfl⟩
theorem mlX12_333 : ML RX12 333 yX12_wish := Or.inl (inT mt_10 1 (by decide +kernel) rfl)
set_option maxRecDepth 100000 in
theorem mcX12_wish : MCv yX12_wish cX12_wish 2 (some .int) 1 := ⟨⟨inT mt_1 15 (by decide +kernel) rfl, inT mt_10 4 rfl rfl, ⟨by decide +kernel, by decide +kernel⟩, by decide +kernel⟩, inT mt_10 3 (by decide +kernel) rfl, inT mt_0 141 (by decide +kernel) rfl⟩
theorem mlX12_336 : ML RX12 336 yX12_keep := Or.inl (inT mt_10 5 (by decide +kernel) rfl)
set_option maxRecDepth 100000 in
theorem mcX12_keep : MCv yX12_keep cX12_keep 5 none 2 := ⟨⟨inT mt_1 15 (by decide +kernel) rfl, inT mt_10 8 rfl rfl, ⟨by decide +kernel, by decide +kernel⟩, by decide +kernel⟩, inT mt_10 7 (by decide +kernel) rfl, inT mt_0 142 (by decide +kernel) rfl⟩
theorem mlX12_339 : ML RX12 339 yX12_nearest := Or.inl (inT mt_10 9 (by decide +kernel) rfl)
set_option maxRecDepth 100000 in
theorem mcX12_nearest : MCv yX12_nearest cX12_nearest 6 none 2 := ⟨⟨inT mt_1 15 (by decide +kernel) rfl, inT mt_10 12 rfl rfl, ⟨by decide +kernel, by decide +kernel⟩, by decide +kernel⟩, inT mt_10 11 (by decide +kernel) rfl, inT mt_0 143 (by decide +kernel) rfl⟩
theorem kcX12_344 : Cond.constantLong RX12 344 (9223372036854775807) ∈ TBL := inT mt_10 13 (by decide +kernel) rfl
theorem mlX12_346 : ML RX12 346 yX12_far := Or.inl (inT mt_10 14 (by decide +kernel) rfl)
set_option maxRecDepth 100000 in
theorem mcX12_far : MCs yX12_far cX12_far 4 (some .long) 2 := ⟨⟨inT mt_1 15 (by decide +kernel) rfl, inT mt_10 16 rfl rfl, ⟨by decide +kernel, by decide +kernel⟩, by decide +kernel⟩, inT mt_10 15 (by decide +kernel) rfl⟩
theorem kcX12_354 : Cond.constantLong RX12 354 (-2) ∈ TBL := inT mt_10 17 (by decide +kernel) rfl
theorem kcX12_356 : Cond.constantLong RX12 356 (2) ∈ TBL := inT mt_10 18 (by decide +kernel) rfl
theorem mlX12_350 : ML RX12 350 yX12_smaller := Or.inl (inT mt_10 19 (by decide +kernel) rfl)
set_option maxRecDepth 100000 in
theorem mcX12_smaller : MCs yX12_smaller cX12_smaller 4 (some .long) 2 := ⟨⟨inT mt_1 15 (by decide +kernel) rfl, inT mt_10 21 rfl rfl, ⟨by decide +kernel, by decide +kernel⟩, by decide +kernel⟩, inT mt_10 20 (by decide +kernel) rfl⟩
theorem kcX12_315 : Cond.constantLong RX12 315 (6) ∈ TBL := inT mt_10 22 (by decide +kernel) rfl
theorem kcX12_313 : Cond.constantLong RX12 313 (8) ∈ TBL := inT mt_10 23 (by decide +kernel) rfl
theorem mlX12_317 : ML RX12 317 yX12_mark := Or.inl (inT mt_10 24 (by decide +kernel) rfl)
set_option maxRecDepth 100000 in
theorem mcX12_mark : MCv yX12_mark cX12_mark 19 (some .boolean) 4 := ⟨⟨inT mt_1 15 (by decide +kernel) rfl, inT mt_10 27 rfl rfl, ⟨by decide +kernel, by decide +kernel⟩, by decide +kernel⟩, inT mt_10 26 (by decide +kernel) rfl, inT mt_0 144 (by decide +kernel) rfl⟩
theorem kcX12_189 : Cond.constantLong RX12 189 (5000000) ∈ TBL := inT mt_10 28 (by decide +kernel) rfl
theorem mlX12_321 : ML RX12 321 yX12_useAtHand := Or.inl (inT mt_10 29 (by decide +kernel) rfl)
set_option maxRecDepth 100000 in
theorem mcX12_useAtHand : MCv yX12_useAtHand cX12_useAtHand 2 none 0 := ⟨⟨inT mt_1 15 (by decide +kernel) rfl, inT mt_10 32 rfl rfl, ⟨by decide +kernel, by decide +kernel⟩, by decide +kernel⟩, inT mt_10 31 (by decide +kernel) rfl, inT mt_0 145 (by decide +kernel) rfl⟩
theorem mlX12_324 : ML RX12 324 yX12_residentGlyph := Or.inl (inT mt_10 33 (by decide +kernel) rfl)
set_option maxRecDepth 100000 in
theorem mcX12_residentGlyph : MCv yX12_residentGlyph cX12_residentGlyph 7 none 3 := ⟨⟨inT mt_1 15 (by decide +kernel) rfl, inT mt_10 36 rfl rfl, ⟨by decide +kernel, by decide +kernel⟩, by decide +kernel⟩, inT mt_10 35 (by decide +kernel) rfl, inT mt_0 146 (by decide +kernel) rfl⟩
theorem mlX12_331 : ML RX12 331 yX12_lay_ := Or.inl (inT mt_10 37 (by decide +kernel) rfl)
set_option maxRecDepth 100000 in
theorem mcX12_lay_ : MCv yX12_lay_ cX12_lay_ 10 none 3 := ⟨⟨inT mt_1 15 (by decide +kernel) rfl, inT mt_10 40 rfl rfl, ⟨by decide +kernel, by decide +kernel⟩, by decide +kernel⟩, inT mt_10 39 (by decide +kernel) rfl, inT mt_0 147 (by decide +kernel) rfl⟩
theorem mlX12_179 : ML RX12 179 yX12_patternAt := Or.inl (inT mt_10 41 (by decide +kernel) rfl)
set_option maxRecDepth 100000 in
theorem mcX12_patternAt : MCv yX12_patternAt cX12_patternAt 11 (some .int) 2 := ⟨⟨inT mt_1 15 (by decide +kernel) rfl, inT mt_10 44 rfl rfl, ⟨by decide +kernel, by decide +kernel⟩, by decide +kernel⟩, inT mt_10 43 (by decide +kernel) rfl, inT mt_0 148 (by decide +kernel) rfl⟩
theorem mlX12_165 : ML RX12 165 yX12_modulo := Or.inl (inT mt_10 45 (by decide +kernel) rfl)
set_option maxRecDepth 100000 in
theorem mcX12_modulo : MCs yX12_modulo cX12_modulo 3 (some .int) 2 := ⟨⟨inT mt_1 15 (by decide +kernel) rfl, inT mt_10 47 rfl rfl, ⟨by decide +kernel, by decide +kernel⟩, by decide +kernel⟩, inT mt_10 46 (by decide +kernel) rfl⟩
theorem mlX12_169 : ML RX12 169 yX12_shadeOf := Or.inl (inT mt_10 48 (by decide +kernel) rfl)
set_option maxRecDepth 100000 in
theorem mcX12_shadeOf : MCs yX12_shadeOf cX12_shadeOf 5 (some .int) 2 := ⟨⟨inT mt_1 15 (by decide +kernel) rfl, inT mt_10 50 rfl rfl, ⟨by decide +kernel, by decide +kernel⟩, by decide +kernel⟩, inT mt_10 49 (by decide +kernel) rfl⟩
theorem kcX12_163 : Cond.constantLong RX12 163 (588499194438350805) ∈ TBL := inT mt_10 51 (by decide +kernel) rfl
theorem mlX12_328 : ML RX12 328 yX12_glyph := Or.inl (inT mt_10 52 (by decide +kernel) rfl)
set_option maxRecDepth 100000 in
theorem mcX12_glyph : MCv yX12_glyph cX12_glyph 8 none 3 := ⟨⟨inT mt_1 15 (by decide +kernel) rfl, inT mt_10 55 rfl rfl, ⟨by decide +kernel, by decide +kernel⟩, by decide +kernel⟩, inT mt_10 54 (by decide +kernel) rfl, inT mt_0 149 (by decide +kernel) rfl⟩
theorem mlX12_364 : ML RX12 364 yX12_readValue := Or.inl (inT mt_10 56 (by decide +kernel) rfl)
set_option maxRecDepth 100000 in
theorem mcX12_readValue : MCv yX12_readValue cX12_readValue 7 none 0 := ⟨⟨inT mt_1 15 (by decide +kernel) rfl, inT mt_10 59 rfl rfl, ⟨by decide +kernel, by decide +kernel⟩, by decide +kernel⟩, inT mt_10 58 (by decide +kernel) rfl, inT mt_0 150 (by decide +kernel) rfl⟩
theorem kcX12_382 : Cond.constantLong RX12 382 (10000) ∈ TBL := inT mt_10 60 (by decide +kernel) rfl
theorem mlX12_367 : ML RX12 367 yX12_withData := Or.inl (inT mt_10 61 (by decide +kernel) rfl)
set_option maxRecDepth 100000 in
theorem mcX12_withData : MCv yX12_withData cX12_withData 7 none 3 := ⟨⟨inT mt_1 15 (by decide +kernel) rfl, inT mt_10 64 rfl rfl, ⟨by decide +kernel, by decide +kernel⟩, by decide +kernel⟩, inT mt_10 63 (by decide +kernel) rfl, inT mt_0 151 (by decide +kernel) rfl⟩
theorem mlX12_472 : ML RX12 472 yX12_fontData := Or.inl (inT mt_10 65 (by decide +kernel) rfl)
set_option maxRecDepth 100000 in
theorem mcX12_fontData : MCv yX12_fontData cX12_fontData 4 none 1 := ⟨⟨inT mt_1 15 (by decide +kernel) rfl, inT mt_10 68 rfl rfl, ⟨by decide +kernel, by decide +kernel⟩, by decide +kernel⟩, inT mt_10 67 (by decide +kernel) rfl, inT mt_0 152 (by decide +kernel) rfl⟩
theorem mlX12_484 : ML RX12 484 yX12_dataAt := Or.inl (inT mt_10 69 (by decide +kernel) rfl)
set_option maxRecDepth 100000 in
theorem mcX12_dataAt : MCv yX12_dataAt cX12_dataAt 2 (some .int) 1 := ⟨⟨inT mt_1 15 (by decide +kernel) rfl, inT mt_10 72 rfl rfl, ⟨by decide +kernel, by decide +kernel⟩, by decide +kernel⟩, inT mt_10 71 (by decide +kernel) rfl, inT mt_0 153 (by decide +kernel) rfl⟩
theorem mlX12_487 : ML RX12 487 yX12_signedAt := Or.inl (inT mt_10 73 (by decide +kernel) rfl)
set_option maxRecDepth 100000 in
theorem mcX12_signedAt : MCv yX12_signedAt cX12_signedAt 2 (some .int) 1 := ⟨⟨inT mt_1 15 (by decide +kernel) rfl, inT mt_10 76 rfl rfl, ⟨by decide +kernel, by decide +kernel⟩, by decide +kernel⟩, inT mt_10 75 (by decide +kernel) rfl, inT mt_0 154 (by decide +kernel) rfl⟩
theorem mlX12_475 : ML RX12 475 yX12_glyphData := Or.inl (inT mt_10 77 (by decide +kernel) rfl)
set_option maxRecDepth 100000 in
theorem mcX12_glyphData : MCv yX12_glyphData cX12_glyphData 13 none 1 := ⟨⟨inT mt_1 15 (by decide +kernel) rfl, inT mt_10 80 rfl rfl, ⟨by decide +kernel, by decide +kernel⟩, by decide +kernel⟩, inT mt_10 79 (by decide +kernel) rfl, inT mt_0 155 (by decide +kernel) rfl⟩
theorem mlX12_478 : ML RX12 478 yX12_userData := Or.inl (inT mt_10 81 (by decide +kernel) rfl)
set_option maxRecDepth 100000 in
theorem mcX12_userData : MCv yX12_userData cX12_userData 9 none 1 := ⟨⟨inT mt_1 15 (by decide +kernel) rfl, inT mt_10 84 rfl rfl, ⟨by decide +kernel, by decide +kernel⟩, by decide +kernel⟩, inT mt_10 83 (by decide +kernel) rfl, inT mt_0 156 (by decide +kernel) rfl⟩
theorem mlX12_481 : ML RX12 481 yX12_rowData := Or.inl (inT mt_10 85 (by decide +kernel) rfl)
set_option maxRecDepth 100000 in
theorem mcX12_rowData : MCv yX12_rowData cX12_rowData 9 none 1 := ⟨⟨inT mt_1 15 (by decide +kernel) rfl, inT mt_10 88 rfl rfl, ⟨by decide +kernel, by decide +kernel⟩, by decide +kernel⟩, inT mt_10 87 (by decide +kernel) rfl, inT mt_0 157 (by decide +kernel) rfl⟩
theorem mlX12_490 : ML RX12 490 yX12_begin := Or.inl (inT mt_10 89 (by decide +kernel) rfl)
set_option maxRecDepth 100000 in
theorem mcX12_begin : MCv yX12_begin cX12_begin 3 none 1 := ⟨⟨inT mt_1 15 (by decide +kernel) rfl, inT mt_10 92 rfl rfl, ⟨by decide +kernel, by decide +kernel⟩, by decide +kernel⟩, inT mt_10 91 (by decide +kernel) rfl, inT mt_0 158 (by decide +kernel) rfl⟩
theorem mlX12_493 : ML RX12 493 yX12_unpack := Or.inl (inT mt_10 93 (by decide +kernel) rfl)
set_option maxRecDepth 100000 in
theorem mcX12_unpack : MCv yX12_unpack cX12_unpack 5 none 1 := ⟨⟨inT mt_1 15 (by decide +kernel) rfl, inT mt_10 96 rfl rfl, ⟨by decide +kernel, by decide +kernel⟩, by decide +kernel⟩, inT mt_10 95 (by decide +kernel) rfl, inT mt_0 159 (by decide +kernel) rfl⟩
theorem mlX12_499 : ML RX12 499 yX12_changed := Or.inl (inT mt_10 97 (by decide +kernel) rfl)
set_option maxRecDepth 100000 in
theorem mcX12_changed : MCv yX12_changed cX12_changed 8 none 1 := ⟨⟨inT mt_1 15 (by decide +kernel) rfl, inT mt_10 100 rfl rfl, ⟨by decide +kernel, by decide +kernel⟩, by decide +kernel⟩, inT mt_10 99 (by decide +kernel) rfl, inT mt_0 160 (by decide +kernel) rfl⟩
theorem mlX12_502 : ML RX12 502 yX12_fill := Or.inl (inT mt_10 101 (by decide +kernel) rfl)
set_option maxRecDepth 100000 in
theorem mcX12_fill : MCv yX12_fill cX12_fill 2 none 1 := ⟨⟨inT mt_1 15 (by decide +kernel) rfl, inT mt_10 104 rfl rfl, ⟨by decide +kernel, by decide +kernel⟩, by decide +kernel⟩, inT mt_10 103 (by decide +kernel) rfl, inT mt_0 161 (by decide +kernel) rfl⟩
theorem mlX12_373 : ML RX12 373 yX12_field := Or.inl (inT mt_10 105 (by decide +kernel) rfl)
set_option maxRecDepth 100000 in
theorem mcX12_field : MCv yX12_field cX12_field 4 none 3 := ⟨⟨inT mt_1 15 (by decide +kernel) rfl, inT mt_10 108 rfl rfl, ⟨by decide +kernel, by decide +kernel⟩, by decide +kernel⟩, inT mt_10 107 (by decide +kernel) rfl, inT mt_0 162 (by decide +kernel) rfl⟩
theorem mlX12_396 : ML RX12 396 yX12_pageField := Or.inl (inT mt_10 109 (by decide +kernel) rfl)
set_option maxRecDepth 100000 in
theorem mcX12_pageField : MCv yX12_pageField cX12_pageField 3 none 1 := ⟨⟨inT mt_1 15 (by decide +kernel) rfl, inT mt_10 112 rfl rfl, ⟨by decide +kernel, by decide +kernel⟩, by decide +kernel⟩, inT mt_10 111 (by decide +kernel) rfl, inT mt_0 163 (by decide +kernel) rfl⟩
theorem kcX12_431 : Cond.constantLong RX12 431 (150) ∈ TBL := inT mt_10 113 (by decide +kernel) rfl
theorem mlX12_404 : ML RX12 404 yX12_units := Or.inl (inT mt_10 114 (by decide +kernel) rfl)
set_option maxRecDepth 100000 in
theorem mcX12_units : MCv yX12_units cX12_units 3 (some .long) 1 := ⟨⟨inT mt_1 15 (by decide +kernel) rfl, inT mt_10 117 rfl rfl, ⟨by decide +kernel, by decide +kernel⟩, by decide +kernel⟩, inT mt_10 116 (by decide +kernel) rfl, inT mt_0 164 (by decide +kernel) rfl⟩
theorem kcX12_408 : Cond.constantLong RX12 408 (32000) ∈ TBL := inT mt_10 118 (by decide +kernel) rfl
theorem mlX12_399 : ML RX12 399 yX12_placeField := Or.inl (inT mt_10 119 (by decide +kernel) rfl)
set_option maxRecDepth 100000 in
theorem mcX12_placeField : MCv yX12_placeField cX12_placeField 2 none 1 := ⟨⟨inT mt_1 15 (by decide +kernel) rfl, inT mt_10 122 rfl rfl, ⟨by decide +kernel, by decide +kernel⟩, by decide +kernel⟩, inT mt_10 121 (by decide +kernel) rfl, inT mt_0 165 (by decide +kernel) rfl⟩
theorem kcX12_433 : Cond.constantLong RX12 433 (10) ∈ TBL := inT mt_10 123 (by decide +kernel) rfl
theorem kcX12_402 : Cond.constantLong RX12 402 (60) ∈ TBL := inT mt_10 124 (by decide +kernel) rfl
theorem mlX12_410 : ML RX12 410 yX12_macroField := Or.inl (inT mt_10 125 (by decide +kernel) rfl)
set_option maxRecDepth 100000 in
theorem mcX12_macroField : MCv yX12_macroField cX12_macroField 2 none 1 := ⟨⟨inT mt_1 15 (by decide +kernel) rfl, inT mt_10 128 rfl rfl, ⟨by decide +kernel, by decide +kernel⟩, by decide +kernel⟩, inT mt_10 127 (by decide +kernel) rfl, inT mt_0 166 (by decide +kernel) rfl⟩
theorem mlX12_435 : ML RX12 435 yX12_macroAct := Or.inl (inT mt_10 129 (by decide +kernel) rfl)
set_option maxRecDepth 100000 in
theorem mcX12_macroAct : MCv yX12_macroAct cX12_macroAct 3 none 0 := ⟨⟨inT mt_1 15 (by decide +kernel) rfl, inT mt_10 132 rfl rfl, ⟨by decide +kernel, by decide +kernel⟩, by decide +kernel⟩, inT mt_10 131 (by decide +kernel) rfl, inT mt_0 167 (by decide +kernel) rfl⟩
theorem mlX12_438 : ML RX12 438 yX12_define := Or.inl (inT mt_10 133 (by decide +kernel) rfl)
set_option maxRecDepth 100000 in
theorem mcX12_define : MCv yX12_define cX12_define 5 none 1 := ⟨⟨inT mt_1 15 (by decide +kernel) rfl, inT mt_10 136 rfl rfl, ⟨by decide +kernel, by decide +kernel⟩, by decide +kernel⟩, inT mt_10 135 (by decide +kernel) rfl, inT mt_0 168 (by decide +kernel) rfl⟩
theorem mlX12_441 : ML RX12 441 yX12_endsMacro := Or.inl (inT mt_10 137 (by decide +kernel) rfl)
set_option maxRecDepth 100000 in
theorem mcX12_endsMacro : MCv yX12_endsMacro cX12_endsMacro 2 (some .boolean) 1 := ⟨⟨inT mt_1 15 (by decide +kernel) rfl, inT mt_10 140 rfl rfl, ⟨by decide +kernel, by decide +kernel⟩, by decide +kernel⟩, inT mt_10 139 (by decide +kernel) rfl, inT mt_0 169 (by decide +kernel) rfl⟩
theorem mlX12_413 : ML RX12 413 yX12_dotField := Or.inl (inT mt_10 141 (by decide +kernel) rfl)
set_option maxRecDepth 100000 in
theorem mcX12_dotField : MCv yX12_dotField cX12_dotField 2 none 1 := ⟨⟨inT mt_1 15 (by decide +kernel) rfl, inT mt_10 144 rfl rfl, ⟨by decide +kernel, by decide +kernel⟩, by decide +kernel⟩, inT mt_10 143 (by decide +kernel) rfl, inT mt_0 170 (by decide +kernel) rfl⟩
theorem mlX12_416 : ML RX12 416 yX12_modelField := Or.inl (inT mt_10 145 (by decide +kernel) rfl)
set_option maxRecDepth 100000 in
theorem mcX12_modelField : MCv yX12_modelField cX12_modelField 2 none 1 := ⟨⟨inT mt_1 15 (by decide +kernel) rfl, inT mt_10 148 rfl rfl, ⟨by decide +kernel, by decide +kernel⟩, by decide +kernel⟩, inT mt_10 147 (by decide +kernel) rfl, inT mt_0 171 (by decide +kernel) rfl⟩
theorem mlX12_445 : ML RX12 445 yX12_hasPattern := Or.inl (inT mt_10 149 (by decide +kernel) rfl)
set_option maxRecDepth 100000 in
theorem mcX12_hasPattern : MCv yX12_hasPattern cX12_hasPattern 3 (some .boolean) 2 := ⟨⟨inT mt_1 15 (by decide +kernel) rfl, inT mt_10 152 rfl rfl, ⟨by decide +kernel, by decide +kernel⟩, by decide +kernel⟩, inT mt_10 151 (by decide +kernel) rfl, inT mt_0 172 (by decide +kernel) rfl⟩
theorem mlX12_449 : ML RX12 449 yX12_putPattern := Or.inl (inT mt_10 153 (by decide +kernel) rfl)
set_option maxRecDepth 100000 in
theorem mcX12_putPattern : MCv yX12_putPattern cX12_putPattern 6 none 4 := ⟨⟨inT mt_1 15 (by decide +kernel) rfl, inT mt_10 156 rfl rfl, ⟨by decide +kernel, by decide +kernel⟩, by decide +kernel⟩, inT mt_10 155 (by decide +kernel) rfl, inT mt_0 173 (by decide +kernel) rfl⟩
theorem mlX12_419 : ML RX12 419 yX12_thingField := Or.inl (inT mt_10 157 (by decide +kernel) rfl)
set_option maxRecDepth 100000 in
theorem mcX12_thingField : MCv yX12_thingField cX12_thingField 2 none 1 := ⟨⟨inT mt_1 15 (by decide +kernel) rfl, inT mt_10 160 rfl rfl, ⟨by decide +kernel, by decide +kernel⟩, by decide +kernel⟩, inT mt_10 159 (by decide +kernel) rfl, inT mt_0 174 (by decide +kernel) rfl⟩
theorem mlX12_455 : ML RX12 455 yX12_dotsUp := Or.inl (inT mt_10 161 (by decide +kernel) rfl)
set_option maxRecDepth 100000 in
theorem mcX12_dotsUp : MCs yX12_dotsUp cX12_dotsUp 2 (some .int) 1 := ⟨⟨inT mt_1 15 (by decide +kernel) rfl, inT mt_10 163 rfl rfl, ⟨by decide +kernel, by decide +kernel⟩, by decide +kernel⟩, inT mt_10 162 (by decide +kernel) rfl⟩
theorem kcX12_453 : Cond.constantLong RX12 453 (95) ∈ TBL := inT mt_10 164 (by decide +kernel) rfl
theorem mlX12_459 : ML RX12 459 yX12_rectangle := Or.inl (inT mt_10 165 (by decide +kernel) rfl)
set_option maxRecDepth 100000 in
theorem mcX12_rectangle : MCv yX12_rectangle cX12_rectangle 7 none 0 := ⟨⟨inT mt_1 15 (by decide +kernel) rfl, inT mt_10 168 rfl rfl, ⟨by decide +kernel, by decide +kernel⟩, by decide +kernel⟩, inT mt_10 167 (by decide +kernel) rfl, inT mt_0 175 (by decide +kernel) rfl⟩
theorem mlX12_462 : ML RX12 462 yX12_fontAct := Or.inl (inT mt_10 169 (by decide +kernel) rfl)
set_option maxRecDepth 100000 in
theorem mcX12_fontAct : MCv yX12_fontAct cX12_fontAct 2 none 0 := ⟨⟨inT mt_1 15 (by decide +kernel) rfl, inT mt_10 172 rfl rfl, ⟨by decide +kernel, by decide +kernel⟩, by decide +kernel⟩, inT mt_10 171 (by decide +kernel) rfl, inT mt_0 176 (by decide +kernel) rfl⟩
theorem mlX12_465 : ML RX12 465 yX12_userAct := Or.inl (inT mt_10 173 (by decide +kernel) rfl)
set_option maxRecDepth 100000 in
theorem mcX12_userAct : MCv yX12_userAct cX12_userAct 3 none 0 := ⟨⟨inT mt_1 15 (by decide +kernel) rfl, inT mt_10 176 rfl rfl, ⟨by decide +kernel, by decide +kernel⟩, by decide +kernel⟩, inT mt_10 175 (by decide +kernel) rfl, inT mt_0 177 (by decide +kernel) rfl⟩
theorem mlX12_422 : ML RX12 422 yX12_rasterField := Or.inl (inT mt_10 177 (by decide +kernel) rfl)
set_option maxRecDepth 100000 in
theorem mcX12_rasterField : MCv yX12_rasterField cX12_rasterField 2 none 1 := ⟨⟨inT mt_1 15 (by decide +kernel) rfl, inT mt_10 180 rfl rfl, ⟨by decide +kernel, by decide +kernel⟩, by decide +kernel⟩, inT mt_10 179 (by decide +kernel) rfl, inT mt_0 178 (by decide +kernel) rfl⟩
theorem mlX12_425 : ML RX12 425 yX12_rowField := Or.inl (inT mt_10 181 (by decide +kernel) rfl)
set_option maxRecDepth 100000 in
theorem mcX12_rowField : MCv yX12_rowField cX12_rowField 4 none 1 := ⟨⟨inT mt_1 15 (by decide +kernel) rfl, inT mt_10 184 rfl rfl, ⟨by decide +kernel, by decide +kernel⟩, by decide +kernel⟩, inT mt_10 183 (by decide +kernel) rfl, inT mt_0 179 (by decide +kernel) rfl⟩
theorem mlX12_428 : ML RX12 428 yX12_fontField := Or.inl (inT mt_10 185 (by decide +kernel) rfl)
set_option maxRecDepth 100000 in
theorem mcX12_fontField : MCv yX12_fontField cX12_fontField 8 none 3 := ⟨⟨inT mt_1 15 (by decide +kernel) rfl, inT mt_10 188 rfl rfl, ⟨by decide +kernel, by decide +kernel⟩, by decide +kernel⟩, inT mt_10 187 (by decide +kernel) rfl, inT mt_0 180 (by decide +kernel) rfl⟩
theorem kcX12_468 : Cond.constantLong RX12 468 (72000000) ∈ TBL := inT mt_10 189 (by decide +kernel) rfl
theorem kcX12_470 : Cond.constantLong RX12 470 (7200) ∈ TBL := inT mt_10 190 (by decide +kernel) rfl
theorem mlX12_295 : ML RX12 295 yX12_plain := Or.inl (inT mt_10 191 (by decide +kernel) rfl)
set_option maxRecDepth 100000 in
theorem mcX12_plain : MCv yX12_plain cX12_plain 2 none 1 := ⟨⟨inT mt_1 15 (by decide +kernel) rfl, inT mt_10 194 rfl rfl, ⟨by decide +kernel, by decide +kernel⟩, by decide +kernel⟩, inT mt_10 193 (by decide +kernel) rfl, inT mt_0 181 (by decide +kernel) rfl⟩
theorem mlX12_301 : ML RX12 301 yX12_tab := Or.inl (inT mt_10 195 (by decide +kernel) rfl)
set_option maxRecDepth 100000 in
theorem mcX12_tab : MCv yX12_tab cX12_tab 5 none 0 := ⟨⟨inT mt_1 15 (by decide +kernel) rfl, inT mt_10 198 rfl rfl, ⟨by decide +kernel, by decide +kernel⟩, by decide +kernel⟩, inT mt_10 197 (by decide +kernel) rfl, inT mt_0 182 (by decide +kernel) rfl⟩
theorem mlX12_658 : ML RX12 658 yX12_pictures := Or.inl (inT mt_10 199 (by decide +kernel) rfl)
set_option maxRecDepth 100000 in
theorem mcX12_pictures : MCv yX12_pictures cX12_pictures 14 (some .boolean) 1 := ⟨⟨inT mt_1 15 (by decide +kernel) rfl, inT mt_10 202 rfl rfl, ⟨by decide +kernel, by decide +kernel⟩, by decide +kernel⟩, inT mt_10 201 (by decide +kernel) rfl, inT mt_0 183 (by decide +kernel) rfl⟩
theorem mlX12_592 : ML RX12 592 yX12_wrong := Or.inl (inT mt_10 203 (by decide +kernel) rfl)
set_option maxRecDepth 100000 in
theorem mcX12_wrong : MCv yX12_wrong cX12_wrong 3 (some .boolean) 2 := ⟨⟨inT mt_1 15 (by decide +kernel) rfl, inT mt_10 206 rfl rfl, ⟨by decide +kernel, by decide +kernel⟩, by decide +kernel⟩, inT mt_10 205 (by decide +kernel) rfl, inT mt_0 184 (by decide +kernel) rfl⟩
theorem mlX12_595 : ML RX12 595 yX12_picture := Or.inl (inT mt_10 207 (by decide +kernel) rfl)
set_option maxRecDepth 100000 in
theorem mcX12_picture : MCv yX12_picture cX12_picture 7 (some .long) 2 := ⟨⟨inT mt_1 15 (by decide +kernel) rfl, inT mt_10 210 rfl rfl, ⟨by decide +kernel, by decide +kernel⟩, by decide +kernel⟩, inT mt_10 209 (by decide +kernel) rfl, inT mt_0 185 (by decide +kernel) rfl⟩
theorem kcX12_601 : Cond.constantLong RX12 601 (12) ∈ TBL := inT mt_10 211 (by decide +kernel) rfl
theorem kcX12_603 : Cond.constantLong RX12 603 (4) ∈ TBL := inT mt_10 212 (by decide +kernel) rfl
theorem kcX12_605 : Cond.constantLong RX12 605 (-1) ∈ TBL := inT mt_10 213 (by decide +kernel) rfl
theorem mlX12_607 : ML RX12 607 yX12_directory := Or.inl (inT mt_10 214 (by decide +kernel) rfl)
set_option maxRecDepth 100000 in
theorem mcX12_directory : MCv yX12_directory cX12_directory 16 (some .boolean) 2 := ⟨⟨inT mt_1 15 (by decide +kernel) rfl, inT mt_10 217 rfl rfl, ⟨by decide +kernel, by decide +kernel⟩, by decide +kernel⟩, inT mt_10 216 (by decide +kernel) rfl, inT mt_0 186 (by decide +kernel) rfl⟩
theorem mlX12_616 : ML RX12 616 yX12_isLooked := Or.inl (inT mt_10 218 (by decide +kernel) rfl)
set_option maxRecDepth 100000 in
theorem mcX12_isLooked : MCs yX12_isLooked cX12_isLooked 1 (some .boolean) 1 := ⟨⟨inT mt_1 15 (by decide +kernel) rfl, inT mt_10 220 rfl rfl, ⟨by decide +kernel, by decide +kernel⟩, by decide +kernel⟩, inT mt_10 219 (by decide +kernel) rfl⟩
theorem kcX12_610 : Cond.constantLong RX12 610 (3) ∈ TBL := inT mt_10 221 (by decide +kernel) rfl
theorem mlX12_619 : ML RX12 619 yX12_valueOf := Or.inl (inT mt_10 222 (by decide +kernel) rfl)
set_option maxRecDepth 100000 in
theorem mcX12_valueOf : MCv yX12_valueOf cX12_valueOf 7 (some .long) 2 := ⟨⟨inT mt_1 15 (by decide +kernel) rfl, inT mt_10 225 rfl rfl, ⟨by decide +kernel, by decide +kernel⟩, by decide +kernel⟩, inT mt_10 224 (by decide +kernel) rfl, inT mt_0 187 (by decide +kernel) rfl⟩
theorem mlX12_622 : ML RX12 622 yX12_isMay := Or.inl (inT mt_10 226 (by decide +kernel) rfl)
set_option maxRecDepth 100000 in
theorem mcX12_isMay : MCs yX12_isMay cX12_isMay 3 (some .boolean) 2 := ⟨⟨inT mt_1 15 (by decide +kernel) rfl, inT mt_10 228 rfl rfl, ⟨by decide +kernel, by decide +kernel⟩, by decide +kernel⟩, inT mt_10 227 (by decide +kernel) rfl⟩
theorem kcX12_612 : Cond.constantLong RX12 612 (640) ∈ TBL := inT mt_10 229 (by decide +kernel) rfl
theorem kcX12_614 : Cond.constantLong RX12 614 (800) ∈ TBL := inT mt_10 230 (by decide +kernel) rfl
theorem mlX12_638 : ML RX12 638 yX12_readRow_ := Or.inl (inT mt_10 231 (by decide +kernel) rfl)
set_option maxRecDepth 100000 in
theorem mcX12_readRow_ : MCv yX12_readRow_ cX12_readRow_ 4 (some .boolean) 0 := ⟨⟨inT mt_1 15 (by decide +kernel) rfl, inT mt_10 234 rfl rfl, ⟨by decide +kernel, by decide +kernel⟩, by decide +kernel⟩, inT mt_10 233 (by decide +kernel) rfl, inT mt_0 188 (by decide +kernel) rfl⟩
theorem mlX12_646 : ML RX12 646 yX12_mode := Or.inl (inT mt_10 235 (by decide +kernel) rfl)
set_option maxRecDepth 100000 in
theorem mcX12_mode : MCv yX12_mode cX12_mode 5 (some .int) 0 := ⟨⟨inT mt_1 15 (by decide +kernel) rfl, inT mt_10 238 rfl rfl, ⟨by decide +kernel, by decide +kernel⟩, by decide +kernel⟩, inT mt_10 237 (by decide +kernel) rfl, inT mt_0 189 (by decide +kernel) rfl⟩
theorem mlX12_643 : ML RX12 643 yX12_bit := Or.inl (inT mt_10 239 (by decide +kernel) rfl)
set_option maxRecDepth 100000 in
theorem mcX12_bit : MCv yX12_bit cX12_bit 3 (some .int) 0 := ⟨⟨inT mt_1 15 (by decide +kernel) rfl, inT mt_11 2 rfl rfl, ⟨by decide +kernel, by decide +kernel⟩, by decide +kernel⟩, inT mt_11 1 (by decide +kernel) rfl, inT mt_0 190 (by decide +kernel) rfl⟩
theorem mlX12_649 : ML RX12 649 yX12_readRun := Or.inl (inT mt_11 3 (by decide +kernel) rfl)
set_option maxRecDepth 100000 in
theorem mcX12_readRun : MCv yX12_readRun cX12_readRun 5 (some .int) 1 := ⟨⟨inT mt_1 15 (by decide +kernel) rfl, inT mt_11 6 rfl rfl, ⟨by decide +kernel, by decide +kernel⟩, by decide +kernel⟩, inT mt_11 5 (by decide +kernel) rfl, inT mt_0 191 (by decide +kernel) rfl⟩
theorem mlX12_640 : ML RX12 640 yX12_oneRun := Or.inl (inT mt_11 7 (by decide +kernel) rfl)
set_option maxRecDepth 100000 in
theorem mcX12_oneRun : MCv yX12_oneRun cX12_oneRun 6 (some .int) 1 := ⟨⟨inT mt_1 15 (by decide +kernel) rfl, inT mt_11 10 rfl rfl, ⟨by decide +kernel, by decide +kernel⟩, by decide +kernel⟩, inT mt_11 9 (by decide +kernel) rfl, inT mt_0 192 (by decide +kernel) rfl⟩
theorem mlX12_652 : ML RX12 652 yX12_paint := Or.inl (inT mt_11 11 (by decide +kernel) rfl)
set_option maxRecDepth 100000 in
theorem mcX12_paint : MCv yX12_paint cX12_paint 3 none 2 := ⟨⟨inT mt_1 15 (by decide +kernel) rfl, inT mt_11 14 rfl rfl, ⟨by decide +kernel, by decide +kernel⟩, by decide +kernel⟩, inT mt_11 13 (by decide +kernel) rfl, inT mt_0 193 (by decide +kernel) rfl⟩
theorem mlL_39 : ML RL 39 yX12_fault := Or.inl (inT mt_11 15 (by decide +kernel) rfl)
set_option maxRecDepth 100000 in
theorem mcX12_fault : MCv yX12_fault cX12_fault 2 (some .int) 1 := ⟨⟨inT mt_1 15 (by decide +kernel) rfl, inT mt_11 18 rfl rfl, ⟨by decide +kernel, by decide +kernel⟩, by decide +kernel⟩, inT mt_11 16 (by decide +kernel) rfl, inT mt_11 17 (by decide +kernel) rfl⟩
theorem mlL_43 : ML RL 43 yX12_outs := Or.inl (inT mt_11 19 (by decide +kernel) rfl)
set_option maxRecDepth 100000 in
theorem mcX12_outs : MCv yX12_outs cX12_outs 1 (some .int) 0 := ⟨⟨inT mt_1 15 (by decide +kernel) rfl, inT mt_11 22 rfl rfl, ⟨by decide +kernel, by decide +kernel⟩, by decide +kernel⟩, inT mt_11 20 (by decide +kernel) rfl, inT mt_11 21 (by decide +kernel) rfl⟩
theorem mlL_47 : ML RL 47 yX12_out := Or.inl (inT mt_11 23 (by decide +kernel) rfl)
set_option maxRecDepth 100000 in
theorem mcX12_out : MCv yX12_out cX12_out 2 (some .int) 1 := ⟨⟨inT mt_1 15 (by decide +kernel) rfl, inT mt_11 26 rfl rfl, ⟨by decide +kernel, by decide +kernel⟩, by decide +kernel⟩, inT mt_11 24 (by decide +kernel) rfl, inT mt_11 25 (by decide +kernel) rfl⟩
theorem mlL_51 : ML RL 51 yX12_sum := Or.inl (inT mt_11 27 (by decide +kernel) rfl)
set_option maxRecDepth 100000 in
theorem mcX12_sum : MCv yX12_sum cX12_sum 3 (some .int) 0 := ⟨⟨inT mt_1 15 (by decide +kernel) rfl, inT mt_11 30 rfl rfl, ⟨by decide +kernel, by decide +kernel⟩, by decide +kernel⟩, inT mt_11 28 (by decide +kernel) rfl, inT mt_11 29 (by decide +kernel) rfl⟩
theorem mlL_55 : ML RL 55 yX12_take := Or.inl (inT mt_11 31 (by decide +kernel) rfl)
set_option maxRecDepth 100000 in
theorem mcX12_take : MCv yX12_take cX12_take 2 (some .int) 0 := ⟨⟨inT mt_1 15 (by decide +kernel) rfl, inT mt_11 34 rfl rfl, ⟨by decide +kernel, by decide +kernel⟩, by decide +kernel⟩, inT mt_11 32 (by decide +kernel) rfl, inT mt_11 33 (by decide +kernel) rfl⟩
theorem mlL_59 : ML RL 59 yX12_pages := Or.inl (inT mt_11 35 (by decide +kernel) rfl)
set_option maxRecDepth 100000 in
theorem mcX12_pages : MCv yX12_pages cX12_pages 1 (some .int) 0 := ⟨⟨inT mt_1 15 (by decide +kernel) rfl, inT mt_11 38 rfl rfl, ⟨by decide +kernel, by decide +kernel⟩, by decide +kernel⟩, inT mt_11 36 (by decide +kernel) rfl, inT mt_11 37 (by decide +kernel) rfl⟩
theorem mlL_63 : ML RL 63 yX12_width := Or.inl (inT mt_11 39 (by decide +kernel) rfl)
set_option maxRecDepth 100000 in
theorem mcX12_width : MCv yX12_width cX12_width 2 (some .int) 1 := ⟨⟨inT mt_1 15 (by decide +kernel) rfl, inT mt_11 42 rfl rfl, ⟨by decide +kernel, by decide +kernel⟩, by decide +kernel⟩, inT mt_11 40 (by decide +kernel) rfl, inT mt_11 41 (by decide +kernel) rfl⟩
theorem mlL_67 : ML RL 67 yX12_height := Or.inl (inT mt_11 43 (by decide +kernel) rfl)
set_option maxRecDepth 100000 in
theorem mcX12_height : MCv yX12_height cX12_height 2 (some .int) 1 := ⟨⟨inT mt_1 15 (by decide +kernel) rfl, inT mt_11 46 rfl rfl, ⟨by decide +kernel, by decide +kernel⟩, by decide +kernel⟩, inT mt_11 44 (by decide +kernel) rfl, inT mt_11 45 (by decide +kernel) rfl⟩
theorem mlL_72 : ML RL 72 yX12_dot := Or.inl (inT mt_11 47 (by decide +kernel) rfl)
set_option maxRecDepth 100000 in
theorem mcX12_dot : MCv yX12_dot cX12_dot 4 (some .int) 3 := ⟨⟨inT mt_1 15 (by decide +kernel) rfl, inT mt_11 50 rfl rfl, ⟨by decide +kernel, by decide +kernel⟩, by decide +kernel⟩, inT mt_11 48 (by decide +kernel) rfl, inT mt_11 49 (by decide +kernel) rfl⟩
theorem mlL_77 : ML RL 77 yX12_black := Or.inl (inT mt_11 51 (by decide +kernel) rfl)
set_option maxRecDepth 100000 in
theorem mcX12_black : MCv yX12_black cX12_black 5 (some .int) 2 := ⟨⟨inT mt_1 15 (by decide +kernel) rfl, inT mt_11 54 rfl rfl, ⟨by decide +kernel, by decide +kernel⟩, by decide +kernel⟩, inT mt_11 52 (by decide +kernel) rfl, inT mt_11 53 (by decide +kernel) rfl⟩
theorem mlL_81 : ML RL 81 yX12_state := Or.inl (inT mt_11 55 (by decide +kernel) rfl)
set_option maxRecDepth 100000 in
theorem mcX12_state : MCv yX12_state cX12_state 2 (some .int) 1 := ⟨⟨inT mt_1 15 (by decide +kernel) rfl, inT mt_11 58 rfl rfl, ⟨by decide +kernel, by decide +kernel⟩, by decide +kernel⟩, inT mt_11 56 (by decide +kernel) rfl, inT mt_11 57 (by decide +kernel) rfl⟩
theorem mlL_85 : ML RL 85 yX12_held := Or.inl (inT mt_11 59 (by decide +kernel) rfl)
set_option maxRecDepth 100000 in
theorem mcX12_held : MCv yX12_held cX12_held 4 (some .int) 1 := ⟨⟨inT mt_1 15 (by decide +kernel) rfl, inT mt_11 62 rfl rfl, ⟨by decide +kernel, by decide +kernel⟩, by decide +kernel⟩, inT mt_11 60 (by decide +kernel) rfl, inT mt_11 61 (by decide +kernel) rfl⟩
theorem mlL_89 : ML RL 89 yX12_off := Or.inl (inT mt_11 63 (by decide +kernel) rfl)
set_option maxRecDepth 100000 in
theorem mcX12_off : MCv yX12_off cX12_off 2 (some .int) 0 := ⟨⟨inT mt_1 15 (by decide +kernel) rfl, inT mt_11 66 rfl rfl, ⟨by decide +kernel, by decide +kernel⟩, by decide +kernel⟩, inT mt_11 64 (by decide +kernel) rfl, inT mt_11 65 (by decide +kernel) rfl⟩
theorem mlX12_664 : ML RX12 664 yX12_held := Or.inl (inT mt_11 67 (by decide +kernel) rfl)
theorem gsJ0_9 : Cond.fieldLink RJ0 9 "java/lang/String" "value" "[B" ∈ TBL := inT mt_11 68 (by decide +kernel) rfl
theorem gsJ0_15 : Cond.fieldLink RJ0 15 "java/lang/String" "coder" "B" ∈ TBL := inT mt_11 69 (by decide +kernel) rfl
theorem oi_inst : Cond.instanceMethod objectInit ∈ TBL := inT mt_1 28 (by decide +kernel) rfl
set_option maxRecDepth 100000 in
theorem oi_code : Cond.code objectInit ⟨#[0xb1]⟩ 1 none ∈ TBL := inT mt_1 29 rfl rfl
theorem ac_nat : Cond.native arraycopyName ∈ TBL := inT mt_1 188 (by decide +kernel) rfl
theorem ac_sta : Cond.static arraycopyName ∈ TBL := inT mt_1 187 (by decide +kernel) rfl
theorem ac_ini : Cond.initialized "java/lang/System" ∈ TBL := inT mt_1 9 (by decide +kernel) rfl
